theorem in_ix {v : Int32} {N : Nat} (hN : N < 2 ^ 31) (h : ¬ (v < 0 ∨ nI N ≤ v)) : ∃ j, j < N ∧ v = nI j := by
  obtain ⟨j, hj, rfl⟩ := nI_of (fun h1 => h (Or.inl h1))
  exact ⟨j, Nat.lt_of_not_le fun h1 => h (Or.inr (nI_le h1 hj)), rfl⟩
theorem in_to {v M : Int32} {N : Nat} (hM : M.toInt = N) (h : ¬ (v < 0 ∨ M < v)) : ∃ j, j ≤ N ∧ v = nI j := nI_of2 hM (fun h1 => h (Or.inl h1)) (Int32.not_lt.mp fun h1 => h (Or.inr h1))
theorem sub5 {Ls si : Nat} (hL : Ls ≤ 2562) (hs : si < 2 ^ 31) : (nI Ls - 5 < nI si) ↔ Ls < si + 5 := by
  by_cases h : 5 ≤ Ls
  · obtain ⟨k, rfl⟩ : ∃ k, Ls = k + 5 := ⟨Ls - 5, by omega⟩
    have e : nI (k + 5) - 5 = nI k := by
      rw [← nI_add k 5]
      exact Int32.add_sub_cancel _ _
    rw [e, nI_ltI (by omega) hs]; omega
  · refine ⟨fun _ => by omega, fun _ => ?_⟩
    have h0 : nI Ls - 5 < 0 := by
      match Ls, h with
      | 0, _ => decide
      | 1, _ => decide
      | 2, _ => decide
      | 3, _ => decide
      | 4, _ => decide
      | k + 5, h => exact absurd (by omega) h
    have h1 := nI_pos' hs
    rw [Int32.lt_iff_toInt_lt] at h0 ⊢
    rw [Int32.le_iff_toInt_le] at h1
    exact Int.lt_of_lt_of_le h0 h1
theorem op_board {p : Program} {l : Launch} {e : Env} {s : State} {m : MethodId} {below : List Frame} {meth : Method} {c : Code} {G : va_G} {dA : Nat → ClassId} {b Ls si : Nat} {xs : Nat → Int32} {sa ad : Nat → Nat} {L : List Nat} {nl nb : Nat} {q qk : Nat → Option Nat} {x : sR} {kk : Nat → UInt64 × UInt64} {tt : sT} {f : Nat → va_E} {H : Heap} {locs : List Loc} {ls : Array Slot} {cells slots : Nat} (hLC : LC p l s m c meth b Ls xs G dA sa ad L nl nb q qk) (hsi : si + 5 ≤ Ls) (hc1 : cells + 1 ≤ room_1.cells) (hs1 : slots + 6 ≤ room_1.slots) (hLI : LwI ad dA nl nb q qk x kk tt f) (hhr : x.2.2.2.2.2 < 2 ^ 29) (hw : ww G dA (fun z : Nat => s.heap.size ≤ z) s L f H locs) (hl : lv_has ls 10 [(0, .ref b), (1, .ref (ad 0)), (2, .ref (ad 16)), (3, .ref (ad 32)), (4, .ref (ad 33)), (5, .int (nI si))])
    (kk9 : ∀ (x2 : sR) (kk2 : Nat → UInt64 × UInt64) (tt2 : sT) (f2 : Nat → va_E) (H : Heap) (locs : List Loc) (ls : Array Slot), LwI ad dA nl nb q qk x2 kk2 tt2 f2 → x2.2.2.2.2.2 ≤ x.2.2.2.2.2 + 100 → ww G dA (fun z : Nat => s.heap.size ≤ z) s L f2 H locs → lv_has ls 10 [(0, .ref b), (1, .ref (ad 0)), (2, .ref (ad 16)), (3, .ref (ad 32)), (4, .ref (ad 33)), (5, .int (nI si))] → W p l e room_1 s m #[Value.ref b] below meth c H locs (cells + 1) (slots + 6) (lw_Z below #[Value.ref b] s) (F0 m 1177 ls [])) : W p l e room_1 s m #[Value.ref b] below meth c H locs cells slots (lw_Z below #[Value.ref b] s) (F0 m 148 ls []) := by
  have hC := hLC.2.2.2.2.2.2.2.2.2.1
  by_cases ha : xs (si + 1) < 0 ∨ nI nb ≤ xs (si + 1)
  · exact k_board_1  hLC hsi hc1 hs1 hLI hhr hw hl ha kk9
  obtain ⟨j, hj, hj1⟩ := in_ix hC.nb31 ha
  by_cases hb9 : xs (si + 4) < 0 ∨ nI 4 ≤ xs (si + 4)
  · exact k_board_2 j hLC hsi hc1 hs1 hLI hhr hw hl hj hj1 hb9 kk9
  obtain ⟨kc, hc, hk1⟩ := in_ix (by decide) hb9
  by_cases h1 : inR (sv (xs (si + 2))) FP.dconst1 4645744490609377280
  · by_cases h2 : inR (sv (xs (si + 3))) FP.dconst0 4613937818241073152
    · exact k_board_0 j kc hLC hsi hc1 hs1 hLI hhr hw hl hj hj1 hc hk1 h1 h2 kk9
    · exact k_board_4 j kc hLC hsi hc1 hs1 hLI hhr hw hl hj hj1 hc hk1 h1 h2 kk9
  · exact k_board_3 j kc hLC hsi hc1 hs1 hLI hhr hw hl hj hj1 hc hk1 h1 kk9
theorem op_rate {p : Program} {l : Launch} {e : Env} {s : State} {m : MethodId} {below : List Frame} {meth : Method} {c : Code} {G : va_G} {dA : Nat → ClassId} {b Ls si : Nat} {xs : Nat → Int32} {sa ad : Nat → Nat} {L : List Nat} {nl nb : Nat} {q qk : Nat → Option Nat} {x : sR} {kk : Nat → UInt64 × UInt64} {tt : sT} {f : Nat → va_E} {H : Heap} {locs : List Loc} {ls : Array Slot} {cells slots : Nat} (hLC : LC p l s m c meth b Ls xs G dA sa ad L nl nb q qk) (hsi : si + 5 ≤ Ls) (hc1 : cells + 1 ≤ room_1.cells) (hs1 : slots + 6 ≤ room_1.slots) (hLI : LwI ad dA nl nb q qk x kk tt f) (hhr : x.2.2.2.2.2 < 2 ^ 29) (hw : ww G dA (fun z : Nat => s.heap.size ≤ z) s L f H locs) (hl : lv_has ls 10 [(0, .ref b), (1, .ref (ad 0)), (2, .ref (ad 16)), (3, .ref (ad 32)), (4, .ref (ad 33)), (5, .int (nI si))])
    (kk9 : ∀ (x2 : sR) (kk2 : Nat → UInt64 × UInt64) (tt2 : sT) (f2 : Nat → va_E) (H : Heap) (locs : List Loc) (ls : Array Slot), LwI ad dA nl nb q qk x2 kk2 tt2 f2 → x2.2.2.2.2.2 ≤ x.2.2.2.2.2 + 100 → ww G dA (fun z : Nat => s.heap.size ≤ z) s L f2 H locs → lv_has ls 10 [(0, .ref b), (1, .ref (ad 0)), (2, .ref (ad 16)), (3, .ref (ad 32)), (4, .ref (ad 33)), (5, .int (nI si))] → W p l e room_1 s m #[Value.ref b] below meth c H locs (cells + 1) (slots + 6) (lw_Z below #[Value.ref b] s) (F0 m 1177 ls [])) : W p l e room_1 s m #[Value.ref b] below meth c H locs cells slots (lw_Z below #[Value.ref b] s) (F0 m 240 ls []) := by
  have hC := hLC.2.2.2.2.2.2.2.2.2.1
  by_cases ha : xs (si + 1) < 0 ∨ nI 4 ≤ xs (si + 1)
  · exact k_rate_1  hLC hsi hc1 hs1 hLI hhr hw hl ha kk9
  obtain ⟨kc, hc, hk1⟩ := in_ix (by decide) ha
  by_cases h1 : inR (sv (xs (si + 2))) FP.dconst0 4620693217682128896
  · by_cases h2 : inR (sv (xs (si + 3))) FP.dconst0 4620693217682128896
    · exact k_rate_0 kc hLC hsi hc1 hs1 hLI hhr hw hl hc hk1 h1 h2 kk9
    · exact k_rate_3 kc hLC hsi hc1 hs1 hLI hhr hw hl hc hk1 h1 h2 kk9
  · exact k_rate_2 kc hLC hsi hc1 hs1 hLI hhr hw hl hc hk1 h1 kk9
theorem op_air {p : Program} {l : Launch} {e : Env} {s : State} {m : MethodId} {below : List Frame} {meth : Method} {c : Code} {G : va_G} {dA : Nat → ClassId} {b Ls si : Nat} {xs : Nat → Int32} {sa ad : Nat → Nat} {L : List Nat} {nl nb : Nat} {q qk : Nat → Option Nat} {x : sR} {kk : Nat → UInt64 × UInt64} {tt : sT} {f : Nat → va_E} {H : Heap} {locs : List Loc} {ls : Array Slot} {cells slots : Nat} (hLC : LC p l s m c meth b Ls xs G dA sa ad L nl nb q qk) (hsi : si + 5 ≤ Ls) (hc1 : cells + 1 ≤ room_1.cells) (hs1 : slots + 6 ≤ room_1.slots) (hLI : LwI ad dA nl nb q qk x kk tt f) (hhr : x.2.2.2.2.2 < 2 ^ 29) (hw : ww G dA (fun z : Nat => s.heap.size ≤ z) s L f H locs) (hl : lv_has ls 10 [(0, .ref b), (1, .ref (ad 0)), (2, .ref (ad 16)), (3, .ref (ad 32)), (4, .ref (ad 33)), (5, .int (nI si))])
    (kk9 : ∀ (x2 : sR) (kk2 : Nat → UInt64 × UInt64) (tt2 : sT) (f2 : Nat → va_E) (H : Heap) (locs : List Loc) (ls : Array Slot), LwI ad dA nl nb q qk x2 kk2 tt2 f2 → x2.2.2.2.2.2 ≤ x.2.2.2.2.2 + 100 → ww G dA (fun z : Nat => s.heap.size ≤ z) s L f2 H locs → lv_has ls 10 [(0, .ref b), (1, .ref (ad 0)), (2, .ref (ad 16)), (3, .ref (ad 32)), (4, .ref (ad 33)), (5, .int (nI si))] → W p l e room_1 s m #[Value.ref b] below meth c H locs (cells + 1) (slots + 6) (lw_Z below #[Value.ref b] s) (F0 m 1177 ls [])) : W p l e room_1 s m #[Value.ref b] below meth c H locs cells slots (lw_Z below #[Value.ref b] s) (F0 m 320 ls []) := by
  have hC := hLC.2.2.2.2.2.2.2.2.2.1
  by_cases h1 : inR (sv (xs (si + 1))) 4643000109586448384 4645744490609377280
  · by_cases h2 : inR (sv (xs (si + 2))) FP.dconst0 FP.dconst1
    · by_cases h3 : inR (sv (xs (si + 3))) FP.dconst0 4625196817309499392
      · exact k_air_0  hLC hsi hc1 hs1 hLI hhr hw hl h1 h2 h3 kk9
      · exact k_air_3  hLC hsi hc1 hs1 hLI hhr hw hl h1 h2 h3 kk9
    · exact k_air_2  hLC hsi hc1 hs1 hLI hhr hw hl h1 h2 kk9
  · exact k_air_1  hLC hsi hc1 hs1 hLI hhr hw hl h1 kk9
theorem op_vent {p : Program} {l : Launch} {e : Env} {s : State} {m : MethodId} {below : List Frame} {meth : Method} {c : Code} {G : va_G} {dA : Nat → ClassId} {b Ls si : Nat} {xs : Nat → Int32} {sa ad : Nat → Nat} {L : List Nat} {nl nb : Nat} {q qk : Nat → Option Nat} {x : sR} {kk : Nat → UInt64 × UInt64} {tt : sT} {f : Nat → va_E} {H : Heap} {locs : List Loc} {ls : Array Slot} {cells slots : Nat} (hLC : LC p l s m c meth b Ls xs G dA sa ad L nl nb q qk) (hsi : si + 5 ≤ Ls) (hc1 : cells + 1 ≤ room_1.cells) (hs1 : slots + 6 ≤ room_1.slots) (hLI : LwI ad dA nl nb q qk x kk tt f) (hhr : x.2.2.2.2.2 < 2 ^ 29) (hw : ww G dA (fun z : Nat => s.heap.size ≤ z) s L f H locs) (hl : lv_has ls 10 [(0, .ref b), (1, .ref (ad 0)), (2, .ref (ad 16)), (3, .ref (ad 32)), (4, .ref (ad 33)), (5, .int (nI si))])
    (kk9 : ∀ (x2 : sR) (kk2 : Nat → UInt64 × UInt64) (tt2 : sT) (f2 : Nat → va_E) (H : Heap) (locs : List Loc) (ls : Array Slot), LwI ad dA nl nb q qk x2 kk2 tt2 f2 → x2.2.2.2.2.2 ≤ x.2.2.2.2.2 + 100 → ww G dA (fun z : Nat => s.heap.size ≤ z) s L f2 H locs → lv_has ls 10 [(0, .ref b), (1, .ref (ad 0)), (2, .ref (ad 16)), (3, .ref (ad 32)), (4, .ref (ad 33)), (5, .int (nI si))] → W p l e room_1 s m #[Value.ref b] below meth c H locs (cells + 1) (slots + 6) (lw_Z below #[Value.ref b] s) (F0 m 1177 ls [])) : W p l e room_1 s m #[Value.ref b] below meth c H locs cells slots (lw_Z below #[Value.ref b] s) (F0 m 410 ls []) := by
  have hC := hLC.2.2.2.2.2.2.2.2.2.1
  by_cases h1 : inR (sv (xs (si + 1))) FP.dconst0 FP.dconst1
  · exact k_vent_0  hLC hsi hc1 hs1 hLI hhr hw hl h1 kk9
  · exact k_vent_1  hLC hsi hc1 hs1 hLI hhr hw hl h1 kk9
theorem op_soak {p : Program} {l : Launch} {e : Env} {s : State} {m : MethodId} {below : List Frame} {meth : Method} {c : Code} {G : va_G} {dA : Nat → ClassId} {b Ls si : Nat} {xs : Nat → Int32} {sa ad : Nat → Nat} {L : List Nat} {nl nb : Nat} {q qk : Nat → Option Nat} {x : sR} {kk : Nat → UInt64 × UInt64} {tt : sT} {f : Nat → va_E} {H : Heap} {locs : List Loc} {ls : Array Slot} {cells slots : Nat} (hLC : LC p l s m c meth b Ls xs G dA sa ad L nl nb q qk) (hsi : si + 5 ≤ Ls) (hc1 : cells + 1 ≤ room_1.cells) (hs1 : slots + 6 ≤ room_1.slots) (hLI : LwI ad dA nl nb q qk x kk tt f) (hhr : x.2.2.2.2.2 < 2 ^ 29) (hw : ww G dA (fun z : Nat => s.heap.size ≤ z) s L f H locs) (hl : lv_has ls 10 [(0, .ref b), (1, .ref (ad 0)), (2, .ref (ad 16)), (3, .ref (ad 32)), (4, .ref (ad 33)), (5, .int (nI si))])
    (kk9 : ∀ (x2 : sR) (kk2 : Nat → UInt64 × UInt64) (tt2 : sT) (f2 : Nat → va_E) (H : Heap) (locs : List Loc) (ls : Array Slot), LwI ad dA nl nb q qk x2 kk2 tt2 f2 → x2.2.2.2.2.2 ≤ x.2.2.2.2.2 + 100 → ww G dA (fun z : Nat => s.heap.size ≤ z) s L f2 H locs → lv_has ls 10 [(0, .ref b), (1, .ref (ad 0)), (2, .ref (ad 16)), (3, .ref (ad 32)), (4, .ref (ad 33)), (5, .int (nI si))] → W p l e room_1 s m #[Value.ref b] below meth c H locs (cells + 1) (slots + 6) (lw_Z below #[Value.ref b] s) (F0 m 1177 ls [])) : W p l e room_1 s m #[Value.ref b] below meth c H locs cells slots (lw_Z below #[Value.ref b] s) (F0 m 456 ls []) := by
  have hC := hLC.2.2.2.2.2.2.2.2.2.1
  by_cases ha : xs (si + 1) < 0 ∨ nI nb ≤ xs (si + 1)
  · exact k_soak_1  hLC hsi hc1 hs1 hLI hhr hw hl ha kk9
  obtain ⟨j, hj, hj1⟩ := in_ix hC.nb31 ha
  by_cases hb9 : xs (si + 2) < 0 ∨ nI (nl + 1) ≤ xs (si + 2)
  · exact k_soak_2 j hLC hsi hc1 hs1 hLI hhr hw hl hj hj1 hb9 kk9
  obtain ⟨k, hi, hi1⟩ := in_ix hC.n31 hb9
  by_cases h1 : inR (sv (xs (si + 3))) FP.dconst0 4613937818241073152
  · by_cases ht : (x.2.2.1 j).1 = 0
    · exact k_soak_4 j k hLC hsi hc1 hs1 hLI hhr hw hl hj hj1 hi hi1 h1 ht kk9
    · exact k_soak_0 j k hLC hsi hc1 hs1 hLI hhr hw hl hj hj1 hi hi1 h1 ht kk9
  · exact k_soak_3 j k hLC hsi hc1 hs1 hLI hhr hw hl hj hj1 hi hi1 h1 kk9
theorem op_unit {p : Program} {l : Launch} {e : Env} {s : State} {m : MethodId} {below : List Frame} {meth : Method} {c : Code} {G : va_G} {dA : Nat → ClassId} {b Ls si : Nat} {xs : Nat → Int32} {sa ad : Nat → Nat} {L : List Nat} {nl nb : Nat} {q qk : Nat → Option Nat} {x : sR} {kk : Nat → UInt64 × UInt64} {tt : sT} {f : Nat → va_E} {H : Heap} {locs : List Loc} {ls : Array Slot} {cells slots : Nat} (hLC : LC p l s m c meth b Ls xs G dA sa ad L nl nb q qk) (hsi : si + 5 ≤ Ls) (hc1 : cells + 1 ≤ room_1.cells) (hs1 : slots + 6 ≤ room_1.slots) (hLI : LwI ad dA nl nb q qk x kk tt f) (hhr : x.2.2.2.2.2 < 2 ^ 29) (hw : ww G dA (fun z : Nat => s.heap.size ≤ z) s L f H locs) (hl : lv_has ls 10 [(0, .ref b), (1, .ref (ad 0)), (2, .ref (ad 16)), (3, .ref (ad 32)), (4, .ref (ad 33)), (5, .int (nI si))])
    (kk9 : ∀ (x2 : sR) (kk2 : Nat → UInt64 × UInt64) (tt2 : sT) (f2 : Nat → va_E) (H : Heap) (locs : List Loc) (ls : Array Slot), LwI ad dA nl nb q qk x2 kk2 tt2 f2 → x2.2.2.2.2.2 ≤ x.2.2.2.2.2 + 100 → ww G dA (fun z : Nat => s.heap.size ≤ z) s L f2 H locs → lv_has ls 10 [(0, .ref b), (1, .ref (ad 0)), (2, .ref (ad 16)), (3, .ref (ad 32)), (4, .ref (ad 33)), (5, .int (nI si))] → W p l e room_1 s m #[Value.ref b] below meth c H locs (cells + 1) (slots + 6) (lw_Z below #[Value.ref b] s) (F0 m 1177 ls [])) : W p l e room_1 s m #[Value.ref b] below meth c H locs cells slots (lw_Z below #[Value.ref b] s) (F0 m 526 ls []) := by
  have hC := hLC.2.2.2.2.2.2.2.2.2.1
  cases hap : sp_app tt.1 (xs (si + 1)) with
  | true => exact k_unit_1  hLC hsi hc1 hs1 hLI hhr hw hl hap kk9
  | false => exact k_unit_0  hLC hsi hc1 hs1 hLI hhr hw hl hap kk9
theorem op_schedule {p : Program} {l : Launch} {e : Env} {s : State} {m : MethodId} {below : List Frame} {meth : Method} {c : Code} {G : va_G} {dA : Nat → ClassId} {b Ls si : Nat} {xs : Nat → Int32} {sa ad : Nat → Nat} {L : List Nat} {nl nb : Nat} {q qk : Nat → Option Nat} {x : sR} {kk : Nat → UInt64 × UInt64} {tt : sT} {f : Nat → va_E} {H : Heap} {locs : List Loc} {ls : Array Slot} {cells slots : Nat} (hLC : LC p l s m c meth b Ls xs G dA sa ad L nl nb q qk) (hsi : si + 5 ≤ Ls) (hc1 : cells + 1 ≤ room_1.cells) (hs1 : slots + 6 ≤ room_1.slots) (hLI : LwI ad dA nl nb q qk x kk tt f) (hhr : x.2.2.2.2.2 < 2 ^ 29) (hw : ww G dA (fun z : Nat => s.heap.size ≤ z) s L f H locs) (hl : lv_has ls 10 [(0, .ref b), (1, .ref (ad 0)), (2, .ref (ad 16)), (3, .ref (ad 32)), (4, .ref (ad 33)), (5, .int (nI si))])
    (kk9 : ∀ (x2 : sR) (kk2 : Nat → UInt64 × UInt64) (tt2 : sT) (f2 : Nat → va_E) (H : Heap) (locs : List Loc) (ls : Array Slot), LwI ad dA nl nb q qk x2 kk2 tt2 f2 → x2.2.2.2.2.2 ≤ x.2.2.2.2.2 + 100 → ww G dA (fun z : Nat => s.heap.size ≤ z) s L f2 H locs → lv_has ls 10 [(0, .ref b), (1, .ref (ad 0)), (2, .ref (ad 16)), (3, .ref (ad 32)), (4, .ref (ad 33)), (5, .int (nI si))] → W p l e room_1 s m #[Value.ref b] below meth c H locs (cells + 1) (slots + 6) (lw_Z below #[Value.ref b] s) (F0 m 1177 ls [])) : W p l e room_1 s m #[Value.ref b] below meth c H locs cells slots (lw_Z below #[Value.ref b] s) (F0 m 551 ls []) := by
  have hC := hLC.2.2.2.2.2.2.2.2.2.1
  cases hst : stepsP tt.2 tt.1 12 true 0 with
  | inl p9 => exact k_schedule_l p9 hLC hsi hc1 hs1 hLI hhr hw hl hst kk9
  | inr l9 => exact k_schedule_r l9 hLC hsi hc1 hs1 hLI hhr hw hl hst kk9
theorem op_run {p : Program} {l : Launch} {e : Env} {s : State} {m : MethodId} {below : List Frame} {meth : Method} {c : Code} {G : va_G} {dA : Nat → ClassId} {b Ls si : Nat} {xs : Nat → Int32} {sa ad : Nat → Nat} {L : List Nat} {nl nb : Nat} {q qk : Nat → Option Nat} {x : sR} {kk : Nat → UInt64 × UInt64} {tt : sT} {f : Nat → va_E} {H : Heap} {locs : List Loc} {ls : Array Slot} {cells slots : Nat} (hLC : LC p l s m c meth b Ls xs G dA sa ad L nl nb q qk) (hsi : si + 5 ≤ Ls) (hc1 : cells + 1 ≤ room_1.cells) (hs1 : slots + 6 ≤ room_1.slots) (hLI : LwI ad dA nl nb q qk x kk tt f) (hhr : x.2.2.2.2.2 < 2 ^ 29) (hw : ww G dA (fun z : Nat => s.heap.size ≤ z) s L f H locs) (hl : lv_has ls 10 [(0, .ref b), (1, .ref (ad 0)), (2, .ref (ad 16)), (3, .ref (ad 32)), (4, .ref (ad 33)), (5, .int (nI si))])
    (kk9 : ∀ (x2 : sR) (kk2 : Nat → UInt64 × UInt64) (tt2 : sT) (f2 : Nat → va_E) (H : Heap) (locs : List Loc) (ls : Array Slot), LwI ad dA nl nb q qk x2 kk2 tt2 f2 → x2.2.2.2.2.2 ≤ x.2.2.2.2.2 + 100 → ww G dA (fun z : Nat => s.heap.size ≤ z) s L f2 H locs → lv_has ls 10 [(0, .ref b), (1, .ref (ad 0)), (2, .ref (ad 16)), (3, .ref (ad 32)), (4, .ref (ad 33)), (5, .int (nI si))] → W p l e room_1 s m #[Value.ref b] below meth c H locs (cells + 1) (slots + 6) (lw_Z below #[Value.ref b] s) (F0 m 1177 ls [])) : W p l e room_1 s m #[Value.ref b] below meth c H locs cells slots (lw_Z below #[Value.ref b] s) (F0 m 564 ls []) := by
  have hC := hLC.2.2.2.2.2.2.2.2.2.1
  by_cases ha : xs (si + 1) < 0 ∨ 100 < xs (si + 1)
  · exact k_run_1  hLC hsi hc1 hs1 hLI hhr hw hl ha kk9
  obtain ⟨h, hh, hh1⟩ := in_to (N := 100) rfl ha
  exact k_run_0 h hLC hsi hc1 hs1 hLI hhr hw hl hh hh1 kk9
theorem op_limit {p : Program} {l : Launch} {e : Env} {s : State} {m : MethodId} {below : List Frame} {meth : Method} {c : Code} {G : va_G} {dA : Nat → ClassId} {b Ls si : Nat} {xs : Nat → Int32} {sa ad : Nat → Nat} {L : List Nat} {nl nb : Nat} {q qk : Nat → Option Nat} {x : sR} {kk : Nat → UInt64 × UInt64} {tt : sT} {f : Nat → va_E} {H : Heap} {locs : List Loc} {ls : Array Slot} {cells slots : Nat} (hLC : LC p l s m c meth b Ls xs G dA sa ad L nl nb q qk) (hsi : si + 5 ≤ Ls) (hc1 : cells + 1 ≤ room_1.cells) (hs1 : slots + 6 ≤ room_1.slots) (hLI : LwI ad dA nl nb q qk x kk tt f) (hhr : x.2.2.2.2.2 < 2 ^ 29) (hw : ww G dA (fun z : Nat => s.heap.size ≤ z) s L f H locs) (hl : lv_has ls 10 [(0, .ref b), (1, .ref (ad 0)), (2, .ref (ad 16)), (3, .ref (ad 32)), (4, .ref (ad 33)), (5, .int (nI si))])
    (kk9 : ∀ (x2 : sR) (kk2 : Nat → UInt64 × UInt64) (tt2 : sT) (f2 : Nat → va_E) (H : Heap) (locs : List Loc) (ls : Array Slot), LwI ad dA nl nb q qk x2 kk2 tt2 f2 → x2.2.2.2.2.2 ≤ x.2.2.2.2.2 + 100 → ww G dA (fun z : Nat => s.heap.size ≤ z) s L f2 H locs → lv_has ls 10 [(0, .ref b), (1, .ref (ad 0)), (2, .ref (ad 16)), (3, .ref (ad 32)), (4, .ref (ad 33)), (5, .int (nI si))] → W p l e room_1 s m #[Value.ref b] below meth c H locs (cells + 1) (slots + 6) (lw_Z below #[Value.ref b] s) (F0 m 1177 ls [])) : W p l e room_1 s m #[Value.ref b] below meth c H locs cells slots (lw_Z below #[Value.ref b] s) (F0 m 620 ls []) := by
  have hC := hLC.2.2.2.2.2.2.2.2.2.1
  by_cases ha : xs (si + 1) < 0 ∨ nI nb ≤ xs (si + 1)
  · exact k_limit_1  hLC hsi hc1 hs1 hLI hhr hw hl ha kk9
  obtain ⟨j, hj, hj1⟩ := in_ix hC.nb31 ha
  by_cases h1 : (FP.dcmp (sv (xs (si + 2))) FP.dconst0 = some .gt ∨ FP.dcmp (sv (xs (si + 2))) FP.dconst0 = some .eq)
  · by_cases ht : (x.2.2.1 j).1 = 0
    · exact k_limit_3 j hLC hsi hc1 hs1 hLI hhr hw hl hj hj1 h1 ht kk9
    · exact k_limit_0 j hLC hsi hc1 hs1 hLI hhr hw hl hj hj1 h1 ht kk9
  · exact k_limit_2 j hLC hsi hc1 hs1 hLI hhr hw hl hj hj1 h1 kk9
theorem op_check {p : Program} {l : Launch} {e : Env} {s : State} {m : MethodId} {below : List Frame} {meth : Method} {c : Code} {G : va_G} {dA : Nat → ClassId} {b Ls si : Nat} {xs : Nat → Int32} {sa ad : Nat → Nat} {L : List Nat} {nl nb : Nat} {q qk : Nat → Option Nat} {x : sR} {kk : Nat → UInt64 × UInt64} {tt : sT} {f : Nat → va_E} {H : Heap} {locs : List Loc} {ls : Array Slot} {cells slots : Nat} (hLC : LC p l s m c meth b Ls xs G dA sa ad L nl nb q qk) (hsi : si + 5 ≤ Ls) (hc1 : cells + 1 ≤ room_1.cells) (hs1 : slots + 6 ≤ room_1.slots) (hLI : LwI ad dA nl nb q qk x kk tt f) (hhr : x.2.2.2.2.2 < 2 ^ 29) (hw : ww G dA (fun z : Nat => s.heap.size ≤ z) s L f H locs) (hl : lv_has ls 10 [(0, .ref b), (1, .ref (ad 0)), (2, .ref (ad 16)), (3, .ref (ad 32)), (4, .ref (ad 33)), (5, .int (nI si))])
    (kk9 : ∀ (x2 : sR) (kk2 : Nat → UInt64 × UInt64) (tt2 : sT) (f2 : Nat → va_E) (H : Heap) (locs : List Loc) (ls : Array Slot), LwI ad dA nl nb q qk x2 kk2 tt2 f2 → x2.2.2.2.2.2 ≤ x.2.2.2.2.2 + 100 → ww G dA (fun z : Nat => s.heap.size ≤ z) s L f2 H locs → lv_has ls 10 [(0, .ref b), (1, .ref (ad 0)), (2, .ref (ad 16)), (3, .ref (ad 32)), (4, .ref (ad 33)), (5, .int (nI si))] → W p l e room_1 s m #[Value.ref b] below meth c H locs (cells + 1) (slots + 6) (lw_Z below #[Value.ref b] s) (F0 m 1177 ls [])) : W p l e room_1 s m #[Value.ref b] below meth c H locs cells slots (lw_Z below #[Value.ref b] s) (F0 m 678 ls []) := by
  have hC := hLC.2.2.2.2.2.2.2.2.2.1
  by_cases ha : xs (si + 1) < 0 ∨ nI nb ≤ xs (si + 1)
  · exact k_check_1  hLC hsi hc1 hs1 hLI hhr hw hl ha kk9
  obtain ⟨j, hj, hj1⟩ := in_ix hC.nb31 ha
  by_cases ht : (x.2.2.1 j).1 = 0
  · exact k_check_2 j hLC hsi hc1 hs1 hLI hhr hw hl hj hj1 ht kk9
  · exact k_check_0 j hLC hsi hc1 hs1 hLI hhr hw hl hj hj1 ht kk9
theorem op_mean {p : Program} {l : Launch} {e : Env} {s : State} {m : MethodId} {below : List Frame} {meth : Method} {c : Code} {G : va_G} {dA : Nat → ClassId} {b Ls si : Nat} {xs : Nat → Int32} {sa ad : Nat → Nat} {L : List Nat} {nl nb : Nat} {q qk : Nat → Option Nat} {x : sR} {kk : Nat → UInt64 × UInt64} {tt : sT} {f : Nat → va_E} {H : Heap} {locs : List Loc} {ls : Array Slot} {cells slots : Nat} (hLC : LC p l s m c meth b Ls xs G dA sa ad L nl nb q qk) (hsi : si + 5 ≤ Ls) (hc1 : cells + 1 ≤ room_1.cells) (hs1 : slots + 6 ≤ room_1.slots) (hLI : LwI ad dA nl nb q qk x kk tt f) (hhr : x.2.2.2.2.2 < 2 ^ 29) (hw : ww G dA (fun z : Nat => s.heap.size ≤ z) s L f H locs) (hl : lv_has ls 10 [(0, .ref b), (1, .ref (ad 0)), (2, .ref (ad 16)), (3, .ref (ad 32)), (4, .ref (ad 33)), (5, .int (nI si))])
    (kk9 : ∀ (x2 : sR) (kk2 : Nat → UInt64 × UInt64) (tt2 : sT) (f2 : Nat → va_E) (H : Heap) (locs : List Loc) (ls : Array Slot), LwI ad dA nl nb q qk x2 kk2 tt2 f2 → x2.2.2.2.2.2 ≤ x.2.2.2.2.2 + 100 → ww G dA (fun z : Nat => s.heap.size ≤ z) s L f2 H locs → lv_has ls 10 [(0, .ref b), (1, .ref (ad 0)), (2, .ref (ad 16)), (3, .ref (ad 32)), (4, .ref (ad 33)), (5, .int (nI si))] → W p l e room_1 s m #[Value.ref b] below meth c H locs (cells + 1) (slots + 6) (lw_Z below #[Value.ref b] s) (F0 m 1177 ls [])) : W p l e room_1 s m #[Value.ref b] below meth c H locs cells slots (lw_Z below #[Value.ref b] s) (F0 m 823 ls []) := by
  have hC := hLC.2.2.2.2.2.2.2.2.2.1
  by_cases ha : xs (si + 1) < 0 ∨ nI nb ≤ xs (si + 1)
  · exact k_mean_1  hLC hsi hc1 hs1 hLI hhr hw hl ha kk9
  obtain ⟨j, hj, hj1⟩ := in_ix hC.nb31 ha
  by_cases ht : (x.2.2.1 j).1 = 0
  · exact k_mean_2 j hLC hsi hc1 hs1 hLI hhr hw hl hj hj1 ht kk9
  · exact k_mean_0 j hLC hsi hc1 hs1 hLI hhr hw hl hj hj1 ht kk9
theorem op_wet {p : Program} {l : Launch} {e : Env} {s : State} {m : MethodId} {below : List Frame} {meth : Method} {c : Code} {G : va_G} {dA : Nat → ClassId} {b Ls si : Nat} {xs : Nat → Int32} {sa ad : Nat → Nat} {L : List Nat} {nl nb : Nat} {q qk : Nat → Option Nat} {x : sR} {kk : Nat → UInt64 × UInt64} {tt : sT} {f : Nat → va_E} {H : Heap} {locs : List Loc} {ls : Array Slot} {cells slots : Nat} (hLC : LC p l s m c meth b Ls xs G dA sa ad L nl nb q qk) (hsi : si + 5 ≤ Ls) (hc1 : cells + 1 ≤ room_1.cells) (hs1 : slots + 6 ≤ room_1.slots) (hLI : LwI ad dA nl nb q qk x kk tt f) (hhr : x.2.2.2.2.2 < 2 ^ 29) (hw : ww G dA (fun z : Nat => s.heap.size ≤ z) s L f H locs) (hl : lv_has ls 10 [(0, .ref b), (1, .ref (ad 0)), (2, .ref (ad 16)), (3, .ref (ad 32)), (4, .ref (ad 33)), (5, .int (nI si))])
    (kk9 : ∀ (x2 : sR) (kk2 : Nat → UInt64 × UInt64) (tt2 : sT) (f2 : Nat → va_E) (H : Heap) (locs : List Loc) (ls : Array Slot), LwI ad dA nl nb q qk x2 kk2 tt2 f2 → x2.2.2.2.2.2 ≤ x.2.2.2.2.2 + 100 → ww G dA (fun z : Nat => s.heap.size ≤ z) s L f2 H locs → lv_has ls 10 [(0, .ref b), (1, .ref (ad 0)), (2, .ref (ad 16)), (3, .ref (ad 32)), (4, .ref (ad 33)), (5, .int (nI si))] → W p l e room_1 s m #[Value.ref b] below meth c H locs (cells + 1) (slots + 6) (lw_Z below #[Value.ref b] s) (F0 m 1177 ls [])) : W p l e room_1 s m #[Value.ref b] below meth c H locs cells slots (lw_Z below #[Value.ref b] s) (F0 m 734 ls []) := by
  have hC := hLC.2.2.2.2.2.2.2.2.2.1
  by_cases ha : xs (si + 1) < 0 ∨ nI nb ≤ xs (si + 1)
  · exact k_wet_1  hLC hsi hc1 hs1 hLI hhr hw hl ha kk9
  obtain ⟨j, hj, hj1⟩ := in_ix hC.nb31 ha
  by_cases hb9 : xs (si + 2) < 0 ∨ nI (nl + 1) ≤ xs (si + 2)
  · exact k_wet_2 j hLC hsi hc1 hs1 hLI hhr hw hl hj hj1 hb9 kk9
  obtain ⟨k, hi, hi1⟩ := in_ix hC.n31 hb9
  by_cases ht : (x.2.2.1 j).1 = 0
  · exact k_wet_3 j k hLC hsi hc1 hs1 hLI hhr hw hl hj hj1 hi hi1 ht kk9
  · exact k_wet_0 j k hLC hsi hc1 hs1 hLI hhr hw hl hj hj1 hi hi1 ht kk9
theorem op_stress {p : Program} {l : Launch} {e : Env} {s : State} {m : MethodId} {below : List Frame} {meth : Method} {c : Code} {G : va_G} {dA : Nat → ClassId} {b Ls si : Nat} {xs : Nat → Int32} {sa ad : Nat → Nat} {L : List Nat} {nl nb : Nat} {q qk : Nat → Option Nat} {x : sR} {kk : Nat → UInt64 × UInt64} {tt : sT} {f : Nat → va_E} {H : Heap} {locs : List Loc} {ls : Array Slot} {cells slots : Nat} (hLC : LC p l s m c meth b Ls xs G dA sa ad L nl nb q qk) (hsi : si + 5 ≤ Ls) (hc1 : cells + 1 ≤ room_1.cells) (hs1 : slots + 6 ≤ room_1.slots) (hLI : LwI ad dA nl nb q qk x kk tt f) (hhr : x.2.2.2.2.2 < 2 ^ 29) (hw : ww G dA (fun z : Nat => s.heap.size ≤ z) s L f H locs) (hl : lv_has ls 10 [(0, .ref b), (1, .ref (ad 0)), (2, .ref (ad 16)), (3, .ref (ad 32)), (4, .ref (ad 33)), (5, .int (nI si))])
    (kk9 : ∀ (x2 : sR) (kk2 : Nat → UInt64 × UInt64) (tt2 : sT) (f2 : Nat → va_E) (H : Heap) (locs : List Loc) (ls : Array Slot), LwI ad dA nl nb q qk x2 kk2 tt2 f2 → x2.2.2.2.2.2 ≤ x.2.2.2.2.2 + 100 → ww G dA (fun z : Nat => s.heap.size ≤ z) s L f2 H locs → lv_has ls 10 [(0, .ref b), (1, .ref (ad 0)), (2, .ref (ad 16)), (3, .ref (ad 32)), (4, .ref (ad 33)), (5, .int (nI si))] → W p l e room_1 s m #[Value.ref b] below meth c H locs (cells + 1) (slots + 6) (lw_Z below #[Value.ref b] s) (F0 m 1177 ls [])) : W p l e room_1 s m #[Value.ref b] below meth c H locs cells slots (lw_Z below #[Value.ref b] s) (F0 m 900 ls []) := by
  have hC := hLC.2.2.2.2.2.2.2.2.2.1
  by_cases ha : xs (si + 1) < 0 ∨ nI nb ≤ xs (si + 1)
  · exact k_stress_1  hLC hsi hc1 hs1 hLI hhr hw hl ha kk9
  obtain ⟨j, hj, hj1⟩ := in_ix hC.nb31 ha
  by_cases hb9 : xs (si + 2) < 0 ∨ nI (nl + 1) ≤ xs (si + 2)
  · exact k_stress_2 j hLC hsi hc1 hs1 hLI hhr hw hl hj hj1 hb9 kk9
  obtain ⟨k, hi, hi1⟩ := in_ix hC.n31 hb9
  by_cases ht : (x.2.2.1 j).1 = 0
  · exact k_stress_3 j k hLC hsi hc1 hs1 hLI hhr hw hl hj hj1 hi hi1 ht kk9
  · exact k_stress_0 j k hLC hsi hc1 hs1 hLI hhr hw hl hj hj1 hi hi1 ht kk9
theorem op_balance {p : Program} {l : Launch} {e : Env} {s : State} {m : MethodId} {below : List Frame} {meth : Method} {c : Code} {G : va_G} {dA : Nat → ClassId} {b Ls si : Nat} {xs : Nat → Int32} {sa ad : Nat → Nat} {L : List Nat} {nl nb : Nat} {q qk : Nat → Option Nat} {x : sR} {kk : Nat → UInt64 × UInt64} {tt : sT} {f : Nat → va_E} {H : Heap} {locs : List Loc} {ls : Array Slot} {cells slots : Nat} (hLC : LC p l s m c meth b Ls xs G dA sa ad L nl nb q qk) (hsi : si + 5 ≤ Ls) (hc1 : cells + 1 ≤ room_1.cells) (hs1 : slots + 6 ≤ room_1.slots) (hLI : LwI ad dA nl nb q qk x kk tt f) (hhr : x.2.2.2.2.2 < 2 ^ 29) (hw : ww G dA (fun z : Nat => s.heap.size ≤ z) s L f H locs) (hl : lv_has ls 10 [(0, .ref b), (1, .ref (ad 0)), (2, .ref (ad 16)), (3, .ref (ad 32)), (4, .ref (ad 33)), (5, .int (nI si))])
    (kk9 : ∀ (x2 : sR) (kk2 : Nat → UInt64 × UInt64) (tt2 : sT) (f2 : Nat → va_E) (H : Heap) (locs : List Loc) (ls : Array Slot), LwI ad dA nl nb q qk x2 kk2 tt2 f2 → x2.2.2.2.2.2 ≤ x.2.2.2.2.2 + 100 → ww G dA (fun z : Nat => s.heap.size ≤ z) s L f2 H locs → lv_has ls 10 [(0, .ref b), (1, .ref (ad 0)), (2, .ref (ad 16)), (3, .ref (ad 32)), (4, .ref (ad 33)), (5, .int (nI si))] → W p l e room_1 s m #[Value.ref b] below meth c H locs (cells + 1) (slots + 6) (lw_Z below #[Value.ref b] s) (F0 m 1177 ls [])) : W p l e room_1 s m #[Value.ref b] below meth c H locs cells slots (lw_Z below #[Value.ref b] s) (F0 m 989 ls []) := by
  have hC := hLC.2.2.2.2.2.2.2.2.2.1
  exact k_balance_0  hLC hsi hc1 hs1 hLI hhr hw hl  kk9
theorem op_grams {p : Program} {l : Launch} {e : Env} {s : State} {m : MethodId} {below : List Frame} {meth : Method} {c : Code} {G : va_G} {dA : Nat → ClassId} {b Ls si : Nat} {xs : Nat → Int32} {sa ad : Nat → Nat} {L : List Nat} {nl nb : Nat} {q qk : Nat → Option Nat} {x : sR} {kk : Nat → UInt64 × UInt64} {tt : sT} {f : Nat → va_E} {H : Heap} {locs : List Loc} {ls : Array Slot} {cells slots : Nat} (hLC : LC p l s m c meth b Ls xs G dA sa ad L nl nb q qk) (hsi : si + 5 ≤ Ls) (hc1 : cells + 1 ≤ room_1.cells) (hs1 : slots + 6 ≤ room_1.slots) (hLI : LwI ad dA nl nb q qk x kk tt f) (hhr : x.2.2.2.2.2 < 2 ^ 29) (hw : ww G dA (fun z : Nat => s.heap.size ≤ z) s L f H locs) (hl : lv_has ls 10 [(0, .ref b), (1, .ref (ad 0)), (2, .ref (ad 16)), (3, .ref (ad 32)), (4, .ref (ad 33)), (5, .int (nI si))])
    (kk9 : ∀ (x2 : sR) (kk2 : Nat → UInt64 × UInt64) (tt2 : sT) (f2 : Nat → va_E) (H : Heap) (locs : List Loc) (ls : Array Slot), LwI ad dA nl nb q qk x2 kk2 tt2 f2 → x2.2.2.2.2.2 ≤ x.2.2.2.2.2 + 100 → ww G dA (fun z : Nat => s.heap.size ≤ z) s L f2 H locs → lv_has ls 10 [(0, .ref b), (1, .ref (ad 0)), (2, .ref (ad 16)), (3, .ref (ad 32)), (4, .ref (ad 33)), (5, .int (nI si))] → W p l e room_1 s m #[Value.ref b] below meth c H locs (cells + 1) (slots + 6) (lw_Z below #[Value.ref b] s) (F0 m 1177 ls [])) : W p l e room_1 s m #[Value.ref b] below meth c H locs cells slots (lw_Z below #[Value.ref b] s) (F0 m 1107 ls []) := by
  have hC := hLC.2.2.2.2.2.2.2.2.2.1
  exact k_grams_0  hLC hsi hc1 hs1 hLI hhr hw hl  kk9
theorem op_told {p : Program} {l : Launch} {e : Env} {s : State} {m : MethodId} {below : List Frame} {meth : Method} {c : Code} {G : va_G} {dA : Nat → ClassId} {b Ls si : Nat} {xs : Nat → Int32} {sa ad : Nat → Nat} {L : List Nat} {nl nb : Nat} {q qk : Nat → Option Nat} {x : sR} {kk : Nat → UInt64 × UInt64} {tt : sT} {f : Nat → va_E} {H : Heap} {locs : List Loc} {ls : Array Slot} {cells slots : Nat} (hLC : LC p l s m c meth b Ls xs G dA sa ad L nl nb q qk) (hsi : si + 5 ≤ Ls) (hc1 : cells + 1 ≤ room_1.cells) (hs1 : slots + 6 ≤ room_1.slots) (hLI : LwI ad dA nl nb q qk x kk tt f) (hhr : x.2.2.2.2.2 < 2 ^ 29) (hw : ww G dA (fun z : Nat => s.heap.size ≤ z) s L f H locs) (hl : lv_has ls 10 [(0, .ref b), (1, .ref (ad 0)), (2, .ref (ad 16)), (3, .ref (ad 32)), (4, .ref (ad 33)), (5, .int (nI si))])
    (kk9 : ∀ (x2 : sR) (kk2 : Nat → UInt64 × UInt64) (tt2 : sT) (f2 : Nat → va_E) (H : Heap) (locs : List Loc) (ls : Array Slot), LwI ad dA nl nb q qk x2 kk2 tt2 f2 → x2.2.2.2.2.2 ≤ x.2.2.2.2.2 + 100 → ww G dA (fun z : Nat => s.heap.size ≤ z) s L f2 H locs → lv_has ls 10 [(0, .ref b), (1, .ref (ad 0)), (2, .ref (ad 16)), (3, .ref (ad 32)), (4, .ref (ad 33)), (5, .int (nI si))] → W p l e room_1 s m #[Value.ref b] below meth c H locs (cells + 1) (slots + 6) (lw_Z below #[Value.ref b] s) (F0 m 1177 ls [])) : W p l e room_1 s m #[Value.ref b] below meth c H locs cells slots (lw_Z below #[Value.ref b] s) (F0 m 1030 ls []) := by
  have hC := hLC.2.2.2.2.2.2.2.2.2.1
  by_cases ha : xs (si + 1) < 0 ∨ 4 < xs (si + 1)
  · exact k_told_1  hLC hsi hc1 hs1 hLI hhr hw hl ha kk9
  obtain ⟨j, hj, hj1⟩ := in_to (N := 4) rfl ha
  match j, hj, hj1 with
  | 0, _, hj1 => exact k_told_00  hLC hsi hc1 hs1 hLI hhr hw hl hj1 kk9
  | 1, _, hj1 => exact k_told_01  hLC hsi hc1 hs1 hLI hhr hw hl hj1 kk9
  | 2, _, hj1 => exact k_told_02  hLC hsi hc1 hs1 hLI hhr hw hl hj1 kk9
  | 3, _, hj1 => exact k_told_03  hLC hsi hc1 hs1 hLI hhr hw hl hj1 kk9
  | 4, _, hj1 => exact k_told_04  hLC hsi hc1 hs1 hLI hhr hw hl hj1 kk9
  | j + 5, hj, _ => exact absurd hj (by omega)
theorem op_count {p : Program} {l : Launch} {e : Env} {s : State} {m : MethodId} {below : List Frame} {meth : Method} {c : Code} {G : va_G} {dA : Nat → ClassId} {b Ls si : Nat} {xs : Nat → Int32} {sa ad : Nat → Nat} {L : List Nat} {nl nb : Nat} {q qk : Nat → Option Nat} {x : sR} {kk : Nat → UInt64 × UInt64} {tt : sT} {f : Nat → va_E} {H : Heap} {locs : List Loc} {ls : Array Slot} {cells slots : Nat} (hLC : LC p l s m c meth b Ls xs G dA sa ad L nl nb q qk) (hsi : si + 5 ≤ Ls) (hc1 : cells + 1 ≤ room_1.cells) (hs1 : slots + 6 ≤ room_1.slots) (hLI : LwI ad dA nl nb q qk x kk tt f) (hhr : x.2.2.2.2.2 < 2 ^ 29) (hw : ww G dA (fun z : Nat => s.heap.size ≤ z) s L f H locs) (hl : lv_has ls 10 [(0, .ref b), (1, .ref (ad 0)), (2, .ref (ad 16)), (3, .ref (ad 32)), (4, .ref (ad 33)), (5, .int (nI si))])
    (kk9 : ∀ (x2 : sR) (kk2 : Nat → UInt64 × UInt64) (tt2 : sT) (f2 : Nat → va_E) (H : Heap) (locs : List Loc) (ls : Array Slot), LwI ad dA nl nb q qk x2 kk2 tt2 f2 → x2.2.2.2.2.2 ≤ x.2.2.2.2.2 + 100 → ww G dA (fun z : Nat => s.heap.size ≤ z) s L f2 H locs → lv_has ls 10 [(0, .ref b), (1, .ref (ad 0)), (2, .ref (ad 16)), (3, .ref (ad 32)), (4, .ref (ad 33)), (5, .int (nI si))] → W p l e room_1 s m #[Value.ref b] below meth c H locs (cells + 1) (slots + 6) (lw_Z below #[Value.ref b] s) (F0 m 1177 ls [])) : W p l e room_1 s m #[Value.ref b] below meth c H locs cells slots (lw_Z below #[Value.ref b] s) (F0 m 1121 ls []) := by
  have hC := hLC.2.2.2.2.2.2.2.2.2.1
  by_cases ha : xs (si + 1) < 0 ∨ 2 < xs (si + 1)
  · exact k_count_1  hLC hsi hc1 hs1 hLI hhr hw hl ha kk9
  obtain ⟨j, hj, hj1⟩ := in_to (N := 2) rfl ha
  match j, hj, hj1 with
  | 0, _, hj1 => exact k_count_00  hLC hsi hc1 hs1 hLI hhr hw hl hj1 kk9
  | 1, _, hj1 => exact k_count_01  hLC hsi hc1 hs1 hLI hhr hw hl hj1 kk9
  | 2, _, hj1 => exact k_count_02  hLC hsi hc1 hs1 hLI hhr hw hl hj1 kk9
  | j + 3, hj, _ => exact absurd hj (by omega)
theorem law_exit {p : Program} {l : Launch} {e : Env} {s : State} {m : MethodId} {below : List Frame} {meth : Method} {c : Code} {G : va_G} {dA : Nat → ClassId} {b Ls si : Nat} {xs : Nat → Int32} {sa ad : Nat → Nat} {L : List Nat} {nl nb : Nat} {q qk : Nat → Option Nat} {f : Nat → va_E} {H : Heap} {locs : List Loc} {ls : Array Slot} {cells slots : Nat} (hLC : LC p l s m c meth b Ls xs G dA sa ad L nl nb q qk) (hex : Ls < si + 5) (hsi : si < 2 ^ 31) (hc1 : cells ≤ 626941) (hs1 : slots ≤ 7215247) (hw : ww G dA (fun z : Nat => s.heap.size ≤ z) s L f H locs) (hl : lv_has ls 10 [(0, .ref b), (1, .ref (ad 0)), (2, .ref (ad 16)), (3, .ref (ad 32)), (4, .ref (ad 33)), (5, .int (nI si))]) : W p l e room_1 s m #[Value.ref b] below meth c H locs cells slots (lw_Z below #[Value.ref b] s) (F0 m 48 ls []) := by
  obtain ⟨hx, hb, hml, hown, hts, hXs, hbl, hlt, hE, hC, hLs, hret, hlocks⟩ := hLC
  have hbA : ¬ (fun z : Nat => s.heap.size ≤ z) b := Nat.not_le.mpr hbl
  refine lv_iload hx hb dL_law_48 (lv_at hl 5 rfl) ?_
  refine lv_aload_n hx hb dL_law_50 rfl (lv_at hl 0 rfl) ?_
  refine va_slen hx hb hXs hbl hbA hw.2.2.2 dL_law_51 ?_
  refine lv_iconst (v := 5) hx hb dL_law_52 (by decide) ?_
  refine lv_isub hx hb dL_law_53 ?_
  refine lv_icmp_gt (tgt := 1183) hx hb dL_law_54 (by decide) (fun _ => ?_) (fun c9 => absurd ((sub5 hLs hsi).mpr hex) c9)
  refine lv_iconst (v := 1) hx hb dL_law_1183 (by decide) ?_
  refine va_forget (fun q hq => hw.2.2.2.2.2 q hq) ?_
  refine W.widen (k := 626941) (n := 7215247) hc1 hs1 ?_
  exact lw_ret hx hb hret hlocks dL_law_1184
theorem law_loop {p : Program} {l : Launch} {e : Env} {s : State} {m : MethodId} {below : List Frame} {meth : Method} {c : Code} {G : va_G} {dA : Nat → ClassId} {b Ls : Nat} {xs : Nat → Int32} {sa ad : Nat → Nat} {L : List Nat} {nl nb : Nat} {q qk : Nat → Option Nat} (hLC : LC p l s m c meth b Ls xs G dA sa ad L nl nb q qk) : ∀ (k si : Nat), Ls + 1 ≤ si + k → si ≤ Ls + 8 → ∀ (x : sR) (kk : Nat → UInt64 × UInt64) (tt : sT) (f : Nat → va_E) (H : Heap) (locs : List Loc) (ls : Array Slot), LwI ad dA nl nb q qk x kk tt f → x.2.2.2.2.2 ≤ 100 * si → ww G dA (fun z : Nat => s.heap.size ≤ z) s L f H locs → lv_has ls 10 [(0, .ref b), (1, .ref (ad 0)), (2, .ref (ad 16)), (3, .ref (ad 32)), (4, .ref (ad 33)), (5, .int (nI si))] → W p l e room_1 s m #[Value.ref b] below meth c H locs (50 + si) (1000 + 6 * si) (lw_Z below #[Value.ref b] s) (F0 m 48 ls []) := by
  have hLs0 : Ls ≤ 2562 := hLC.2.2.2.2.2.2.2.2.2.2.1
  intro k
  induction k with
  | zero =>
    intro si h1 h2 x kk tt f H locs ls hLI hhr hw hl
    exact law_exit hLC (by omega) (by omega) (by omega) (by omega) hw hl
  | succ k ih =>
    intro si h1 h2 x kk tt f H locs ls hLI hhr hw hl
    by_cases hsi : si + 5 ≤ Ls
    · obtain ⟨hx, hb, hml, hown, hts, hXs, hbl, hlt, hE, hC, hLs, hret, hlocks⟩ := id hLC
      have hbA : ¬ (fun z : Nat => s.heap.size ≤ z) b := Nat.not_le.mpr hbl
      have kk9 : ∀ (x2 : sR) (kk2 : Nat → UInt64 × UInt64) (tt2 : sT) (f2 : Nat → va_E) (H : Heap) (locs : List Loc) (ls : Array Slot), LwI ad dA nl nb q qk x2 kk2 tt2 f2 → x2.2.2.2.2.2 ≤ x.2.2.2.2.2 + 100 → ww G dA (fun z : Nat => s.heap.size ≤ z) s L f2 H locs → lv_has ls 10 [(0, .ref b), (1, .ref (ad 0)), (2, .ref (ad 16)), (3, .ref (ad 32)), (4, .ref (ad 33)), (5, .int (nI si))] → W p l e room_1 s m #[Value.ref b] below meth c H locs (50 + si + 1) (1000 + 6 * si + 6) (lw_Z below #[Value.ref b] s) (F0 m 1177 ls []) := by
        intro x2 kk2 tt2 f2 H locs ls hLI2 hh2 hw2 hl2
        refine lv_iinc (v := nI (si + 5)) (lv' := [(5, .int (nI (si + 5))), (0, .ref b), (1, .ref (ad 0)), (2, .ref (ad 16)), (3, .ref (ad 32)), (4, .ref (ad 33))]) hx hb dL_law_1177 hl2 (k := 5) rfl (nI_add si 5) (by decide) rfl (fun ls hl => ?_)
        refine lv_goto (tgt := 48) hx hb dL_law_1180 (by decide) ?_
        refine W.widen (k := 50 + (si + 5)) (n := 1000 + 6 * (si + 5)) (by omega) (by omega) ?_
        exact ih (si + 5) (by omega) (by omega) x2 kk2 tt2 f2 H locs ls hLI2 (by omega) hw2 (lv_sub hl [1, 2, 3, 4, 5, 0] rfl)
      have hc1 : 50 + si + 1 ≤ room_1.cells := by show 50 + si + 1 ≤ 626941; omega
      have hs1 : 1000 + 6 * si + 6 ≤ room_1.slots := by show 1000 + 6 * si + 6 ≤ 7215247; omega
      have hhr2 : x.2.2.2.2.2 < 2 ^ 29 := by omega
      refine lv_iload hx hb dL_law_48 (lv_at hl 5 rfl) ?_
      refine lv_aload_n hx hb dL_law_50 rfl (lv_at hl 0 rfl) ?_
      refine va_slen hx hb hXs hbl hbA hw.2.2.2 dL_law_51 ?_
      refine lv_iconst (v := 5) hx hb dL_law_52 (by decide) ?_
      refine lv_isub hx hb dL_law_53 ?_
      refine lv_icmp_gt (tgt := 1183) hx hb dL_law_54 (by decide) (fun c9 => absurd ((sub5 hLs (by omega)).mp c9) (by omega)) (fun _ => ?_)
      refine lv_aload_n hx hb dL_law_57 rfl (lv_at hl 0 rfl) ?_
      refine lv_iload hx hb dL_law_58 (lv_at hl 5 rfl) ?_
      refine va_sld hx hb hXs hbl hbA hw.2.2.2 (vp_in_nI (show si < Ls by omega) (by omega)) dL_law_60 ?_
      rw [nI_clamp (show si < 2 ^ 31 by omega)]
      refine lv_bipush (v := 31) hx hb dL_law_61 (by decide) ?_
      refine lv_iand hx hb dL_law_63 ?_
      obtain ⟨z, hz, ez⟩ := pk_andE (xs si) (m := 31) 5 (by decide)
      rw [ez]
      match z, hz with
      | 0, _ =>
        refine lv_tableIn (tgt := 148) hx hb dL_law_64 (by decide) (by decide) (off := 84) (by decide) (by decide) ?_
        exact op_board hLC hsi hc1 hs1 hLI hhr2 hw hl kk9
      | 1, _ =>
        refine lv_tableIn (tgt := 240) hx hb dL_law_64 (by decide) (by decide) (off := 176) (by decide) (by decide) ?_
        exact op_rate hLC hsi hc1 hs1 hLI hhr2 hw hl kk9
      | 2, _ =>
        refine lv_tableIn (tgt := 320) hx hb dL_law_64 (by decide) (by decide) (off := 256) (by decide) (by decide) ?_
        exact op_air hLC hsi hc1 hs1 hLI hhr2 hw hl kk9
      | 3, _ =>
        refine lv_tableIn (tgt := 410) hx hb dL_law_64 (by decide) (by decide) (off := 346) (by decide) (by decide) ?_
        exact op_vent hLC hsi hc1 hs1 hLI hhr2 hw hl kk9
      | 4, _ =>
        refine lv_tableIn (tgt := 456) hx hb dL_law_64 (by decide) (by decide) (off := 392) (by decide) (by decide) ?_
        exact op_soak hLC hsi hc1 hs1 hLI hhr2 hw hl kk9
      | 5, _ =>
        refine lv_tableIn (tgt := 526) hx hb dL_law_64 (by decide) (by decide) (off := 462) (by decide) (by decide) ?_
        exact op_unit hLC hsi hc1 hs1 hLI hhr2 hw hl kk9
      | 6, _ =>
        refine lv_tableIn (tgt := 551) hx hb dL_law_64 (by decide) (by decide) (off := 487) (by decide) (by decide) ?_
        exact op_schedule hLC hsi hc1 hs1 hLI hhr2 hw hl kk9
      | 7, _ =>
        refine lv_tableIn (tgt := 564) hx hb dL_law_64 (by decide) (by decide) (off := 500) (by decide) (by decide) ?_
        exact op_run hLC hsi hc1 hs1 hLI hhr2 hw hl kk9
      | 8, _ =>
        refine lv_tableIn (tgt := 620) hx hb dL_law_64 (by decide) (by decide) (off := 556) (by decide) (by decide) ?_
        exact op_limit hLC hsi hc1 hs1 hLI hhr2 hw hl kk9
      | 9, _ =>
        refine lv_tableIn (tgt := 678) hx hb dL_law_64 (by decide) (by decide) (off := 614) (by decide) (by decide) ?_
        exact op_check hLC hsi hc1 hs1 hLI hhr2 hw hl kk9
      | 10, _ =>
        refine lv_tableIn (tgt := 734) hx hb dL_law_64 (by decide) (by decide) (off := 670) (by decide) (by decide) ?_
        exact op_wet hLC hsi hc1 hs1 hLI hhr2 hw hl kk9
      | 11, _ =>
        refine lv_tableIn (tgt := 823) hx hb dL_law_64 (by decide) (by decide) (off := 759) (by decide) (by decide) ?_
        exact op_mean hLC hsi hc1 hs1 hLI hhr2 hw hl kk9
      | 12, _ =>
        refine lv_tableIn (tgt := 900) hx hb dL_law_64 (by decide) (by decide) (off := 836) (by decide) (by decide) ?_
        exact op_stress hLC hsi hc1 hs1 hLI hhr2 hw hl kk9
      | 13, _ =>
        refine lv_tableIn (tgt := 989) hx hb dL_law_64 (by decide) (by decide) (off := 925) (by decide) (by decide) ?_
        exact op_balance hLC hsi hc1 hs1 hLI hhr2 hw hl kk9
      | 14, _ =>
        refine lv_tableIn (tgt := 1030) hx hb dL_law_64 (by decide) (by decide) (off := 966) (by decide) (by decide) ?_
        exact op_told hLC hsi hc1 hs1 hLI hhr2 hw hl kk9
      | 15, _ =>
        refine lv_tableIn (tgt := 1107) hx hb dL_law_64 (by decide) (by decide) (off := 1043) (by decide) (by decide) ?_
        exact op_grams hLC hsi hc1 hs1 hLI hhr2 hw hl kk9
      | 16, _ =>
        refine lv_tableIn (tgt := 1121) hx hb dL_law_64 (by decide) (by decide) (off := 1057) (by decide) (by decide) ?_
        exact op_count hLC hsi hc1 hs1 hLI hhr2 hw hl kk9
      | z + 17, hz =>
        refine lv_tableOut (tgt := 1177) hx hb dL_law_64 (Or.inr (by rw [nI_toInt (by omega)]; omega)) (by decide) ?_
        refine W.widen (k := 50 + si + 1) (n := 1000 + 6 * si + 6) (by omega) (by omega) ?_
        exact kk9 x kk tt f H locs ls hLI (Nat.le_add_right _ _) hw hl
    · exact law_exit hLC (by omega) (by omega) (by omega) (by omega) hw hl
