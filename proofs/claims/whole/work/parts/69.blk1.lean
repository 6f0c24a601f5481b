set_option maxHeartbeats 4000000 in
set_option maxRecDepth 100000 in
theorem k_board_1 {p : Program} {l : Launch} {e : Env} {s : State} {m : MethodId} {below : List Frame} {meth : Method} {c : Code} {G : va_G} {dA : Nat → ClassId} {b Ls si : Nat} {xs : Nat → Int32} {sa ad : Nat → Nat} {L : List Nat} {nl nb : Nat} {q qk : Nat → Option Nat} {x : sR} {kk : Nat → UInt64 × UInt64} {tt : sT} {f : Nat → va_E} {H : Heap} {locs : List Loc} {ls : Array Slot} {cells slots : Nat}  (hLC : LC p l s m c meth b Ls xs G dA sa ad L nl nb q qk) (hsi : si + 5 ≤ Ls) (hc1 : cells + 1 ≤ room_1.cells) (hs1 : slots + 6 ≤ room_1.slots) (hLI : LwI ad dA nl nb q qk x kk tt f) (hhr : x.2.2.2.2.2 < 2 ^ 29) (hw : ww G dA (fun z : Nat => s.heap.size ≤ z) s L f H locs) (hl : lv_has ls 10 [(0, .ref b), (1, .ref (ad 0)), (2, .ref (ad 16)), (3, .ref (ad 32)), (4, .ref (ad 33)), (5, .int (nI si))]) (hbad : xs (si + 1) < 0 ∨ nI nb ≤ xs (si + 1))
    (kk9 : ∀ (x2 : sR) (kk2 : Nat → UInt64 × UInt64) (tt2 : sT) (f2 : Nat → va_E) (H : Heap) (locs : List Loc) (ls : Array Slot), LwI ad dA nl nb q qk x2 kk2 tt2 f2 → x2.2.2.2.2.2 ≤ x.2.2.2.2.2 + 100 → ww G dA (fun z : Nat => s.heap.size ≤ z) s L f2 H locs → lv_has ls 10 [(0, .ref b), (1, .ref (ad 0)), (2, .ref (ad 16)), (3, .ref (ad 32)), (4, .ref (ad 33)), (5, .int (nI si))] → W p l e room_1 s m #[Value.ref b] below meth c H locs (cells + 1) (slots + 6) (lw_Z below #[Value.ref b] s) (F0 m 1177 ls [])) : W p l e room_1 s m #[Value.ref b] below meth c H locs cells slots (lw_Z below #[Value.ref b] s) (F0 m 148 ls []) := by
  obtain ⟨hx, hb, hml, hown, hts, hXs, hbl, hlt, hE, hC, hLs, hret, hlocks⟩ := hLC
  have hA : ∀ z : Nat, s.heap.size ≤ z → (fun z : Nat => s.heap.size ≤ z) z := fun _ h => h
  have hbA : ¬ (fun z : Nat => s.heap.size ≤ z) b := Nat.not_le.mpr hbl
  obtain ⟨hR, ⟨thr, hM⟩, ⟨o, ho⟩, ⟨od, hd⟩, hG, htt, hTT⟩ := hLI
  obtain ⟨pa, bad, num, RA, RB, TH, DE, KI, WE, NX, LI, LM, KE, TX, BW, TI, KV, DM, hX, hMk, hMb, hMw, hMt, hMp⟩ := hM
  refine lv_aload_n hx hb dL_law_148 rfl (lv_at hl 1 rfl) ?_
  refine lv_aload_n hx hb dL_law_149 rfl (lv_at hl 0 rfl) ?_
  refine lv_iload hx hb dL_law_150 (lv_at hl 5 rfl) ?_
  refine lv_iconst (v := 1) hx hb dL_law_152 (by decide) ?_
  refine lv_iadd hx hb dL_law_153 ?_
  rw [show nI si + 1 = nI (si + 1) from nI_add si 1]
  refine va_sld hx hb hXs hbl hbA hw.2.2.2 (vp_in_nI (show si + 1 < Ls by omega) (by omega)) dL_law_154 ?_
  rw [nI_clamp (show si + 1 < 2 ^ 31 by omega)]
  refine lv_aload_n hx hb dL_law_155 rfl (lv_at hl 0 rfl) ?_
  refine lv_iload hx hb dL_law_156 (lv_at hl 5 rfl) ?_
  refine lv_iconst (v := 2) hx hb dL_law_158 (by decide) ?_
  refine lv_iadd hx hb dL_law_159 ?_
  rw [show nI si + 2 = nI (si + 2) from nI_add si 2]
  refine va_sld hx hb hXs hbl hbA hw.2.2.2 (vp_in_nI (show si + 2 < Ls by omega) (by omega)) dL_law_160 ?_
  rw [nI_clamp (show si + 2 < 2 ^ 31 by omega)]
  refine lv_i2d hx hb dL_law_161 ?_
  refine lv_ldc2d (v := 4593671619917905920) hx hb hown (hts (.constantDouble RL 75 (4593671619917905920)) (by decide +kernel)) dL_law_162 ?_
  refine lv_dmul hx hb dL_law_165 (sv_fin (xs (si + 2))).2 ?_
  refine lv_aload_n hx hb dL_law_166 rfl (lv_at hl 0 rfl) ?_
  refine lv_iload hx hb dL_law_167 (lv_at hl 5 rfl) ?_
  refine lv_iconst (v := 3) hx hb dL_law_169 (by decide) ?_
  refine lv_iadd hx hb dL_law_170 ?_
  rw [show nI si + 3 = nI (si + 3) from nI_add si 3]
  refine va_sld hx hb hXs hbl hbA hw.2.2.2 (vp_in_nI (show si + 3 < Ls by omega) (by omega)) dL_law_171 ?_
  rw [nI_clamp (show si + 3 < 2 ^ 31 by omega)]
  refine lv_i2d hx hb dL_law_172 ?_
  refine lv_ldc2d (v := 4593671619917905920) hx hb hown (hts (.constantDouble RL 75 (4593671619917905920)) (by decide +kernel)) dL_law_173 ?_
  refine lv_dmul hx hb dL_law_176 (sv_fin (xs (si + 3))).2 ?_
  refine lv_aload_n hx hb dL_law_177 rfl (lv_at hl 0 rfl) ?_
  refine lv_iload hx hb dL_law_178 (lv_at hl 5 rfl) ?_
  refine lv_iconst (v := 4) hx hb dL_law_180 (by decide) ?_
  refine lv_iadd hx hb dL_law_181 ?_
  rw [show nI si + 4 = nI (si + 4) from nI_add si 4]
  refine va_sld hx hb hXs hbl hbA hw.2.2.2 (vp_in_nI (show si + 4 < Ls by omega) (by omega)) dL_law_182 ?_
  rw [nI_clamp (show si + 4 < 2 ^ 31 by omega)]
  refine kH (As := [.ref (ad 0), .int (xs (si + 1)), .double (sv (xs (si + 2))), .double (sv (xs (si + 3))), .int (xs (si + 4))]) (rest := []) ⟨hx, hb, hml, hown, hts⟩ (h_x1_X6_board l hlt G dA sa L f ad (nl + 1) nb q qk x.1 x.2.1 x.2.2.1 x.2.2.2.1 kk tt x.2.2.2.2.1 x.2.2.2.2.2 (xs (si + 1)) (xs (si + 4)) (sv (xs (si + 2))) (sv (xs (si + 3))) hC hR hbad) (vx_cwSW 5 hts gL_law_L_board rfl rfl rfl (by decide +kernel) ⟨Nat.le_of_ble_eq_true rfl, Nat.le_of_ble_eq_true rfl⟩) hw hE hA rfl hl.1 rfl (Nat.le_of_ble_eq_true rfl) dL_law_183 ⟨hc1, hs1⟩ (fun r2 f1 H locs hp hw => ?_)
  obtain ⟨e1, e2⟩ := hp
  rw [e2] at hw
  rw [e1]
  refine lv_istore (lv' := [(6, .int 1), (0, .ref b), (1, .ref (ad 0)), (2, .ref (ad 16)), (3, .ref (ad 32)), (4, .ref (ad 33)), (5, .int (nI si))]) hx hb dL_law_186 hl (by decide) rfl (fun ls hl => ?_)
  refine lv_aload_n hx hb dL_law_188 rfl (lv_at hl 3 rfl) ?_
  refine lv_aload_n hx hb dL_law_189 rfl (lv_at hl 1 rfl) ?_
  refine lv_iload hx hb dL_law_190 (lv_at hl 6 rfl) ?_
  refine lv_iconst (v := 1) hx hb dL_law_192 (by decide) ?_
  refine lv_iadd hx hb dL_law_193 ?_
  rw [show nI si + 1 = nI (si + 1) from nI_add si 1]
  refine va_sld hx hb hXs hbl hbA hw.2.2.2 (vp_in_nI (show si + 1 < Ls by omega) (by omega)) dL_law_194 ?_
  rw [nI_clamp (show si + 1 < 2 ^ 31 by omega)]
  refine lv_aload_n hx hb dL_law_195 rfl (lv_at hl 1 rfl) ?_
  refine lv_iload hx hb dL_law_196 (lv_at hl 6 rfl) ?_
  refine lv_iconst (v := 2) hx hb dL_law_198 (by decide) ?_
  refine lv_iadd hx hb dL_law_199 ?_
  rw [show nI si + 2 = nI (si + 2) from nI_add si 2]
  refine va_sld hx hb hXs hbl hbA hw.2.2.2 (vp_in_nI (show si + 2 < Ls by omega) (by omega)) dL_law_200 ?_
  rw [nI_clamp (show si + 2 < 2 ^ 31 by omega)]
  refine lv_i2d hx hb dL_law_201 ?_
  refine lv_ldc2d (v := 4593671619917905920) hx hb hown (hts (.constantDouble RL 75 (4593671619917905920)) (by decide +kernel)) dL_law_202 ?_
  refine lv_dmul hx hb dL_law_205 (sv_fin (xs (si + 2))).2 ?_
  refine lv_aload_n hx hb dL_law_206 rfl (lv_at hl 1 rfl) ?_
  refine lv_iload hx hb dL_law_207 (lv_at hl 6 rfl) ?_
  refine lv_iconst (v := 3) hx hb dL_law_209 (by decide) ?_
  refine lv_iadd hx hb dL_law_210 ?_
  rw [show nI si + 3 = nI (si + 3) from nI_add si 3]
  refine va_sld hx hb hXs hbl hbA hw.2.2.2 (vp_in_nI (show si + 3 < Ls by omega) (by omega)) dL_law_211 ?_
  rw [nI_clamp (show si + 3 < 2 ^ 31 by omega)]
  refine lv_i2d hx hb dL_law_212 ?_
  refine lv_ldc2d (v := 4593671619917905920) hx hb hown (hts (.constantDouble RL 75 (4593671619917905920)) (by decide +kernel)) dL_law_213 ?_
  refine lv_dmul hx hb dL_law_216 (sv_fin (xs (si + 3))).2 ?_
  refine lv_aload_n hx hb dL_law_217 rfl (lv_at hl 1 rfl) ?_
  refine lv_iload hx hb dL_law_218 (lv_at hl 6 rfl) ?_
  refine lv_iconst (v := 4) hx hb dL_law_220 (by decide) ?_
  refine lv_iadd hx hb dL_law_221 ?_
  rw [show nI si + 4 = nI (si + 4) from nI_add si 4]
  refine va_sld hx hb hXs hbl hbA hw.2.2.2 (vp_in_nI (show si + 4 < Ls by omega) (by omega)) dL_law_222 ?_
  rw [nI_clamp (show si + 4 < 2 ^ 31 by omega)]
  refine kV_V (C := RX7) (T := TX7) (N := 31) (As := [.int (xs (si + 1)), .double (sv (xs (si + 2))), .double (sv (xs (si + 3))), .int (xs (si + 4))]) (rest := []) ⟨hx, hb, hml, hown, hts⟩ (t1_X7_board l G dA L f ad (nl + 1) nb q qk ((x.1).1) ((x.1).2.1) ((x.1).2.2.1) ((x.1).2.2.2) ((x.2.1).1) ((x.2.1).2) x.2.2.2.2.2 tt.1 ((x.2.2.2.2.1).1) ((x.2.2.2.2.1).2.1) thr pa bad num RA RB TH DE KI WE NX LI LM KE TX BW TI KV DM f (xs (si + 1)) (xs (si + 4)) (sv (xs (si + 2))) (sv (xs (si + 3))) hC hX (noB_t hbad)) (cwV 4 hts gL_law_X7_board rfl rfl rfl (by decide +kernel) ⟨Nat.le_of_ble_eq_true rfl, Nat.le_of_ble_eq_true rfl⟩) hw hA (hC.m (by decide)) hX.o rfl rfl hl.1 rfl (Nat.le_of_ble_eq_true rfl) dL_law_223 ⟨hc1, hs1⟩ (fun f3 H locs hp hw => ?_)
  have hX2 : MX ad dA (nl + 1) nb ((x.1).1) ((x.1).2.1) ((x.1).2.2.1) ((x.1).2.2.2) ((x.2.1).1) ((x.2.1).2) x.2.2.2.2.2 tt.1 ((x.2.2.2.2.1).1) ((x.2.2.2.2.1).2.1) 1 pa bad num RA RB TH DE KI WE NX LI LM KE TX BW TI KV DM f f3 := hp
  refine lv_aload_n hx hb dL_law_226 rfl (lv_at hl 3 rfl) ?_
  refine kV_I (C := RX7) (T := TX7) (N := 31) (As := []) (rest := []) ⟨hx, hb, hml, hown, hts⟩ (c_X7_thrown l G dA L f3 ad (nl + 1) nb q qk ((x.1).1) ((x.1).2.1) ((x.1).2.2.1) ((x.1).2.2.2) ((x.2.1).1) ((x.2.1).2) x.2.2.2.2.2 tt.1 ((x.2.2.2.2.1).1) ((x.2.2.2.2.1).2.1) 1 pa bad num RA RB TH DE KI WE NX LI LM KE TX BW TI KV DM f hC hX2) (cwV 0 hts gL_law_X7_thrown rfl rfl rfl (by decide +kernel) ⟨Nat.le_of_ble_eq_true rfl, Nat.le_of_ble_eq_true rfl⟩) hw hA (hC.m (by decide)) hX2.o rfl rfl hl.1 rfl (Nat.le_of_ble_eq_true rfl) dL_law_227 ⟨hc1, hs1⟩ (fun r5 f6 H locs hp hw => ?_)
  obtain ⟨e1, e2⟩ := hp
  rw [e2] at hw
  rw [e1]
  refine lv_iload hx hb dL_law_230 (lv_at hl 0 rfl) ?_
  refine lv_icmp_eq (tgt := 237) hx hb dL_law_232 (by decide) (fun _ => ?_) (fun c9 => absurd rfl c9)
  refine lv_goto (tgt := 1177) hx hb dL_law_237 (by decide) ?_
  exact kk9 x kk tt f3 _ _ ls (LwI.of (x := x) (kk := kk) (tt := tt) hR ⟨_, _, _, _, _, _, _, _, _, _, _, _, _, _, _, _, _, _, hX2, hMk, hMb, hMw, hMt, hMp⟩ ⟨_, ho⟩ ⟨_, hd⟩ hG htt hTT) (Nat.le_add_right _ _) hw (lv_sub hl [1, 2, 3, 4, 5, 6] rfl)

set_option maxHeartbeats 4000000 in
set_option maxRecDepth 100000 in
theorem k_board_2 {p : Program} {l : Launch} {e : Env} {s : State} {m : MethodId} {below : List Frame} {meth : Method} {c : Code} {G : va_G} {dA : Nat → ClassId} {b Ls si : Nat} {xs : Nat → Int32} {sa ad : Nat → Nat} {L : List Nat} {nl nb : Nat} {q qk : Nat → Option Nat} {x : sR} {kk : Nat → UInt64 × UInt64} {tt : sT} {f : Nat → va_E} {H : Heap} {locs : List Loc} {ls : Array Slot} {cells slots : Nat} (j : Nat) (hLC : LC p l s m c meth b Ls xs G dA sa ad L nl nb q qk) (hsi : si + 5 ≤ Ls) (hc1 : cells + 1 ≤ room_1.cells) (hs1 : slots + 6 ≤ room_1.slots) (hLI : LwI ad dA nl nb q qk x kk tt f) (hhr : x.2.2.2.2.2 < 2 ^ 29) (hw : ww G dA (fun z : Nat => s.heap.size ≤ z) s L f H locs) (hl : lv_has ls 10 [(0, .ref b), (1, .ref (ad 0)), (2, .ref (ad 16)), (3, .ref (ad 32)), (4, .ref (ad 33)), (5, .int (nI si))]) (hj : j < nb) (hj1 : xs (si + 1) = nI j) (hbad : xs (si + 4) < 0 ∨ nI 4 ≤ xs (si + 4))
    (kk9 : ∀ (x2 : sR) (kk2 : Nat → UInt64 × UInt64) (tt2 : sT) (f2 : Nat → va_E) (H : Heap) (locs : List Loc) (ls : Array Slot), LwI ad dA nl nb q qk x2 kk2 tt2 f2 → x2.2.2.2.2.2 ≤ x.2.2.2.2.2 + 100 → ww G dA (fun z : Nat => s.heap.size ≤ z) s L f2 H locs → lv_has ls 10 [(0, .ref b), (1, .ref (ad 0)), (2, .ref (ad 16)), (3, .ref (ad 32)), (4, .ref (ad 33)), (5, .int (nI si))] → W p l e room_1 s m #[Value.ref b] below meth c H locs (cells + 1) (slots + 6) (lw_Z below #[Value.ref b] s) (F0 m 1177 ls [])) : W p l e room_1 s m #[Value.ref b] below meth c H locs cells slots (lw_Z below #[Value.ref b] s) (F0 m 148 ls []) := by
  obtain ⟨hx, hb, hml, hown, hts, hXs, hbl, hlt, hE, hC, hLs, hret, hlocks⟩ := hLC
  have hA : ∀ z : Nat, s.heap.size ≤ z → (fun z : Nat => s.heap.size ≤ z) z := fun _ h => h
  have hbA : ¬ (fun z : Nat => s.heap.size ≤ z) b := Nat.not_le.mpr hbl
  obtain ⟨hR, ⟨thr, hM⟩, ⟨o, ho⟩, ⟨od, hd⟩, hG, htt, hTT⟩ := hLI
  obtain ⟨pa, bad, num, RA, RB, TH, DE, KI, WE, NX, LI, LM, KE, TX, BW, TI, KV, DM, hX, hMk, hMb, hMw, hMt, hMp⟩ := hM
  refine lv_aload_n hx hb dL_law_148 rfl (lv_at hl 1 rfl) ?_
  refine lv_aload_n hx hb dL_law_149 rfl (lv_at hl 0 rfl) ?_
  refine lv_iload hx hb dL_law_150 (lv_at hl 5 rfl) ?_
  refine lv_iconst (v := 1) hx hb dL_law_152 (by decide) ?_
  refine lv_iadd hx hb dL_law_153 ?_
  rw [show nI si + 1 = nI (si + 1) from nI_add si 1]
  refine va_sld hx hb hXs hbl hbA hw.2.2.2 (vp_in_nI (show si + 1 < Ls by omega) (by omega)) dL_law_154 ?_
  rw [nI_clamp (show si + 1 < 2 ^ 31 by omega)]
  rw [hj1]
  refine lv_aload_n hx hb dL_law_155 rfl (lv_at hl 0 rfl) ?_
  refine lv_iload hx hb dL_law_156 (lv_at hl 5 rfl) ?_
  refine lv_iconst (v := 2) hx hb dL_law_158 (by decide) ?_
  refine lv_iadd hx hb dL_law_159 ?_
  rw [show nI si + 2 = nI (si + 2) from nI_add si 2]
  refine va_sld hx hb hXs hbl hbA hw.2.2.2 (vp_in_nI (show si + 2 < Ls by omega) (by omega)) dL_law_160 ?_
  rw [nI_clamp (show si + 2 < 2 ^ 31 by omega)]
  refine lv_i2d hx hb dL_law_161 ?_
  refine lv_ldc2d (v := 4593671619917905920) hx hb hown (hts (.constantDouble RL 75 (4593671619917905920)) (by decide +kernel)) dL_law_162 ?_
  refine lv_dmul hx hb dL_law_165 (sv_fin (xs (si + 2))).2 ?_
  refine lv_aload_n hx hb dL_law_166 rfl (lv_at hl 0 rfl) ?_
  refine lv_iload hx hb dL_law_167 (lv_at hl 5 rfl) ?_
  refine lv_iconst (v := 3) hx hb dL_law_169 (by decide) ?_
  refine lv_iadd hx hb dL_law_170 ?_
  rw [show nI si + 3 = nI (si + 3) from nI_add si 3]
  refine va_sld hx hb hXs hbl hbA hw.2.2.2 (vp_in_nI (show si + 3 < Ls by omega) (by omega)) dL_law_171 ?_
  rw [nI_clamp (show si + 3 < 2 ^ 31 by omega)]
  refine lv_i2d hx hb dL_law_172 ?_
  refine lv_ldc2d (v := 4593671619917905920) hx hb hown (hts (.constantDouble RL 75 (4593671619917905920)) (by decide +kernel)) dL_law_173 ?_
  refine lv_dmul hx hb dL_law_176 (sv_fin (xs (si + 3))).2 ?_
  refine lv_aload_n hx hb dL_law_177 rfl (lv_at hl 0 rfl) ?_
  refine lv_iload hx hb dL_law_178 (lv_at hl 5 rfl) ?_
  refine lv_iconst (v := 4) hx hb dL_law_180 (by decide) ?_
  refine lv_iadd hx hb dL_law_181 ?_
  rw [show nI si + 4 = nI (si + 4) from nI_add si 4]
  refine va_sld hx hb hXs hbl hbA hw.2.2.2 (vp_in_nI (show si + 4 < Ls by omega) (by omega)) dL_law_182 ?_
  rw [nI_clamp (show si + 4 < 2 ^ 31 by omega)]
  refine kH (As := [.ref (ad 0), .int (nI j), .double (sv (xs (si + 2))), .double (sv (xs (si + 3))), .int (xs (si + 4))]) (rest := []) ⟨hx, hb, hml, hown, hts⟩ (h_x2_X6_board l hlt G dA sa L f ad (nl + 1) nb q qk x.1 x.2.1 x.2.2.1 x.2.2.2.1 kk tt x.2.2.2.2.1 x.2.2.2.2.2 j (xs (si + 4)) (sv (xs (si + 2))) (sv (xs (si + 3))) hC hR hj hbad) (vx_cwSW 5 hts gL_law_L_board rfl rfl rfl (by decide +kernel) ⟨Nat.le_of_ble_eq_true rfl, Nat.le_of_ble_eq_true rfl⟩) hw hE hA rfl hl.1 rfl (Nat.le_of_ble_eq_true rfl) dL_law_183 ⟨hc1, hs1⟩ (fun r2 f1 H locs hp hw => ?_)
  obtain ⟨e1, e2⟩ := hp
  rw [e2] at hw
  rw [e1]
  refine lv_istore (lv' := [(6, .int 1), (0, .ref b), (1, .ref (ad 0)), (2, .ref (ad 16)), (3, .ref (ad 32)), (4, .ref (ad 33)), (5, .int (nI si))]) hx hb dL_law_186 hl (by decide) rfl (fun ls hl => ?_)
  refine lv_aload_n hx hb dL_law_188 rfl (lv_at hl 3 rfl) ?_
  refine lv_aload_n hx hb dL_law_189 rfl (lv_at hl 1 rfl) ?_
  refine lv_iload hx hb dL_law_190 (lv_at hl 6 rfl) ?_
  refine lv_iconst (v := 1) hx hb dL_law_192 (by decide) ?_
  refine lv_iadd hx hb dL_law_193 ?_
  rw [show nI si + 1 = nI (si + 1) from nI_add si 1]
  refine va_sld hx hb hXs hbl hbA hw.2.2.2 (vp_in_nI (show si + 1 < Ls by omega) (by omega)) dL_law_194 ?_
  rw [nI_clamp (show si + 1 < 2 ^ 31 by omega)]
  rw [hj1]
  refine lv_aload_n hx hb dL_law_195 rfl (lv_at hl 1 rfl) ?_
  refine lv_iload hx hb dL_law_196 (lv_at hl 6 rfl) ?_
  refine lv_iconst (v := 2) hx hb dL_law_198 (by decide) ?_
  refine lv_iadd hx hb dL_law_199 ?_
  rw [show nI si + 2 = nI (si + 2) from nI_add si 2]
  refine va_sld hx hb hXs hbl hbA hw.2.2.2 (vp_in_nI (show si + 2 < Ls by omega) (by omega)) dL_law_200 ?_
  rw [nI_clamp (show si + 2 < 2 ^ 31 by omega)]
  refine lv_i2d hx hb dL_law_201 ?_
  refine lv_ldc2d (v := 4593671619917905920) hx hb hown (hts (.constantDouble RL 75 (4593671619917905920)) (by decide +kernel)) dL_law_202 ?_
  refine lv_dmul hx hb dL_law_205 (sv_fin (xs (si + 2))).2 ?_
  refine lv_aload_n hx hb dL_law_206 rfl (lv_at hl 1 rfl) ?_
  refine lv_iload hx hb dL_law_207 (lv_at hl 6 rfl) ?_
  refine lv_iconst (v := 3) hx hb dL_law_209 (by decide) ?_
  refine lv_iadd hx hb dL_law_210 ?_
  rw [show nI si + 3 = nI (si + 3) from nI_add si 3]
  refine va_sld hx hb hXs hbl hbA hw.2.2.2 (vp_in_nI (show si + 3 < Ls by omega) (by omega)) dL_law_211 ?_
  rw [nI_clamp (show si + 3 < 2 ^ 31 by omega)]
  refine lv_i2d hx hb dL_law_212 ?_
  refine lv_ldc2d (v := 4593671619917905920) hx hb hown (hts (.constantDouble RL 75 (4593671619917905920)) (by decide +kernel)) dL_law_213 ?_
  refine lv_dmul hx hb dL_law_216 (sv_fin (xs (si + 3))).2 ?_
  refine lv_aload_n hx hb dL_law_217 rfl (lv_at hl 1 rfl) ?_
  refine lv_iload hx hb dL_law_218 (lv_at hl 6 rfl) ?_
  refine lv_iconst (v := 4) hx hb dL_law_220 (by decide) ?_
  refine lv_iadd hx hb dL_law_221 ?_
  rw [show nI si + 4 = nI (si + 4) from nI_add si 4]
  refine va_sld hx hb hXs hbl hbA hw.2.2.2 (vp_in_nI (show si + 4 < Ls by omega) (by omega)) dL_law_222 ?_
  rw [nI_clamp (show si + 4 < 2 ^ 31 by omega)]
  refine kV_V (C := RX7) (T := TX7) (N := 31) (As := [.int (nI j), .double (sv (xs (si + 2))), .double (sv (xs (si + 3))), .int (xs (si + 4))]) (rest := []) ⟨hx, hb, hml, hown, hts⟩ (t2_X7_board l G dA L f ad (nl + 1) nb q qk ((x.1).1) ((x.1).2.1) ((x.1).2.2.1) ((x.1).2.2.2) ((x.2.1).1) ((x.2.1).2) x.2.2.2.2.2 tt.1 ((x.2.2.2.2.1).1) ((x.2.2.2.2.1).2.1) thr pa bad num RA RB TH DE KI WE NX LI LM KE TX BW TI KV DM f (nI j) (xs (si + 4)) (sv (xs (si + 2))) (sv (xs (si + 3))) hC hX (noB_f hC.nb31 hj) hbad) (cwV 4 hts gL_law_X7_board rfl rfl rfl (by decide +kernel) ⟨Nat.le_of_ble_eq_true rfl, Nat.le_of_ble_eq_true rfl⟩) hw hA (hC.m (by decide)) hX.o rfl rfl hl.1 rfl (Nat.le_of_ble_eq_true rfl) dL_law_223 ⟨hc1, hs1⟩ (fun f3 H locs hp hw => ?_)
  have hX2 : MX ad dA (nl + 1) nb ((x.1).1) ((x.1).2.1) ((x.1).2.2.1) ((x.1).2.2.2) ((x.2.1).1) ((x.2.1).2) x.2.2.2.2.2 tt.1 ((x.2.2.2.2.1).1) ((x.2.2.2.2.1).2.1) 1 pa bad num RA RB TH DE KI WE NX LI LM KE TX BW TI KV DM f f3 := hp
  refine lv_aload_n hx hb dL_law_226 rfl (lv_at hl 3 rfl) ?_
  refine kV_I (C := RX7) (T := TX7) (N := 31) (As := []) (rest := []) ⟨hx, hb, hml, hown, hts⟩ (c_X7_thrown l G dA L f3 ad (nl + 1) nb q qk ((x.1).1) ((x.1).2.1) ((x.1).2.2.1) ((x.1).2.2.2) ((x.2.1).1) ((x.2.1).2) x.2.2.2.2.2 tt.1 ((x.2.2.2.2.1).1) ((x.2.2.2.2.1).2.1) 1 pa bad num RA RB TH DE KI WE NX LI LM KE TX BW TI KV DM f hC hX2) (cwV 0 hts gL_law_X7_thrown rfl rfl rfl (by decide +kernel) ⟨Nat.le_of_ble_eq_true rfl, Nat.le_of_ble_eq_true rfl⟩) hw hA (hC.m (by decide)) hX2.o rfl rfl hl.1 rfl (Nat.le_of_ble_eq_true rfl) dL_law_227 ⟨hc1, hs1⟩ (fun r5 f6 H locs hp hw => ?_)
  obtain ⟨e1, e2⟩ := hp
  rw [e2] at hw
  rw [e1]
  refine lv_iload hx hb dL_law_230 (lv_at hl 0 rfl) ?_
  refine lv_icmp_eq (tgt := 237) hx hb dL_law_232 (by decide) (fun _ => ?_) (fun c9 => absurd rfl c9)
  refine lv_goto (tgt := 1177) hx hb dL_law_237 (by decide) ?_
  exact kk9 x kk tt f3 _ _ ls (LwI.of (x := x) (kk := kk) (tt := tt) hR ⟨_, _, _, _, _, _, _, _, _, _, _, _, _, _, _, _, _, _, hX2, hMk, hMb, hMw, hMt, hMp⟩ ⟨_, ho⟩ ⟨_, hd⟩ hG htt hTT) (Nat.le_add_right _ _) hw (lv_sub hl [1, 2, 3, 4, 5, 6] rfl)

set_option maxHeartbeats 4000000 in
set_option maxRecDepth 100000 in
theorem k_board_3 {p : Program} {l : Launch} {e : Env} {s : State} {m : MethodId} {below : List Frame} {meth : Method} {c : Code} {G : va_G} {dA : Nat → ClassId} {b Ls si : Nat} {xs : Nat → Int32} {sa ad : Nat → Nat} {L : List Nat} {nl nb : Nat} {q qk : Nat → Option Nat} {x : sR} {kk : Nat → UInt64 × UInt64} {tt : sT} {f : Nat → va_E} {H : Heap} {locs : List Loc} {ls : Array Slot} {cells slots : Nat} (j kc : Nat) (hLC : LC p l s m c meth b Ls xs G dA sa ad L nl nb q qk) (hsi : si + 5 ≤ Ls) (hc1 : cells + 1 ≤ room_1.cells) (hs1 : slots + 6 ≤ room_1.slots) (hLI : LwI ad dA nl nb q qk x kk tt f) (hhr : x.2.2.2.2.2 < 2 ^ 29) (hw : ww G dA (fun z : Nat => s.heap.size ≤ z) s L f H locs) (hl : lv_has ls 10 [(0, .ref b), (1, .ref (ad 0)), (2, .ref (ad 16)), (3, .ref (ad 32)), (4, .ref (ad 33)), (5, .int (nI si))]) (hj : j < nb) (hj1 : xs (si + 1) = nI j) (hc : kc < 4) (hk1 : xs (si + 4) = nI kc) (hbad : ¬ inR (sv (xs (si + 2))) FP.dconst1 4645744490609377280)
    (kk9 : ∀ (x2 : sR) (kk2 : Nat → UInt64 × UInt64) (tt2 : sT) (f2 : Nat → va_E) (H : Heap) (locs : List Loc) (ls : Array Slot), LwI ad dA nl nb q qk x2 kk2 tt2 f2 → x2.2.2.2.2.2 ≤ x.2.2.2.2.2 + 100 → ww G dA (fun z : Nat => s.heap.size ≤ z) s L f2 H locs → lv_has ls 10 [(0, .ref b), (1, .ref (ad 0)), (2, .ref (ad 16)), (3, .ref (ad 32)), (4, .ref (ad 33)), (5, .int (nI si))] → W p l e room_1 s m #[Value.ref b] below meth c H locs (cells + 1) (slots + 6) (lw_Z below #[Value.ref b] s) (F0 m 1177 ls [])) : W p l e room_1 s m #[Value.ref b] below meth c H locs cells slots (lw_Z below #[Value.ref b] s) (F0 m 148 ls []) := by
  obtain ⟨hx, hb, hml, hown, hts, hXs, hbl, hlt, hE, hC, hLs, hret, hlocks⟩ := hLC
  have hA : ∀ z : Nat, s.heap.size ≤ z → (fun z : Nat => s.heap.size ≤ z) z := fun _ h => h
  have hbA : ¬ (fun z : Nat => s.heap.size ≤ z) b := Nat.not_le.mpr hbl
  obtain ⟨hR, ⟨thr, hM⟩, ⟨o, ho⟩, ⟨od, hd⟩, hG, htt, hTT⟩ := hLI
  obtain ⟨pa, bad, num, RA, RB, TH, DE, KI, WE, NX, LI, LM, KE, TX, BW, TI, KV, DM, hX, hMk, hMb, hMw, hMt, hMp⟩ := hM
  refine lv_aload_n hx hb dL_law_148 rfl (lv_at hl 1 rfl) ?_
  refine lv_aload_n hx hb dL_law_149 rfl (lv_at hl 0 rfl) ?_
  refine lv_iload hx hb dL_law_150 (lv_at hl 5 rfl) ?_
  refine lv_iconst (v := 1) hx hb dL_law_152 (by decide) ?_
  refine lv_iadd hx hb dL_law_153 ?_
  rw [show nI si + 1 = nI (si + 1) from nI_add si 1]
  refine va_sld hx hb hXs hbl hbA hw.2.2.2 (vp_in_nI (show si + 1 < Ls by omega) (by omega)) dL_law_154 ?_
  rw [nI_clamp (show si + 1 < 2 ^ 31 by omega)]
  rw [hj1]
  refine lv_aload_n hx hb dL_law_155 rfl (lv_at hl 0 rfl) ?_
  refine lv_iload hx hb dL_law_156 (lv_at hl 5 rfl) ?_
  refine lv_iconst (v := 2) hx hb dL_law_158 (by decide) ?_
  refine lv_iadd hx hb dL_law_159 ?_
  rw [show nI si + 2 = nI (si + 2) from nI_add si 2]
  refine va_sld hx hb hXs hbl hbA hw.2.2.2 (vp_in_nI (show si + 2 < Ls by omega) (by omega)) dL_law_160 ?_
  rw [nI_clamp (show si + 2 < 2 ^ 31 by omega)]
  refine lv_i2d hx hb dL_law_161 ?_
  refine lv_ldc2d (v := 4593671619917905920) hx hb hown (hts (.constantDouble RL 75 (4593671619917905920)) (by decide +kernel)) dL_law_162 ?_
  refine lv_dmul hx hb dL_law_165 (sv_fin (xs (si + 2))).2 ?_
  refine lv_aload_n hx hb dL_law_166 rfl (lv_at hl 0 rfl) ?_
  refine lv_iload hx hb dL_law_167 (lv_at hl 5 rfl) ?_
  refine lv_iconst (v := 3) hx hb dL_law_169 (by decide) ?_
  refine lv_iadd hx hb dL_law_170 ?_
  rw [show nI si + 3 = nI (si + 3) from nI_add si 3]
  refine va_sld hx hb hXs hbl hbA hw.2.2.2 (vp_in_nI (show si + 3 < Ls by omega) (by omega)) dL_law_171 ?_
  rw [nI_clamp (show si + 3 < 2 ^ 31 by omega)]
  refine lv_i2d hx hb dL_law_172 ?_
  refine lv_ldc2d (v := 4593671619917905920) hx hb hown (hts (.constantDouble RL 75 (4593671619917905920)) (by decide +kernel)) dL_law_173 ?_
  refine lv_dmul hx hb dL_law_176 (sv_fin (xs (si + 3))).2 ?_
  refine lv_aload_n hx hb dL_law_177 rfl (lv_at hl 0 rfl) ?_
  refine lv_iload hx hb dL_law_178 (lv_at hl 5 rfl) ?_
  refine lv_iconst (v := 4) hx hb dL_law_180 (by decide) ?_
  refine lv_iadd hx hb dL_law_181 ?_
  rw [show nI si + 4 = nI (si + 4) from nI_add si 4]
  refine va_sld hx hb hXs hbl hbA hw.2.2.2 (vp_in_nI (show si + 4 < Ls by omega) (by omega)) dL_law_182 ?_
  rw [nI_clamp (show si + 4 < 2 ^ 31 by omega)]
  rw [hk1]
  refine kH (As := [.ref (ad 0), .int (nI j), .double (sv (xs (si + 2))), .double (sv (xs (si + 3))), .int (nI kc)]) (rest := []) ⟨hx, hb, hml, hown, hts⟩ (h_x3_X6_board l hlt G dA sa L f ad (nl + 1) nb q qk x.1 x.2.1 x.2.2.1 x.2.2.2.1 kk tt x.2.2.2.2.1 x.2.2.2.2.2 j kc (sv (xs (si + 2))) (sv (xs (si + 3))) hC hR hj hc hbad) (vx_cwSW 5 hts gL_law_L_board rfl rfl rfl (by decide +kernel) ⟨Nat.le_of_ble_eq_true rfl, Nat.le_of_ble_eq_true rfl⟩) hw hE hA rfl hl.1 rfl (Nat.le_of_ble_eq_true rfl) dL_law_183 ⟨hc1, hs1⟩ (fun r2 f1 H locs hp hw => ?_)
  obtain ⟨e1, e2⟩ := hp
  rw [e2] at hw
  rw [e1]
  refine lv_istore (lv' := [(6, .int 2), (0, .ref b), (1, .ref (ad 0)), (2, .ref (ad 16)), (3, .ref (ad 32)), (4, .ref (ad 33)), (5, .int (nI si))]) hx hb dL_law_186 hl (by decide) rfl (fun ls hl => ?_)
  refine lv_aload_n hx hb dL_law_188 rfl (lv_at hl 3 rfl) ?_
  refine lv_aload_n hx hb dL_law_189 rfl (lv_at hl 1 rfl) ?_
  refine lv_iload hx hb dL_law_190 (lv_at hl 6 rfl) ?_
  refine lv_iconst (v := 1) hx hb dL_law_192 (by decide) ?_
  refine lv_iadd hx hb dL_law_193 ?_
  rw [show nI si + 1 = nI (si + 1) from nI_add si 1]
  refine va_sld hx hb hXs hbl hbA hw.2.2.2 (vp_in_nI (show si + 1 < Ls by omega) (by omega)) dL_law_194 ?_
  rw [nI_clamp (show si + 1 < 2 ^ 31 by omega)]
  rw [hj1]
  refine lv_aload_n hx hb dL_law_195 rfl (lv_at hl 1 rfl) ?_
  refine lv_iload hx hb dL_law_196 (lv_at hl 6 rfl) ?_
  refine lv_iconst (v := 2) hx hb dL_law_198 (by decide) ?_
  refine lv_iadd hx hb dL_law_199 ?_
  rw [show nI si + 2 = nI (si + 2) from nI_add si 2]
  refine va_sld hx hb hXs hbl hbA hw.2.2.2 (vp_in_nI (show si + 2 < Ls by omega) (by omega)) dL_law_200 ?_
  rw [nI_clamp (show si + 2 < 2 ^ 31 by omega)]
  refine lv_i2d hx hb dL_law_201 ?_
  refine lv_ldc2d (v := 4593671619917905920) hx hb hown (hts (.constantDouble RL 75 (4593671619917905920)) (by decide +kernel)) dL_law_202 ?_
  refine lv_dmul hx hb dL_law_205 (sv_fin (xs (si + 2))).2 ?_
  refine lv_aload_n hx hb dL_law_206 rfl (lv_at hl 1 rfl) ?_
  refine lv_iload hx hb dL_law_207 (lv_at hl 6 rfl) ?_
  refine lv_iconst (v := 3) hx hb dL_law_209 (by decide) ?_
  refine lv_iadd hx hb dL_law_210 ?_
  rw [show nI si + 3 = nI (si + 3) from nI_add si 3]
  refine va_sld hx hb hXs hbl hbA hw.2.2.2 (vp_in_nI (show si + 3 < Ls by omega) (by omega)) dL_law_211 ?_
  rw [nI_clamp (show si + 3 < 2 ^ 31 by omega)]
  refine lv_i2d hx hb dL_law_212 ?_
  refine lv_ldc2d (v := 4593671619917905920) hx hb hown (hts (.constantDouble RL 75 (4593671619917905920)) (by decide +kernel)) dL_law_213 ?_
  refine lv_dmul hx hb dL_law_216 (sv_fin (xs (si + 3))).2 ?_
  refine lv_aload_n hx hb dL_law_217 rfl (lv_at hl 1 rfl) ?_
  refine lv_iload hx hb dL_law_218 (lv_at hl 6 rfl) ?_
  refine lv_iconst (v := 4) hx hb dL_law_220 (by decide) ?_
  refine lv_iadd hx hb dL_law_221 ?_
  rw [show nI si + 4 = nI (si + 4) from nI_add si 4]
  refine va_sld hx hb hXs hbl hbA hw.2.2.2 (vp_in_nI (show si + 4 < Ls by omega) (by omega)) dL_law_222 ?_
  rw [nI_clamp (show si + 4 < 2 ^ 31 by omega)]
  rw [hk1]
  refine kV_V (C := RX7) (T := TX7) (N := 31) (As := [.int (nI j), .double (sv (xs (si + 2))), .double (sv (xs (si + 3))), .int (nI kc)]) (rest := []) ⟨hx, hb, hml, hown, hts⟩ (t3_X7_board l G dA L f ad (nl + 1) nb q qk ((x.1).1) ((x.1).2.1) ((x.1).2.2.1) ((x.1).2.2.2) ((x.2.1).1) ((x.2.1).2) x.2.2.2.2.2 tt.1 ((x.2.2.2.2.1).1) ((x.2.2.2.2.1).2.1) thr pa bad num RA RB TH DE KI WE NX LI LM KE TX BW TI KV DM f (nI j) kc (sv (xs (si + 2))) (sv (xs (si + 3))) hC hX (noB_f hC.nb31 hj) hc (inB_f hbad)) (cwV 4 hts gL_law_X7_board rfl rfl rfl (by decide +kernel) ⟨Nat.le_of_ble_eq_true rfl, Nat.le_of_ble_eq_true rfl⟩) hw hA (hC.m (by decide)) hX.o rfl rfl hl.1 rfl (Nat.le_of_ble_eq_true rfl) dL_law_223 ⟨hc1, hs1⟩ (fun f3 H locs hp hw => ?_)
  have hX2 : MX ad dA (nl + 1) nb ((x.1).1) ((x.1).2.1) ((x.1).2.2.1) ((x.1).2.2.2) ((x.2.1).1) ((x.2.1).2) x.2.2.2.2.2 tt.1 ((x.2.2.2.2.1).1) ((x.2.2.2.2.1).2.1) 2 pa bad num RA RB TH DE KI WE NX LI LM KE TX BW TI KV DM f f3 := hp
  refine lv_aload_n hx hb dL_law_226 rfl (lv_at hl 3 rfl) ?_
  refine kV_I (C := RX7) (T := TX7) (N := 31) (As := []) (rest := []) ⟨hx, hb, hml, hown, hts⟩ (c_X7_thrown l G dA L f3 ad (nl + 1) nb q qk ((x.1).1) ((x.1).2.1) ((x.1).2.2.1) ((x.1).2.2.2) ((x.2.1).1) ((x.2.1).2) x.2.2.2.2.2 tt.1 ((x.2.2.2.2.1).1) ((x.2.2.2.2.1).2.1) 2 pa bad num RA RB TH DE KI WE NX LI LM KE TX BW TI KV DM f hC hX2) (cwV 0 hts gL_law_X7_thrown rfl rfl rfl (by decide +kernel) ⟨Nat.le_of_ble_eq_true rfl, Nat.le_of_ble_eq_true rfl⟩) hw hA (hC.m (by decide)) hX2.o rfl rfl hl.1 rfl (Nat.le_of_ble_eq_true rfl) dL_law_227 ⟨hc1, hs1⟩ (fun r5 f6 H locs hp hw => ?_)
  obtain ⟨e1, e2⟩ := hp
  rw [e2] at hw
  rw [e1]
  refine lv_iload hx hb dL_law_230 (lv_at hl 0 rfl) ?_
  refine lv_icmp_eq (tgt := 237) hx hb dL_law_232 (by decide) (fun _ => ?_) (fun c9 => absurd rfl c9)
  refine lv_goto (tgt := 1177) hx hb dL_law_237 (by decide) ?_
  exact kk9 x kk tt f3 _ _ ls (LwI.of (x := x) (kk := kk) (tt := tt) hR ⟨_, _, _, _, _, _, _, _, _, _, _, _, _, _, _, _, _, _, hX2, hMk, hMb, hMw, hMt, hMp⟩ ⟨_, ho⟩ ⟨_, hd⟩ hG htt hTT) (Nat.le_add_right _ _) hw (lv_sub hl [1, 2, 3, 4, 5, 6] rfl)

set_option maxHeartbeats 4000000 in
set_option maxRecDepth 100000 in
theorem k_board_4 {p : Program} {l : Launch} {e : Env} {s : State} {m : MethodId} {below : List Frame} {meth : Method} {c : Code} {G : va_G} {dA : Nat → ClassId} {b Ls si : Nat} {xs : Nat → Int32} {sa ad : Nat → Nat} {L : List Nat} {nl nb : Nat} {q qk : Nat → Option Nat} {x : sR} {kk : Nat → UInt64 × UInt64} {tt : sT} {f : Nat → va_E} {H : Heap} {locs : List Loc} {ls : Array Slot} {cells slots : Nat} (j kc : Nat) (hLC : LC p l s m c meth b Ls xs G dA sa ad L nl nb q qk) (hsi : si + 5 ≤ Ls) (hc1 : cells + 1 ≤ room_1.cells) (hs1 : slots + 6 ≤ room_1.slots) (hLI : LwI ad dA nl nb q qk x kk tt f) (hhr : x.2.2.2.2.2 < 2 ^ 29) (hw : ww G dA (fun z : Nat => s.heap.size ≤ z) s L f H locs) (hl : lv_has ls 10 [(0, .ref b), (1, .ref (ad 0)), (2, .ref (ad 16)), (3, .ref (ad 32)), (4, .ref (ad 33)), (5, .int (nI si))]) (hj : j < nb) (hj1 : xs (si + 1) = nI j) (hc : kc < 4) (hk1 : xs (si + 4) = nI kc) (h1 : inR (sv (xs (si + 2))) FP.dconst1 4645744490609377280) (hbad : ¬ inR (sv (xs (si + 3))) FP.dconst0 4613937818241073152)
    (kk9 : ∀ (x2 : sR) (kk2 : Nat → UInt64 × UInt64) (tt2 : sT) (f2 : Nat → va_E) (H : Heap) (locs : List Loc) (ls : Array Slot), LwI ad dA nl nb q qk x2 kk2 tt2 f2 → x2.2.2.2.2.2 ≤ x.2.2.2.2.2 + 100 → ww G dA (fun z : Nat => s.heap.size ≤ z) s L f2 H locs → lv_has ls 10 [(0, .ref b), (1, .ref (ad 0)), (2, .ref (ad 16)), (3, .ref (ad 32)), (4, .ref (ad 33)), (5, .int (nI si))] → W p l e room_1 s m #[Value.ref b] below meth c H locs (cells + 1) (slots + 6) (lw_Z below #[Value.ref b] s) (F0 m 1177 ls [])) : W p l e room_1 s m #[Value.ref b] below meth c H locs cells slots (lw_Z below #[Value.ref b] s) (F0 m 148 ls []) := by
  obtain ⟨hx, hb, hml, hown, hts, hXs, hbl, hlt, hE, hC, hLs, hret, hlocks⟩ := hLC
  have hA : ∀ z : Nat, s.heap.size ≤ z → (fun z : Nat => s.heap.size ≤ z) z := fun _ h => h
  have hbA : ¬ (fun z : Nat => s.heap.size ≤ z) b := Nat.not_le.mpr hbl
  obtain ⟨hR, ⟨thr, hM⟩, ⟨o, ho⟩, ⟨od, hd⟩, hG, htt, hTT⟩ := hLI
  obtain ⟨pa, bad, num, RA, RB, TH, DE, KI, WE, NX, LI, LM, KE, TX, BW, TI, KV, DM, hX, hMk, hMb, hMw, hMt, hMp⟩ := hM
  refine lv_aload_n hx hb dL_law_148 rfl (lv_at hl 1 rfl) ?_
  refine lv_aload_n hx hb dL_law_149 rfl (lv_at hl 0 rfl) ?_
  refine lv_iload hx hb dL_law_150 (lv_at hl 5 rfl) ?_
  refine lv_iconst (v := 1) hx hb dL_law_152 (by decide) ?_
  refine lv_iadd hx hb dL_law_153 ?_
  rw [show nI si + 1 = nI (si + 1) from nI_add si 1]
  refine va_sld hx hb hXs hbl hbA hw.2.2.2 (vp_in_nI (show si + 1 < Ls by omega) (by omega)) dL_law_154 ?_
  rw [nI_clamp (show si + 1 < 2 ^ 31 by omega)]
  rw [hj1]
  refine lv_aload_n hx hb dL_law_155 rfl (lv_at hl 0 rfl) ?_
  refine lv_iload hx hb dL_law_156 (lv_at hl 5 rfl) ?_
  refine lv_iconst (v := 2) hx hb dL_law_158 (by decide) ?_
  refine lv_iadd hx hb dL_law_159 ?_
  rw [show nI si + 2 = nI (si + 2) from nI_add si 2]
  refine va_sld hx hb hXs hbl hbA hw.2.2.2 (vp_in_nI (show si + 2 < Ls by omega) (by omega)) dL_law_160 ?_
  rw [nI_clamp (show si + 2 < 2 ^ 31 by omega)]
  refine lv_i2d hx hb dL_law_161 ?_
  refine lv_ldc2d (v := 4593671619917905920) hx hb hown (hts (.constantDouble RL 75 (4593671619917905920)) (by decide +kernel)) dL_law_162 ?_
  refine lv_dmul hx hb dL_law_165 (sv_fin (xs (si + 2))).2 ?_
  refine lv_aload_n hx hb dL_law_166 rfl (lv_at hl 0 rfl) ?_
  refine lv_iload hx hb dL_law_167 (lv_at hl 5 rfl) ?_
  refine lv_iconst (v := 3) hx hb dL_law_169 (by decide) ?_
  refine lv_iadd hx hb dL_law_170 ?_
  rw [show nI si + 3 = nI (si + 3) from nI_add si 3]
  refine va_sld hx hb hXs hbl hbA hw.2.2.2 (vp_in_nI (show si + 3 < Ls by omega) (by omega)) dL_law_171 ?_
  rw [nI_clamp (show si + 3 < 2 ^ 31 by omega)]
  refine lv_i2d hx hb dL_law_172 ?_
  refine lv_ldc2d (v := 4593671619917905920) hx hb hown (hts (.constantDouble RL 75 (4593671619917905920)) (by decide +kernel)) dL_law_173 ?_
  refine lv_dmul hx hb dL_law_176 (sv_fin (xs (si + 3))).2 ?_
  refine lv_aload_n hx hb dL_law_177 rfl (lv_at hl 0 rfl) ?_
  refine lv_iload hx hb dL_law_178 (lv_at hl 5 rfl) ?_
  refine lv_iconst (v := 4) hx hb dL_law_180 (by decide) ?_
  refine lv_iadd hx hb dL_law_181 ?_
  rw [show nI si + 4 = nI (si + 4) from nI_add si 4]
  refine va_sld hx hb hXs hbl hbA hw.2.2.2 (vp_in_nI (show si + 4 < Ls by omega) (by omega)) dL_law_182 ?_
  rw [nI_clamp (show si + 4 < 2 ^ 31 by omega)]
  rw [hk1]
  refine kH (As := [.ref (ad 0), .int (nI j), .double (sv (xs (si + 2))), .double (sv (xs (si + 3))), .int (nI kc)]) (rest := []) ⟨hx, hb, hml, hown, hts⟩ (h_x4_X6_board l hlt G dA sa L f ad (nl + 1) nb q qk x.1 x.2.1 x.2.2.1 x.2.2.2.1 kk tt x.2.2.2.2.1 x.2.2.2.2.2 j kc (sv (xs (si + 2))) (sv (xs (si + 3))) hC hR hj hc h1 hbad) (vx_cwSW 5 hts gL_law_L_board rfl rfl rfl (by decide +kernel) ⟨Nat.le_of_ble_eq_true rfl, Nat.le_of_ble_eq_true rfl⟩) hw hE hA rfl hl.1 rfl (Nat.le_of_ble_eq_true rfl) dL_law_183 ⟨hc1, hs1⟩ (fun r2 f1 H locs hp hw => ?_)
  obtain ⟨e1, e2⟩ := hp
  rw [e2] at hw
  rw [e1]
  refine lv_istore (lv' := [(6, .int 2), (0, .ref b), (1, .ref (ad 0)), (2, .ref (ad 16)), (3, .ref (ad 32)), (4, .ref (ad 33)), (5, .int (nI si))]) hx hb dL_law_186 hl (by decide) rfl (fun ls hl => ?_)
  refine lv_aload_n hx hb dL_law_188 rfl (lv_at hl 3 rfl) ?_
  refine lv_aload_n hx hb dL_law_189 rfl (lv_at hl 1 rfl) ?_
  refine lv_iload hx hb dL_law_190 (lv_at hl 6 rfl) ?_
  refine lv_iconst (v := 1) hx hb dL_law_192 (by decide) ?_
  refine lv_iadd hx hb dL_law_193 ?_
  rw [show nI si + 1 = nI (si + 1) from nI_add si 1]
  refine va_sld hx hb hXs hbl hbA hw.2.2.2 (vp_in_nI (show si + 1 < Ls by omega) (by omega)) dL_law_194 ?_
  rw [nI_clamp (show si + 1 < 2 ^ 31 by omega)]
  rw [hj1]
  refine lv_aload_n hx hb dL_law_195 rfl (lv_at hl 1 rfl) ?_
  refine lv_iload hx hb dL_law_196 (lv_at hl 6 rfl) ?_
  refine lv_iconst (v := 2) hx hb dL_law_198 (by decide) ?_
  refine lv_iadd hx hb dL_law_199 ?_
  rw [show nI si + 2 = nI (si + 2) from nI_add si 2]
  refine va_sld hx hb hXs hbl hbA hw.2.2.2 (vp_in_nI (show si + 2 < Ls by omega) (by omega)) dL_law_200 ?_
  rw [nI_clamp (show si + 2 < 2 ^ 31 by omega)]
  refine lv_i2d hx hb dL_law_201 ?_
  refine lv_ldc2d (v := 4593671619917905920) hx hb hown (hts (.constantDouble RL 75 (4593671619917905920)) (by decide +kernel)) dL_law_202 ?_
  refine lv_dmul hx hb dL_law_205 (sv_fin (xs (si + 2))).2 ?_
  refine lv_aload_n hx hb dL_law_206 rfl (lv_at hl 1 rfl) ?_
  refine lv_iload hx hb dL_law_207 (lv_at hl 6 rfl) ?_
  refine lv_iconst (v := 3) hx hb dL_law_209 (by decide) ?_
  refine lv_iadd hx hb dL_law_210 ?_
  rw [show nI si + 3 = nI (si + 3) from nI_add si 3]
  refine va_sld hx hb hXs hbl hbA hw.2.2.2 (vp_in_nI (show si + 3 < Ls by omega) (by omega)) dL_law_211 ?_
  rw [nI_clamp (show si + 3 < 2 ^ 31 by omega)]
  refine lv_i2d hx hb dL_law_212 ?_
  refine lv_ldc2d (v := 4593671619917905920) hx hb hown (hts (.constantDouble RL 75 (4593671619917905920)) (by decide +kernel)) dL_law_213 ?_
  refine lv_dmul hx hb dL_law_216 (sv_fin (xs (si + 3))).2 ?_
  refine lv_aload_n hx hb dL_law_217 rfl (lv_at hl 1 rfl) ?_
  refine lv_iload hx hb dL_law_218 (lv_at hl 6 rfl) ?_
  refine lv_iconst (v := 4) hx hb dL_law_220 (by decide) ?_
  refine lv_iadd hx hb dL_law_221 ?_
  rw [show nI si + 4 = nI (si + 4) from nI_add si 4]
  refine va_sld hx hb hXs hbl hbA hw.2.2.2 (vp_in_nI (show si + 4 < Ls by omega) (by omega)) dL_law_222 ?_
  rw [nI_clamp (show si + 4 < 2 ^ 31 by omega)]
  rw [hk1]
  refine kV_V (C := RX7) (T := TX7) (N := 31) (As := [.int (nI j), .double (sv (xs (si + 2))), .double (sv (xs (si + 3))), .int (nI kc)]) (rest := []) ⟨hx, hb, hml, hown, hts⟩ (t4_X7_board l G dA L f ad (nl + 1) nb q qk ((x.1).1) ((x.1).2.1) ((x.1).2.2.1) ((x.1).2.2.2) ((x.2.1).1) ((x.2.1).2) x.2.2.2.2.2 tt.1 ((x.2.2.2.2.1).1) ((x.2.2.2.2.1).2.1) thr pa bad num RA RB TH DE KI WE NX LI LM KE TX BW TI KV DM f (nI j) kc (sv (xs (si + 2))) (sv (xs (si + 3))) hC hX (noB_f hC.nb31 hj) hc (inB_t h1) (inB_f hbad)) (cwV 4 hts gL_law_X7_board rfl rfl rfl (by decide +kernel) ⟨Nat.le_of_ble_eq_true rfl, Nat.le_of_ble_eq_true rfl⟩) hw hA (hC.m (by decide)) hX.o rfl rfl hl.1 rfl (Nat.le_of_ble_eq_true rfl) dL_law_223 ⟨hc1, hs1⟩ (fun f3 H locs hp hw => ?_)
  have hX2 : MX ad dA (nl + 1) nb ((x.1).1) ((x.1).2.1) ((x.1).2.2.1) ((x.1).2.2.2) ((x.2.1).1) ((x.2.1).2) x.2.2.2.2.2 tt.1 ((x.2.2.2.2.1).1) ((x.2.2.2.2.1).2.1) 2 pa bad num RA RB TH DE KI WE NX LI LM KE TX BW TI KV DM f f3 := hp
  refine lv_aload_n hx hb dL_law_226 rfl (lv_at hl 3 rfl) ?_
  refine kV_I (C := RX7) (T := TX7) (N := 31) (As := []) (rest := []) ⟨hx, hb, hml, hown, hts⟩ (c_X7_thrown l G dA L f3 ad (nl + 1) nb q qk ((x.1).1) ((x.1).2.1) ((x.1).2.2.1) ((x.1).2.2.2) ((x.2.1).1) ((x.2.1).2) x.2.2.2.2.2 tt.1 ((x.2.2.2.2.1).1) ((x.2.2.2.2.1).2.1) 2 pa bad num RA RB TH DE KI WE NX LI LM KE TX BW TI KV DM f hC hX2) (cwV 0 hts gL_law_X7_thrown rfl rfl rfl (by decide +kernel) ⟨Nat.le_of_ble_eq_true rfl, Nat.le_of_ble_eq_true rfl⟩) hw hA (hC.m (by decide)) hX2.o rfl rfl hl.1 rfl (Nat.le_of_ble_eq_true rfl) dL_law_227 ⟨hc1, hs1⟩ (fun r5 f6 H locs hp hw => ?_)
  obtain ⟨e1, e2⟩ := hp
  rw [e2] at hw
  rw [e1]
  refine lv_iload hx hb dL_law_230 (lv_at hl 0 rfl) ?_
  refine lv_icmp_eq (tgt := 237) hx hb dL_law_232 (by decide) (fun _ => ?_) (fun c9 => absurd rfl c9)
  refine lv_goto (tgt := 1177) hx hb dL_law_237 (by decide) ?_
  exact kk9 x kk tt f3 _ _ ls (LwI.of (x := x) (kk := kk) (tt := tt) hR ⟨_, _, _, _, _, _, _, _, _, _, _, _, _, _, _, _, _, _, hX2, hMk, hMb, hMw, hMt, hMp⟩ ⟨_, ho⟩ ⟨_, hd⟩ hG htt hTT) (Nat.le_add_right _ _) hw (lv_sub hl [1, 2, 3, 4, 5, 6] rfl)

set_option maxHeartbeats 4000000 in
set_option maxRecDepth 100000 in
theorem k_board_0 {p : Program} {l : Launch} {e : Env} {s : State} {m : MethodId} {below : List Frame} {meth : Method} {c : Code} {G : va_G} {dA : Nat → ClassId} {b Ls si : Nat} {xs : Nat → Int32} {sa ad : Nat → Nat} {L : List Nat} {nl nb : Nat} {q qk : Nat → Option Nat} {x : sR} {kk : Nat → UInt64 × UInt64} {tt : sT} {f : Nat → va_E} {H : Heap} {locs : List Loc} {ls : Array Slot} {cells slots : Nat} (j kc : Nat) (hLC : LC p l s m c meth b Ls xs G dA sa ad L nl nb q qk) (hsi : si + 5 ≤ Ls) (hc1 : cells + 1 ≤ room_1.cells) (hs1 : slots + 6 ≤ room_1.slots) (hLI : LwI ad dA nl nb q qk x kk tt f) (hhr : x.2.2.2.2.2 < 2 ^ 29) (hw : ww G dA (fun z : Nat => s.heap.size ≤ z) s L f H locs) (hl : lv_has ls 10 [(0, .ref b), (1, .ref (ad 0)), (2, .ref (ad 16)), (3, .ref (ad 32)), (4, .ref (ad 33)), (5, .int (nI si))]) (hj : j < nb) (hj1 : xs (si + 1) = nI j) (hc : kc < 4) (hk1 : xs (si + 4) = nI kc) (h1 : inR (sv (xs (si + 2))) FP.dconst1 4645744490609377280) (h2 : inR (sv (xs (si + 3))) FP.dconst0 4613937818241073152)
    (kk9 : ∀ (x2 : sR) (kk2 : Nat → UInt64 × UInt64) (tt2 : sT) (f2 : Nat → va_E) (H : Heap) (locs : List Loc) (ls : Array Slot), LwI ad dA nl nb q qk x2 kk2 tt2 f2 → x2.2.2.2.2.2 ≤ x.2.2.2.2.2 + 100 → ww G dA (fun z : Nat => s.heap.size ≤ z) s L f2 H locs → lv_has ls 10 [(0, .ref b), (1, .ref (ad 0)), (2, .ref (ad 16)), (3, .ref (ad 32)), (4, .ref (ad 33)), (5, .int (nI si))] → W p l e room_1 s m #[Value.ref b] below meth c H locs (cells + 1) (slots + 6) (lw_Z below #[Value.ref b] s) (F0 m 1177 ls [])) : W p l e room_1 s m #[Value.ref b] below meth c H locs cells slots (lw_Z below #[Value.ref b] s) (F0 m 148 ls []) := by
  obtain ⟨hx, hb, hml, hown, hts, hXs, hbl, hlt, hE, hC, hLs, hret, hlocks⟩ := hLC
  have hA : ∀ z : Nat, s.heap.size ≤ z → (fun z : Nat => s.heap.size ≤ z) z := fun _ h => h
  have hbA : ¬ (fun z : Nat => s.heap.size ≤ z) b := Nat.not_le.mpr hbl
  obtain ⟨hR, ⟨thr, hM⟩, ⟨o, ho⟩, ⟨od, hd⟩, hG, htt, hTT⟩ := hLI
  obtain ⟨pa, bad, num, RA, RB, TH, DE, KI, WE, NX, LI, LM, KE, TX, BW, TI, KV, DM, hX, hMk, hMb, hMw, hMt, hMp⟩ := hM
  have hgd := g_dep (n := (nl + 1)) (sv_fin (xs (si + 2))).1 h1 hC.2.2.1.1 hC.2.2.1.2
  refine lv_aload_n hx hb dL_law_148 rfl (lv_at hl 1 rfl) ?_
  refine lv_aload_n hx hb dL_law_149 rfl (lv_at hl 0 rfl) ?_
  refine lv_iload hx hb dL_law_150 (lv_at hl 5 rfl) ?_
  refine lv_iconst (v := 1) hx hb dL_law_152 (by decide) ?_
  refine lv_iadd hx hb dL_law_153 ?_
  rw [show nI si + 1 = nI (si + 1) from nI_add si 1]
  refine va_sld hx hb hXs hbl hbA hw.2.2.2 (vp_in_nI (show si + 1 < Ls by omega) (by omega)) dL_law_154 ?_
  rw [nI_clamp (show si + 1 < 2 ^ 31 by omega)]
  rw [hj1]
  refine lv_aload_n hx hb dL_law_155 rfl (lv_at hl 0 rfl) ?_
  refine lv_iload hx hb dL_law_156 (lv_at hl 5 rfl) ?_
  refine lv_iconst (v := 2) hx hb dL_law_158 (by decide) ?_
  refine lv_iadd hx hb dL_law_159 ?_
  rw [show nI si + 2 = nI (si + 2) from nI_add si 2]
  refine va_sld hx hb hXs hbl hbA hw.2.2.2 (vp_in_nI (show si + 2 < Ls by omega) (by omega)) dL_law_160 ?_
  rw [nI_clamp (show si + 2 < 2 ^ 31 by omega)]
  refine lv_i2d hx hb dL_law_161 ?_
  refine lv_ldc2d (v := 4593671619917905920) hx hb hown (hts (.constantDouble RL 75 (4593671619917905920)) (by decide +kernel)) dL_law_162 ?_
  refine lv_dmul hx hb dL_law_165 (sv_fin (xs (si + 2))).2 ?_
  refine lv_aload_n hx hb dL_law_166 rfl (lv_at hl 0 rfl) ?_
  refine lv_iload hx hb dL_law_167 (lv_at hl 5 rfl) ?_
  refine lv_iconst (v := 3) hx hb dL_law_169 (by decide) ?_
  refine lv_iadd hx hb dL_law_170 ?_
  rw [show nI si + 3 = nI (si + 3) from nI_add si 3]
  refine va_sld hx hb hXs hbl hbA hw.2.2.2 (vp_in_nI (show si + 3 < Ls by omega) (by omega)) dL_law_171 ?_
  rw [nI_clamp (show si + 3 < 2 ^ 31 by omega)]
  refine lv_i2d hx hb dL_law_172 ?_
  refine lv_ldc2d (v := 4593671619917905920) hx hb hown (hts (.constantDouble RL 75 (4593671619917905920)) (by decide +kernel)) dL_law_173 ?_
  refine lv_dmul hx hb dL_law_176 (sv_fin (xs (si + 3))).2 ?_
  refine lv_aload_n hx hb dL_law_177 rfl (lv_at hl 0 rfl) ?_
  refine lv_iload hx hb dL_law_178 (lv_at hl 5 rfl) ?_
  refine lv_iconst (v := 4) hx hb dL_law_180 (by decide) ?_
  refine lv_iadd hx hb dL_law_181 ?_
  rw [show nI si + 4 = nI (si + 4) from nI_add si 4]
  refine va_sld hx hb hXs hbl hbA hw.2.2.2 (vp_in_nI (show si + 4 < Ls by omega) (by omega)) dL_law_182 ?_
  rw [nI_clamp (show si + 4 < 2 ^ 31 by omega)]
  rw [hk1]
  refine kH (As := [.ref (ad 0), .int (nI j), .double (sv (xs (si + 2))), .double (sv (xs (si + 3))), .int (nI kc)]) (rest := []) ⟨hx, hb, hml, hown, hts⟩ (h_c_X6_board l hlt G dA sa L f ad (nl + 1) nb q qk x.1 x.2.1 x.2.2.1 x.2.2.2.1 kk tt x.2.2.2.2.1 x.2.2.2.2.2 j kc (sv (xs (si + 2))) (sv (xs (si + 3))) hC hR hj hc h1 h2 hgd.2) (vx_cwSW 5 hts gL_law_L_board rfl rfl rfl (by decide +kernel) ⟨Nat.le_of_ble_eq_true rfl, Nat.le_of_ble_eq_true rfl⟩) hw hE hA rfl hl.1 rfl (Nat.le_of_ble_eq_true rfl) dL_law_183 ⟨hc1, hs1⟩ (fun r2 f1 H locs hp hw => ?_)
  obtain ⟨e1, hp⟩ := hp
  rw [e1]
  have hR1 : RC ad dA (nl + 1) nb q qk x.1 x.2.1 (va_up x.2.2.1 j (1, FP.ddiv (sv (xs (si + 2))) (FP.i2d (nI (nl + 1))), 0, (x.2.2.1 j).2.2.2.1, -1, kc)) (va_up x.2.2.2.1 j (fillTo (sv (xs (si + 3))) (x.2.2.2.1 j) (nl + 1))) kk tt x.2.2.2.2.1 x.2.2.2.2.2 f f1 := hp
  have hX3 : MX ad dA (nl + 1) nb ((x.1).1) ((x.1).2.1) ((x.1).2.2.1) ((x.1).2.2.2) ((x.2.1).1) ((x.2.1).2) x.2.2.2.2.2 tt.1 ((x.2.2.2.2.1).1) ((x.2.2.2.2.1).2.1) thr pa bad num RA RB TH DE KI WE NX LI LM KE TX BW TI KV DM f1 f1 := hX.mv (fun i h1 h2 => hR1.fr h1 (by omega)) (fun _ _ _ => rfl)
  have ho1 : f1 (ad 32) = aL (dA 4) 1 o := (hR1.fr (by omega) (by omega)).trans ho
  have hd1 : f1 (ad 33) = aD (dA 1) 1 od := (hR1.fr (by omega) (by omega)).trans hd
  refine lv_istore (lv' := [(6, .int 0), (0, .ref b), (1, .ref (ad 0)), (2, .ref (ad 16)), (3, .ref (ad 32)), (4, .ref (ad 33)), (5, .int (nI si))]) hx hb dL_law_186 hl (by decide) rfl (fun ls hl => ?_)
  refine lv_aload_n hx hb dL_law_188 rfl (lv_at hl 3 rfl) ?_
  refine lv_aload_n hx hb dL_law_189 rfl (lv_at hl 1 rfl) ?_
  refine lv_iload hx hb dL_law_190 (lv_at hl 6 rfl) ?_
  refine lv_iconst (v := 1) hx hb dL_law_192 (by decide) ?_
  refine lv_iadd hx hb dL_law_193 ?_
  rw [show nI si + 1 = nI (si + 1) from nI_add si 1]
  refine va_sld hx hb hXs hbl hbA hw.2.2.2 (vp_in_nI (show si + 1 < Ls by omega) (by omega)) dL_law_194 ?_
  rw [nI_clamp (show si + 1 < 2 ^ 31 by omega)]
  rw [hj1]
  refine lv_aload_n hx hb dL_law_195 rfl (lv_at hl 1 rfl) ?_
  refine lv_iload hx hb dL_law_196 (lv_at hl 6 rfl) ?_
  refine lv_iconst (v := 2) hx hb dL_law_198 (by decide) ?_
  refine lv_iadd hx hb dL_law_199 ?_
  rw [show nI si + 2 = nI (si + 2) from nI_add si 2]
  refine va_sld hx hb hXs hbl hbA hw.2.2.2 (vp_in_nI (show si + 2 < Ls by omega) (by omega)) dL_law_200 ?_
  rw [nI_clamp (show si + 2 < 2 ^ 31 by omega)]
  refine lv_i2d hx hb dL_law_201 ?_
  refine lv_ldc2d (v := 4593671619917905920) hx hb hown (hts (.constantDouble RL 75 (4593671619917905920)) (by decide +kernel)) dL_law_202 ?_
  refine lv_dmul hx hb dL_law_205 (sv_fin (xs (si + 2))).2 ?_
  refine lv_aload_n hx hb dL_law_206 rfl (lv_at hl 1 rfl) ?_
  refine lv_iload hx hb dL_law_207 (lv_at hl 6 rfl) ?_
  refine lv_iconst (v := 3) hx hb dL_law_209 (by decide) ?_
  refine lv_iadd hx hb dL_law_210 ?_
  rw [show nI si + 3 = nI (si + 3) from nI_add si 3]
  refine va_sld hx hb hXs hbl hbA hw.2.2.2 (vp_in_nI (show si + 3 < Ls by omega) (by omega)) dL_law_211 ?_
  rw [nI_clamp (show si + 3 < 2 ^ 31 by omega)]
  refine lv_i2d hx hb dL_law_212 ?_
  refine lv_ldc2d (v := 4593671619917905920) hx hb hown (hts (.constantDouble RL 75 (4593671619917905920)) (by decide +kernel)) dL_law_213 ?_
  refine lv_dmul hx hb dL_law_216 (sv_fin (xs (si + 3))).2 ?_
  refine lv_aload_n hx hb dL_law_217 rfl (lv_at hl 1 rfl) ?_
  refine lv_iload hx hb dL_law_218 (lv_at hl 6 rfl) ?_
  refine lv_iconst (v := 4) hx hb dL_law_220 (by decide) ?_
  refine lv_iadd hx hb dL_law_221 ?_
  rw [show nI si + 4 = nI (si + 4) from nI_add si 4]
  refine va_sld hx hb hXs hbl hbA hw.2.2.2 (vp_in_nI (show si + 4 < Ls by omega) (by omega)) dL_law_222 ?_
  rw [nI_clamp (show si + 4 < 2 ^ 31 by omega)]
  rw [hk1]
  refine kV_V (C := RX7) (T := TX7) (N := 31) (As := [.int (nI j), .double (sv (xs (si + 2))), .double (sv (xs (si + 3))), .int (nI kc)]) (rest := []) ⟨hx, hb, hml, hown, hts⟩ (c_X7_board l G dA L f1 ad (nl + 1) nb q qk ((x.1).1) ((x.1).2.1) ((x.1).2.2.1) ((x.1).2.2.2) ((x.2.1).1) ((x.2.1).2) x.2.2.2.2.2 tt.1 ((x.2.2.2.2.1).1) ((x.2.2.2.2.1).2.1) thr pa bad num RA RB TH DE KI WE NX LI LM KE TX BW TI KV DM f1 j kc (sv (xs (si + 2))) (sv (xs (si + 3))) hC hX3 hj hc (inB_t h1) (inB_t h2) hgd.2) (cwV 4 hts gL_law_X7_board rfl rfl rfl (by decide +kernel) ⟨Nat.le_of_ble_eq_true rfl, Nat.le_of_ble_eq_true rfl⟩) hw hA (hC.m (by decide)) hX3.o rfl rfl hl.1 rfl (Nat.le_of_ble_eq_true rfl) dL_law_223 ⟨hc1, hs1⟩ (fun f4 H locs hp hw => ?_)
  have hX2 : MX ad dA (nl + 1) nb ((x.1).1) ((x.1).2.1) ((x.1).2.2.1) ((x.1).2.2.2) ((x.2.1).1) ((x.2.1).2) x.2.2.2.2.2 tt.1 ((x.2.2.2.2.1).1) ((x.2.2.2.2.1).2.1) 0 pa bad num RA RB (upd TH j 1) (vf_upd DE j (FP.ddiv (sv (xs (si + 2))) (FP.i2d (nI (nl + 1))))) (upd KI j (nI kc)) (wfill (sv (xs (si + 3))) WE j (nl + 1)) NX (upd LI j 0) LM (upd KE j (-1)) TX BW TI KV DM f1 f4 := hp
  refine lv_aload_n hx hb dL_law_226 rfl (lv_at hl 3 rfl) ?_
  refine kV_I (C := RX7) (T := TX7) (N := 31) (As := []) (rest := []) ⟨hx, hb, hml, hown, hts⟩ (c_X7_thrown l G dA L f4 ad (nl + 1) nb q qk ((x.1).1) ((x.1).2.1) ((x.1).2.2.1) ((x.1).2.2.2) ((x.2.1).1) ((x.2.1).2) x.2.2.2.2.2 tt.1 ((x.2.2.2.2.1).1) ((x.2.2.2.2.1).2.1) 0 pa bad num RA RB (upd TH j 1) (vf_upd DE j (FP.ddiv (sv (xs (si + 2))) (FP.i2d (nI (nl + 1))))) (upd KI j (nI kc)) (wfill (sv (xs (si + 3))) WE j (nl + 1)) NX (upd LI j 0) LM (upd KE j (-1)) TX BW TI KV DM f1 hC hX2) (cwV 0 hts gL_law_X7_thrown rfl rfl rfl (by decide +kernel) ⟨Nat.le_of_ble_eq_true rfl, Nat.le_of_ble_eq_true rfl⟩) hw hA (hC.m (by decide)) hX2.o rfl rfl hl.1 rfl (Nat.le_of_ble_eq_true rfl) dL_law_227 ⟨hc1, hs1⟩ (fun r6 f7 H locs hp hw => ?_)
  obtain ⟨e1, e2⟩ := hp
  rw [e2] at hw
  rw [e1]
  refine lv_iload hx hb dL_law_230 (lv_at hl 0 rfl) ?_
  refine lv_icmp_eq (tgt := 237) hx hb dL_law_232 (by decide) (fun _ => ?_) (fun c9 => absurd rfl c9)
  refine lv_goto (tgt := 1177) hx hb dL_law_237 (by decide) ?_
  exact kk9 ((x.1, x.2.1, va_up x.2.2.1 j (1, FP.ddiv (sv (xs (si + 2))) (FP.i2d (nI (nl + 1))), 0, (x.2.2.1 j).2.2.2.1, -1, kc), va_up x.2.2.2.1 j (fillTo (sv (xs (si + 3))) (x.2.2.2.1 j) (nl + 1)), x.2.2.2.2.1, x.2.2.2.2.2)) kk tt f4 _ _ ls (LwI.of (x := (x.1, x.2.1, va_up x.2.2.1 j (1, FP.ddiv (sv (xs (si + 2))) (FP.i2d (nI (nl + 1))), 0, (x.2.2.1 j).2.2.2.1, -1, kc), va_up x.2.2.2.1 j (fillTo (sv (xs (si + 3))) (x.2.2.2.1 j) (nl + 1)), x.2.2.2.2.1, x.2.2.2.2.2)) (kk := kk) (tt := tt) hR1 ⟨_, _, _, _, _, _, _, _, _, _, _, _, _, _, _, _, _, _, hX2, hMk, hMb.set hj _, hMw.fill hC.2.2.1.2, hMt, hMp⟩ ⟨_, ho1⟩ ⟨_, hd1⟩ (hG.board hc hgd.1 (g_wet h2 _)) htt hTT) (Nat.le_add_right _ _) hw (lv_sub hl [1, 2, 3, 4, 5, 6] rfl)
