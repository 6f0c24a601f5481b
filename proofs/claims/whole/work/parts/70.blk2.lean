set_option maxHeartbeats 4000000 in
set_option maxRecDepth 100000 in
theorem k_rate_1 {p : Program} {l : Launch} {e : Env} {s : State} {m : MethodId} {below : List Frame} {meth : Method} {c : Code} {G : va_G} {dA : Nat → ClassId} {b Ls si : Nat} {xs : Nat → Int32} {sa ad : Nat → Nat} {L : List Nat} {nl nb : Nat} {q qk : Nat → Option Nat} {x : sR} {kk : Nat → UInt64 × UInt64} {tt : sT} {f : Nat → va_E} {H : Heap} {locs : List Loc} {ls : Array Slot} {cells slots : Nat}  (hLC : LC p l s m c meth b Ls xs G dA sa ad L nl nb q qk) (hsi : si + 5 ≤ Ls) (hc1 : cells + 1 ≤ room_1.cells) (hs1 : slots + 6 ≤ room_1.slots) (hLI : LwI ad dA nl nb q qk x kk tt f) (hhr : x.2.2.2.2.2 < 2 ^ 29) (hw : ww G dA (fun z : Nat => s.heap.size ≤ z) s L f H locs) (hl : lv_has ls 10 [(0, .ref b), (1, .ref (ad 0)), (2, .ref (ad 16)), (3, .ref (ad 32)), (4, .ref (ad 33)), (5, .int (nI si))]) (hbad : xs (si + 1) < 0 ∨ nI 4 ≤ xs (si + 1))
    (kk9 : ∀ (x2 : sR) (kk2 : Nat → UInt64 × UInt64) (tt2 : sT) (f2 : Nat → va_E) (H : Heap) (locs : List Loc) (ls : Array Slot), LwI ad dA nl nb q qk x2 kk2 tt2 f2 → x2.2.2.2.2.2 ≤ x.2.2.2.2.2 + 100 → ww G dA (fun z : Nat => s.heap.size ≤ z) s L f2 H locs → lv_has ls 10 [(0, .ref b), (1, .ref (ad 0)), (2, .ref (ad 16)), (3, .ref (ad 32)), (4, .ref (ad 33)), (5, .int (nI si))] → W p l e room_1 s m #[Value.ref b] below meth c H locs (cells + 1) (slots + 6) (lw_Z below #[Value.ref b] s) (F0 m 1177 ls [])) : W p l e room_1 s m #[Value.ref b] below meth c H locs cells slots (lw_Z below #[Value.ref b] s) (F0 m 240 ls []) := by
  obtain ⟨hx, hb, hml, hown, hts, hXs, hbl, hlt, hE, hC, hLs, hret, hlocks⟩ := hLC
  have hA : ∀ z : Nat, s.heap.size ≤ z → (fun z : Nat => s.heap.size ≤ z) z := fun _ h => h
  have hbA : ¬ (fun z : Nat => s.heap.size ≤ z) b := Nat.not_le.mpr hbl
  obtain ⟨hR, ⟨thr, hM⟩, ⟨o, ho⟩, ⟨od, hd⟩, hG, htt, hTT⟩ := hLI
  obtain ⟨pa, bad, num, RA, RB, TH, DE, KI, WE, NX, LI, LM, KE, TX, BW, TI, KV, DM, hX, hMk, hMb, hMw, hMt, hMp⟩ := hM
  refine lv_aload_n hx hb dL_law_240 rfl (lv_at hl 1 rfl) ?_
  refine lv_aload_n hx hb dL_law_241 rfl (lv_at hl 0 rfl) ?_
  refine lv_iload hx hb dL_law_242 (lv_at hl 5 rfl) ?_
  refine lv_iconst (v := 1) hx hb dL_law_244 (by decide) ?_
  refine lv_iadd hx hb dL_law_245 ?_
  rw [show nI si + 1 = nI (si + 1) from nI_add si 1]
  refine va_sld hx hb hXs hbl hbA hw.2.2.2 (vp_in_nI (show si + 1 < Ls by omega) (by omega)) dL_law_246 ?_
  rw [nI_clamp (show si + 1 < 2 ^ 31 by omega)]
  refine lv_aload_n hx hb dL_law_247 rfl (lv_at hl 0 rfl) ?_
  refine lv_iload hx hb dL_law_248 (lv_at hl 5 rfl) ?_
  refine lv_iconst (v := 2) hx hb dL_law_250 (by decide) ?_
  refine lv_iadd hx hb dL_law_251 ?_
  rw [show nI si + 2 = nI (si + 2) from nI_add si 2]
  refine va_sld hx hb hXs hbl hbA hw.2.2.2 (vp_in_nI (show si + 2 < Ls by omega) (by omega)) dL_law_252 ?_
  rw [nI_clamp (show si + 2 < 2 ^ 31 by omega)]
  refine lv_i2d hx hb dL_law_253 ?_
  refine lv_ldc2d (v := 4593671619917905920) hx hb hown (hts (.constantDouble RL 75 (4593671619917905920)) (by decide +kernel)) dL_law_254 ?_
  refine lv_dmul hx hb dL_law_257 (sv_fin (xs (si + 2))).2 ?_
  refine lv_aload_n hx hb dL_law_258 rfl (lv_at hl 0 rfl) ?_
  refine lv_iload hx hb dL_law_259 (lv_at hl 5 rfl) ?_
  refine lv_iconst (v := 3) hx hb dL_law_261 (by decide) ?_
  refine lv_iadd hx hb dL_law_262 ?_
  rw [show nI si + 3 = nI (si + 3) from nI_add si 3]
  refine va_sld hx hb hXs hbl hbA hw.2.2.2 (vp_in_nI (show si + 3 < Ls by omega) (by omega)) dL_law_263 ?_
  rw [nI_clamp (show si + 3 < 2 ^ 31 by omega)]
  refine lv_i2d hx hb dL_law_264 ?_
  refine lv_ldc2d (v := 4593671619917905920) hx hb hown (hts (.constantDouble RL 75 (4593671619917905920)) (by decide +kernel)) dL_law_265 ?_
  refine lv_dmul hx hb dL_law_268 (sv_fin (xs (si + 3))).2 ?_
  refine kH (As := [.ref (ad 0), .int (xs (si + 1)), .double (sv (xs (si + 2))), .double (sv (xs (si + 3)))]) (rest := []) ⟨hx, hb, hml, hown, hts⟩ (h_x1_X6_rate l hlt G dA sa L f ad (nl + 1) nb q qk x.1 x.2.1 x.2.2.1 x.2.2.2.1 kk tt x.2.2.2.2.1 x.2.2.2.2.2 (xs (si + 1)) (sv (xs (si + 2))) (sv (xs (si + 3))) hC hR hbad) (vx_cwSW 4 hts gL_law_L_rate rfl rfl rfl (by decide +kernel) ⟨Nat.le_of_ble_eq_true rfl, Nat.le_of_ble_eq_true rfl⟩) hw hE hA rfl hl.1 rfl (Nat.le_of_ble_eq_true rfl) dL_law_269 ⟨hc1, hs1⟩ (fun r2 f1 H locs hp hw => ?_)
  obtain ⟨e1, e2⟩ := hp
  rw [e2] at hw
  rw [e1]
  refine lv_istore (lv' := [(6, .int 1), (0, .ref b), (1, .ref (ad 0)), (2, .ref (ad 16)), (3, .ref (ad 32)), (4, .ref (ad 33)), (5, .int (nI si))]) hx hb dL_law_272 hl (by decide) rfl (fun ls hl => ?_)
  refine lv_aload_n hx hb dL_law_274 rfl (lv_at hl 3 rfl) ?_
  refine lv_aload_n hx hb dL_law_275 rfl (lv_at hl 1 rfl) ?_
  refine lv_iload hx hb dL_law_276 (lv_at hl 6 rfl) ?_
  refine lv_iconst (v := 1) hx hb dL_law_278 (by decide) ?_
  refine lv_iadd hx hb dL_law_279 ?_
  rw [show nI si + 1 = nI (si + 1) from nI_add si 1]
  refine va_sld hx hb hXs hbl hbA hw.2.2.2 (vp_in_nI (show si + 1 < Ls by omega) (by omega)) dL_law_280 ?_
  rw [nI_clamp (show si + 1 < 2 ^ 31 by omega)]
  refine lv_aload_n hx hb dL_law_281 rfl (lv_at hl 1 rfl) ?_
  refine lv_iload hx hb dL_law_282 (lv_at hl 6 rfl) ?_
  refine lv_iconst (v := 2) hx hb dL_law_284 (by decide) ?_
  refine lv_iadd hx hb dL_law_285 ?_
  rw [show nI si + 2 = nI (si + 2) from nI_add si 2]
  refine va_sld hx hb hXs hbl hbA hw.2.2.2 (vp_in_nI (show si + 2 < Ls by omega) (by omega)) dL_law_286 ?_
  rw [nI_clamp (show si + 2 < 2 ^ 31 by omega)]
  refine lv_i2d hx hb dL_law_287 ?_
  refine lv_ldc2d (v := 4593671619917905920) hx hb hown (hts (.constantDouble RL 75 (4593671619917905920)) (by decide +kernel)) dL_law_288 ?_
  refine lv_dmul hx hb dL_law_291 (sv_fin (xs (si + 2))).2 ?_
  refine lv_aload_n hx hb dL_law_292 rfl (lv_at hl 1 rfl) ?_
  refine lv_iload hx hb dL_law_293 (lv_at hl 6 rfl) ?_
  refine lv_iconst (v := 3) hx hb dL_law_295 (by decide) ?_
  refine lv_iadd hx hb dL_law_296 ?_
  rw [show nI si + 3 = nI (si + 3) from nI_add si 3]
  refine va_sld hx hb hXs hbl hbA hw.2.2.2 (vp_in_nI (show si + 3 < Ls by omega) (by omega)) dL_law_297 ?_
  rw [nI_clamp (show si + 3 < 2 ^ 31 by omega)]
  refine lv_i2d hx hb dL_law_298 ?_
  refine lv_ldc2d (v := 4593671619917905920) hx hb hown (hts (.constantDouble RL 75 (4593671619917905920)) (by decide +kernel)) dL_law_299 ?_
  refine lv_dmul hx hb dL_law_302 (sv_fin (xs (si + 3))).2 ?_
  refine kV_V (C := RX7) (T := TX7) (N := 31) (As := [.int (xs (si + 1)), .double (sv (xs (si + 2))), .double (sv (xs (si + 3)))]) (rest := []) ⟨hx, hb, hml, hown, hts⟩ (t1_X7_rate l G dA L f ad (nl + 1) nb q qk ((x.1).1) ((x.1).2.1) ((x.1).2.2.1) ((x.1).2.2.2) ((x.2.1).1) ((x.2.1).2) x.2.2.2.2.2 tt.1 ((x.2.2.2.2.1).1) ((x.2.2.2.2.1).2.1) thr pa bad num RA RB TH DE KI WE NX LI LM KE TX BW TI KV DM f (xs (si + 1)) (sv (xs (si + 2))) (sv (xs (si + 3))) hC hX hbad) (cwV 3 hts gL_law_X7_rate rfl rfl rfl (by decide +kernel) ⟨Nat.le_of_ble_eq_true rfl, Nat.le_of_ble_eq_true rfl⟩) hw hA (hC.m (by decide)) hX.o rfl rfl hl.1 rfl (Nat.le_of_ble_eq_true rfl) dL_law_303 ⟨hc1, hs1⟩ (fun f3 H locs hp hw => ?_)
  have hX2 : MX ad dA (nl + 1) nb ((x.1).1) ((x.1).2.1) ((x.1).2.2.1) ((x.1).2.2.2) ((x.2.1).1) ((x.2.1).2) x.2.2.2.2.2 tt.1 ((x.2.2.2.2.1).1) ((x.2.2.2.2.1).2.1) 1 pa bad num RA RB TH DE KI WE NX LI LM KE TX BW TI KV DM f f3 := hp
  refine lv_aload_n hx hb dL_law_306 rfl (lv_at hl 3 rfl) ?_
  refine kV_I (C := RX7) (T := TX7) (N := 31) (As := []) (rest := []) ⟨hx, hb, hml, hown, hts⟩ (c_X7_thrown l G dA L f3 ad (nl + 1) nb q qk ((x.1).1) ((x.1).2.1) ((x.1).2.2.1) ((x.1).2.2.2) ((x.2.1).1) ((x.2.1).2) x.2.2.2.2.2 tt.1 ((x.2.2.2.2.1).1) ((x.2.2.2.2.1).2.1) 1 pa bad num RA RB TH DE KI WE NX LI LM KE TX BW TI KV DM f hC hX2) (cwV 0 hts gL_law_X7_thrown rfl rfl rfl (by decide +kernel) ⟨Nat.le_of_ble_eq_true rfl, Nat.le_of_ble_eq_true rfl⟩) hw hA (hC.m (by decide)) hX2.o rfl rfl hl.1 rfl (Nat.le_of_ble_eq_true rfl) dL_law_307 ⟨hc1, hs1⟩ (fun r5 f6 H locs hp hw => ?_)
  obtain ⟨e1, e2⟩ := hp
  rw [e2] at hw
  rw [e1]
  refine lv_iload hx hb dL_law_310 (lv_at hl 0 rfl) ?_
  refine lv_icmp_eq (tgt := 317) hx hb dL_law_312 (by decide) (fun _ => ?_) (fun c9 => absurd rfl c9)
  refine lv_goto (tgt := 1177) hx hb dL_law_317 (by decide) ?_
  exact kk9 x kk tt f3 _ _ ls (LwI.of (x := x) (kk := kk) (tt := tt) hR ⟨_, _, _, _, _, _, _, _, _, _, _, _, _, _, _, _, _, _, hX2, hMk, hMb, hMw, hMt, hMp⟩ ⟨_, ho⟩ ⟨_, hd⟩ hG htt hTT) (Nat.le_add_right _ _) hw (lv_sub hl [1, 2, 3, 4, 5, 6] rfl)

set_option maxHeartbeats 4000000 in
set_option maxRecDepth 100000 in
theorem k_rate_2 {p : Program} {l : Launch} {e : Env} {s : State} {m : MethodId} {below : List Frame} {meth : Method} {c : Code} {G : va_G} {dA : Nat → ClassId} {b Ls si : Nat} {xs : Nat → Int32} {sa ad : Nat → Nat} {L : List Nat} {nl nb : Nat} {q qk : Nat → Option Nat} {x : sR} {kk : Nat → UInt64 × UInt64} {tt : sT} {f : Nat → va_E} {H : Heap} {locs : List Loc} {ls : Array Slot} {cells slots : Nat} (kc : Nat) (hLC : LC p l s m c meth b Ls xs G dA sa ad L nl nb q qk) (hsi : si + 5 ≤ Ls) (hc1 : cells + 1 ≤ room_1.cells) (hs1 : slots + 6 ≤ room_1.slots) (hLI : LwI ad dA nl nb q qk x kk tt f) (hhr : x.2.2.2.2.2 < 2 ^ 29) (hw : ww G dA (fun z : Nat => s.heap.size ≤ z) s L f H locs) (hl : lv_has ls 10 [(0, .ref b), (1, .ref (ad 0)), (2, .ref (ad 16)), (3, .ref (ad 32)), (4, .ref (ad 33)), (5, .int (nI si))]) (hc : kc < 4) (hk1 : xs (si + 1) = nI kc) (hbad : ¬ inR (sv (xs (si + 2))) FP.dconst0 4620693217682128896)
    (kk9 : ∀ (x2 : sR) (kk2 : Nat → UInt64 × UInt64) (tt2 : sT) (f2 : Nat → va_E) (H : Heap) (locs : List Loc) (ls : Array Slot), LwI ad dA nl nb q qk x2 kk2 tt2 f2 → x2.2.2.2.2.2 ≤ x.2.2.2.2.2 + 100 → ww G dA (fun z : Nat => s.heap.size ≤ z) s L f2 H locs → lv_has ls 10 [(0, .ref b), (1, .ref (ad 0)), (2, .ref (ad 16)), (3, .ref (ad 32)), (4, .ref (ad 33)), (5, .int (nI si))] → W p l e room_1 s m #[Value.ref b] below meth c H locs (cells + 1) (slots + 6) (lw_Z below #[Value.ref b] s) (F0 m 1177 ls [])) : W p l e room_1 s m #[Value.ref b] below meth c H locs cells slots (lw_Z below #[Value.ref b] s) (F0 m 240 ls []) := by
  obtain ⟨hx, hb, hml, hown, hts, hXs, hbl, hlt, hE, hC, hLs, hret, hlocks⟩ := hLC
  have hA : ∀ z : Nat, s.heap.size ≤ z → (fun z : Nat => s.heap.size ≤ z) z := fun _ h => h
  have hbA : ¬ (fun z : Nat => s.heap.size ≤ z) b := Nat.not_le.mpr hbl
  obtain ⟨hR, ⟨thr, hM⟩, ⟨o, ho⟩, ⟨od, hd⟩, hG, htt, hTT⟩ := hLI
  obtain ⟨pa, bad, num, RA, RB, TH, DE, KI, WE, NX, LI, LM, KE, TX, BW, TI, KV, DM, hX, hMk, hMb, hMw, hMt, hMp⟩ := hM
  refine lv_aload_n hx hb dL_law_240 rfl (lv_at hl 1 rfl) ?_
  refine lv_aload_n hx hb dL_law_241 rfl (lv_at hl 0 rfl) ?_
  refine lv_iload hx hb dL_law_242 (lv_at hl 5 rfl) ?_
  refine lv_iconst (v := 1) hx hb dL_law_244 (by decide) ?_
  refine lv_iadd hx hb dL_law_245 ?_
  rw [show nI si + 1 = nI (si + 1) from nI_add si 1]
  refine va_sld hx hb hXs hbl hbA hw.2.2.2 (vp_in_nI (show si + 1 < Ls by omega) (by omega)) dL_law_246 ?_
  rw [nI_clamp (show si + 1 < 2 ^ 31 by omega)]
  rw [hk1]
  refine lv_aload_n hx hb dL_law_247 rfl (lv_at hl 0 rfl) ?_
  refine lv_iload hx hb dL_law_248 (lv_at hl 5 rfl) ?_
  refine lv_iconst (v := 2) hx hb dL_law_250 (by decide) ?_
  refine lv_iadd hx hb dL_law_251 ?_
  rw [show nI si + 2 = nI (si + 2) from nI_add si 2]
  refine va_sld hx hb hXs hbl hbA hw.2.2.2 (vp_in_nI (show si + 2 < Ls by omega) (by omega)) dL_law_252 ?_
  rw [nI_clamp (show si + 2 < 2 ^ 31 by omega)]
  refine lv_i2d hx hb dL_law_253 ?_
  refine lv_ldc2d (v := 4593671619917905920) hx hb hown (hts (.constantDouble RL 75 (4593671619917905920)) (by decide +kernel)) dL_law_254 ?_
  refine lv_dmul hx hb dL_law_257 (sv_fin (xs (si + 2))).2 ?_
  refine lv_aload_n hx hb dL_law_258 rfl (lv_at hl 0 rfl) ?_
  refine lv_iload hx hb dL_law_259 (lv_at hl 5 rfl) ?_
  refine lv_iconst (v := 3) hx hb dL_law_261 (by decide) ?_
  refine lv_iadd hx hb dL_law_262 ?_
  rw [show nI si + 3 = nI (si + 3) from nI_add si 3]
  refine va_sld hx hb hXs hbl hbA hw.2.2.2 (vp_in_nI (show si + 3 < Ls by omega) (by omega)) dL_law_263 ?_
  rw [nI_clamp (show si + 3 < 2 ^ 31 by omega)]
  refine lv_i2d hx hb dL_law_264 ?_
  refine lv_ldc2d (v := 4593671619917905920) hx hb hown (hts (.constantDouble RL 75 (4593671619917905920)) (by decide +kernel)) dL_law_265 ?_
  refine lv_dmul hx hb dL_law_268 (sv_fin (xs (si + 3))).2 ?_
  refine kH (As := [.ref (ad 0), .int (nI kc), .double (sv (xs (si + 2))), .double (sv (xs (si + 3)))]) (rest := []) ⟨hx, hb, hml, hown, hts⟩ (h_x2_X6_rate l hlt G dA sa L f ad (nl + 1) nb q qk x.1 x.2.1 x.2.2.1 x.2.2.2.1 kk tt x.2.2.2.2.1 x.2.2.2.2.2 kc (sv (xs (si + 2))) (sv (xs (si + 3))) hC hR hc hbad) (vx_cwSW 4 hts gL_law_L_rate rfl rfl rfl (by decide +kernel) ⟨Nat.le_of_ble_eq_true rfl, Nat.le_of_ble_eq_true rfl⟩) hw hE hA rfl hl.1 rfl (Nat.le_of_ble_eq_true rfl) dL_law_269 ⟨hc1, hs1⟩ (fun r2 f1 H locs hp hw => ?_)
  obtain ⟨e1, e2⟩ := hp
  rw [e2] at hw
  rw [e1]
  refine lv_istore (lv' := [(6, .int 2), (0, .ref b), (1, .ref (ad 0)), (2, .ref (ad 16)), (3, .ref (ad 32)), (4, .ref (ad 33)), (5, .int (nI si))]) hx hb dL_law_272 hl (by decide) rfl (fun ls hl => ?_)
  refine lv_aload_n hx hb dL_law_274 rfl (lv_at hl 3 rfl) ?_
  refine lv_aload_n hx hb dL_law_275 rfl (lv_at hl 1 rfl) ?_
  refine lv_iload hx hb dL_law_276 (lv_at hl 6 rfl) ?_
  refine lv_iconst (v := 1) hx hb dL_law_278 (by decide) ?_
  refine lv_iadd hx hb dL_law_279 ?_
  rw [show nI si + 1 = nI (si + 1) from nI_add si 1]
  refine va_sld hx hb hXs hbl hbA hw.2.2.2 (vp_in_nI (show si + 1 < Ls by omega) (by omega)) dL_law_280 ?_
  rw [nI_clamp (show si + 1 < 2 ^ 31 by omega)]
  rw [hk1]
  refine lv_aload_n hx hb dL_law_281 rfl (lv_at hl 1 rfl) ?_
  refine lv_iload hx hb dL_law_282 (lv_at hl 6 rfl) ?_
  refine lv_iconst (v := 2) hx hb dL_law_284 (by decide) ?_
  refine lv_iadd hx hb dL_law_285 ?_
  rw [show nI si + 2 = nI (si + 2) from nI_add si 2]
  refine va_sld hx hb hXs hbl hbA hw.2.2.2 (vp_in_nI (show si + 2 < Ls by omega) (by omega)) dL_law_286 ?_
  rw [nI_clamp (show si + 2 < 2 ^ 31 by omega)]
  refine lv_i2d hx hb dL_law_287 ?_
  refine lv_ldc2d (v := 4593671619917905920) hx hb hown (hts (.constantDouble RL 75 (4593671619917905920)) (by decide +kernel)) dL_law_288 ?_
  refine lv_dmul hx hb dL_law_291 (sv_fin (xs (si + 2))).2 ?_
  refine lv_aload_n hx hb dL_law_292 rfl (lv_at hl 1 rfl) ?_
  refine lv_iload hx hb dL_law_293 (lv_at hl 6 rfl) ?_
  refine lv_iconst (v := 3) hx hb dL_law_295 (by decide) ?_
  refine lv_iadd hx hb dL_law_296 ?_
  rw [show nI si + 3 = nI (si + 3) from nI_add si 3]
  refine va_sld hx hb hXs hbl hbA hw.2.2.2 (vp_in_nI (show si + 3 < Ls by omega) (by omega)) dL_law_297 ?_
  rw [nI_clamp (show si + 3 < 2 ^ 31 by omega)]
  refine lv_i2d hx hb dL_law_298 ?_
  refine lv_ldc2d (v := 4593671619917905920) hx hb hown (hts (.constantDouble RL 75 (4593671619917905920)) (by decide +kernel)) dL_law_299 ?_
  refine lv_dmul hx hb dL_law_302 (sv_fin (xs (si + 3))).2 ?_
  refine kV_V (C := RX7) (T := TX7) (N := 31) (As := [.int (nI kc), .double (sv (xs (si + 2))), .double (sv (xs (si + 3)))]) (rest := []) ⟨hx, hb, hml, hown, hts⟩ (t2_X7_rate l G dA L f ad (nl + 1) nb q qk ((x.1).1) ((x.1).2.1) ((x.1).2.2.1) ((x.1).2.2.2) ((x.2.1).1) ((x.2.1).2) x.2.2.2.2.2 tt.1 ((x.2.2.2.2.1).1) ((x.2.2.2.2.1).2.1) thr pa bad num RA RB TH DE KI WE NX LI LM KE TX BW TI KV DM f kc (sv (xs (si + 2))) (sv (xs (si + 3))) hC hX hc (inB_f hbad)) (cwV 3 hts gL_law_X7_rate rfl rfl rfl (by decide +kernel) ⟨Nat.le_of_ble_eq_true rfl, Nat.le_of_ble_eq_true rfl⟩) hw hA (hC.m (by decide)) hX.o rfl rfl hl.1 rfl (Nat.le_of_ble_eq_true rfl) dL_law_303 ⟨hc1, hs1⟩ (fun f3 H locs hp hw => ?_)
  have hX2 : MX ad dA (nl + 1) nb ((x.1).1) ((x.1).2.1) ((x.1).2.2.1) ((x.1).2.2.2) ((x.2.1).1) ((x.2.1).2) x.2.2.2.2.2 tt.1 ((x.2.2.2.2.1).1) ((x.2.2.2.2.1).2.1) 2 pa bad num RA RB TH DE KI WE NX LI LM KE TX BW TI KV DM f f3 := hp
  refine lv_aload_n hx hb dL_law_306 rfl (lv_at hl 3 rfl) ?_
  refine kV_I (C := RX7) (T := TX7) (N := 31) (As := []) (rest := []) ⟨hx, hb, hml, hown, hts⟩ (c_X7_thrown l G dA L f3 ad (nl + 1) nb q qk ((x.1).1) ((x.1).2.1) ((x.1).2.2.1) ((x.1).2.2.2) ((x.2.1).1) ((x.2.1).2) x.2.2.2.2.2 tt.1 ((x.2.2.2.2.1).1) ((x.2.2.2.2.1).2.1) 2 pa bad num RA RB TH DE KI WE NX LI LM KE TX BW TI KV DM f hC hX2) (cwV 0 hts gL_law_X7_thrown rfl rfl rfl (by decide +kernel) ⟨Nat.le_of_ble_eq_true rfl, Nat.le_of_ble_eq_true rfl⟩) hw hA (hC.m (by decide)) hX2.o rfl rfl hl.1 rfl (Nat.le_of_ble_eq_true rfl) dL_law_307 ⟨hc1, hs1⟩ (fun r5 f6 H locs hp hw => ?_)
  obtain ⟨e1, e2⟩ := hp
  rw [e2] at hw
  rw [e1]
  refine lv_iload hx hb dL_law_310 (lv_at hl 0 rfl) ?_
  refine lv_icmp_eq (tgt := 317) hx hb dL_law_312 (by decide) (fun _ => ?_) (fun c9 => absurd rfl c9)
  refine lv_goto (tgt := 1177) hx hb dL_law_317 (by decide) ?_
  exact kk9 x kk tt f3 _ _ ls (LwI.of (x := x) (kk := kk) (tt := tt) hR ⟨_, _, _, _, _, _, _, _, _, _, _, _, _, _, _, _, _, _, hX2, hMk, hMb, hMw, hMt, hMp⟩ ⟨_, ho⟩ ⟨_, hd⟩ hG htt hTT) (Nat.le_add_right _ _) hw (lv_sub hl [1, 2, 3, 4, 5, 6] rfl)

set_option maxHeartbeats 4000000 in
set_option maxRecDepth 100000 in
theorem k_rate_3 {p : Program} {l : Launch} {e : Env} {s : State} {m : MethodId} {below : List Frame} {meth : Method} {c : Code} {G : va_G} {dA : Nat → ClassId} {b Ls si : Nat} {xs : Nat → Int32} {sa ad : Nat → Nat} {L : List Nat} {nl nb : Nat} {q qk : Nat → Option Nat} {x : sR} {kk : Nat → UInt64 × UInt64} {tt : sT} {f : Nat → va_E} {H : Heap} {locs : List Loc} {ls : Array Slot} {cells slots : Nat} (kc : Nat) (hLC : LC p l s m c meth b Ls xs G dA sa ad L nl nb q qk) (hsi : si + 5 ≤ Ls) (hc1 : cells + 1 ≤ room_1.cells) (hs1 : slots + 6 ≤ room_1.slots) (hLI : LwI ad dA nl nb q qk x kk tt f) (hhr : x.2.2.2.2.2 < 2 ^ 29) (hw : ww G dA (fun z : Nat => s.heap.size ≤ z) s L f H locs) (hl : lv_has ls 10 [(0, .ref b), (1, .ref (ad 0)), (2, .ref (ad 16)), (3, .ref (ad 32)), (4, .ref (ad 33)), (5, .int (nI si))]) (hc : kc < 4) (hk1 : xs (si + 1) = nI kc) (h1 : inR (sv (xs (si + 2))) FP.dconst0 4620693217682128896) (hbad : ¬ inR (sv (xs (si + 3))) FP.dconst0 4620693217682128896)
    (kk9 : ∀ (x2 : sR) (kk2 : Nat → UInt64 × UInt64) (tt2 : sT) (f2 : Nat → va_E) (H : Heap) (locs : List Loc) (ls : Array Slot), LwI ad dA nl nb q qk x2 kk2 tt2 f2 → x2.2.2.2.2.2 ≤ x.2.2.2.2.2 + 100 → ww G dA (fun z : Nat => s.heap.size ≤ z) s L f2 H locs → lv_has ls 10 [(0, .ref b), (1, .ref (ad 0)), (2, .ref (ad 16)), (3, .ref (ad 32)), (4, .ref (ad 33)), (5, .int (nI si))] → W p l e room_1 s m #[Value.ref b] below meth c H locs (cells + 1) (slots + 6) (lw_Z below #[Value.ref b] s) (F0 m 1177 ls [])) : W p l e room_1 s m #[Value.ref b] below meth c H locs cells slots (lw_Z below #[Value.ref b] s) (F0 m 240 ls []) := by
  obtain ⟨hx, hb, hml, hown, hts, hXs, hbl, hlt, hE, hC, hLs, hret, hlocks⟩ := hLC
  have hA : ∀ z : Nat, s.heap.size ≤ z → (fun z : Nat => s.heap.size ≤ z) z := fun _ h => h
  have hbA : ¬ (fun z : Nat => s.heap.size ≤ z) b := Nat.not_le.mpr hbl
  obtain ⟨hR, ⟨thr, hM⟩, ⟨o, ho⟩, ⟨od, hd⟩, hG, htt, hTT⟩ := hLI
  obtain ⟨pa, bad, num, RA, RB, TH, DE, KI, WE, NX, LI, LM, KE, TX, BW, TI, KV, DM, hX, hMk, hMb, hMw, hMt, hMp⟩ := hM
  refine lv_aload_n hx hb dL_law_240 rfl (lv_at hl 1 rfl) ?_
  refine lv_aload_n hx hb dL_law_241 rfl (lv_at hl 0 rfl) ?_
  refine lv_iload hx hb dL_law_242 (lv_at hl 5 rfl) ?_
  refine lv_iconst (v := 1) hx hb dL_law_244 (by decide) ?_
  refine lv_iadd hx hb dL_law_245 ?_
  rw [show nI si + 1 = nI (si + 1) from nI_add si 1]
  refine va_sld hx hb hXs hbl hbA hw.2.2.2 (vp_in_nI (show si + 1 < Ls by omega) (by omega)) dL_law_246 ?_
  rw [nI_clamp (show si + 1 < 2 ^ 31 by omega)]
  rw [hk1]
  refine lv_aload_n hx hb dL_law_247 rfl (lv_at hl 0 rfl) ?_
  refine lv_iload hx hb dL_law_248 (lv_at hl 5 rfl) ?_
  refine lv_iconst (v := 2) hx hb dL_law_250 (by decide) ?_
  refine lv_iadd hx hb dL_law_251 ?_
  rw [show nI si + 2 = nI (si + 2) from nI_add si 2]
  refine va_sld hx hb hXs hbl hbA hw.2.2.2 (vp_in_nI (show si + 2 < Ls by omega) (by omega)) dL_law_252 ?_
  rw [nI_clamp (show si + 2 < 2 ^ 31 by omega)]
  refine lv_i2d hx hb dL_law_253 ?_
  refine lv_ldc2d (v := 4593671619917905920) hx hb hown (hts (.constantDouble RL 75 (4593671619917905920)) (by decide +kernel)) dL_law_254 ?_
  refine lv_dmul hx hb dL_law_257 (sv_fin (xs (si + 2))).2 ?_
  refine lv_aload_n hx hb dL_law_258 rfl (lv_at hl 0 rfl) ?_
  refine lv_iload hx hb dL_law_259 (lv_at hl 5 rfl) ?_
  refine lv_iconst (v := 3) hx hb dL_law_261 (by decide) ?_
  refine lv_iadd hx hb dL_law_262 ?_
  rw [show nI si + 3 = nI (si + 3) from nI_add si 3]
  refine va_sld hx hb hXs hbl hbA hw.2.2.2 (vp_in_nI (show si + 3 < Ls by omega) (by omega)) dL_law_263 ?_
  rw [nI_clamp (show si + 3 < 2 ^ 31 by omega)]
  refine lv_i2d hx hb dL_law_264 ?_
  refine lv_ldc2d (v := 4593671619917905920) hx hb hown (hts (.constantDouble RL 75 (4593671619917905920)) (by decide +kernel)) dL_law_265 ?_
  refine lv_dmul hx hb dL_law_268 (sv_fin (xs (si + 3))).2 ?_
  refine kH (As := [.ref (ad 0), .int (nI kc), .double (sv (xs (si + 2))), .double (sv (xs (si + 3)))]) (rest := []) ⟨hx, hb, hml, hown, hts⟩ (h_x3_X6_rate l hlt G dA sa L f ad (nl + 1) nb q qk x.1 x.2.1 x.2.2.1 x.2.2.2.1 kk tt x.2.2.2.2.1 x.2.2.2.2.2 kc (sv (xs (si + 2))) (sv (xs (si + 3))) hC hR hc h1 hbad) (vx_cwSW 4 hts gL_law_L_rate rfl rfl rfl (by decide +kernel) ⟨Nat.le_of_ble_eq_true rfl, Nat.le_of_ble_eq_true rfl⟩) hw hE hA rfl hl.1 rfl (Nat.le_of_ble_eq_true rfl) dL_law_269 ⟨hc1, hs1⟩ (fun r2 f1 H locs hp hw => ?_)
  obtain ⟨e1, e2⟩ := hp
  rw [e2] at hw
  rw [e1]
  refine lv_istore (lv' := [(6, .int 2), (0, .ref b), (1, .ref (ad 0)), (2, .ref (ad 16)), (3, .ref (ad 32)), (4, .ref (ad 33)), (5, .int (nI si))]) hx hb dL_law_272 hl (by decide) rfl (fun ls hl => ?_)
  refine lv_aload_n hx hb dL_law_274 rfl (lv_at hl 3 rfl) ?_
  refine lv_aload_n hx hb dL_law_275 rfl (lv_at hl 1 rfl) ?_
  refine lv_iload hx hb dL_law_276 (lv_at hl 6 rfl) ?_
  refine lv_iconst (v := 1) hx hb dL_law_278 (by decide) ?_
  refine lv_iadd hx hb dL_law_279 ?_
  rw [show nI si + 1 = nI (si + 1) from nI_add si 1]
  refine va_sld hx hb hXs hbl hbA hw.2.2.2 (vp_in_nI (show si + 1 < Ls by omega) (by omega)) dL_law_280 ?_
  rw [nI_clamp (show si + 1 < 2 ^ 31 by omega)]
  rw [hk1]
  refine lv_aload_n hx hb dL_law_281 rfl (lv_at hl 1 rfl) ?_
  refine lv_iload hx hb dL_law_282 (lv_at hl 6 rfl) ?_
  refine lv_iconst (v := 2) hx hb dL_law_284 (by decide) ?_
  refine lv_iadd hx hb dL_law_285 ?_
  rw [show nI si + 2 = nI (si + 2) from nI_add si 2]
  refine va_sld hx hb hXs hbl hbA hw.2.2.2 (vp_in_nI (show si + 2 < Ls by omega) (by omega)) dL_law_286 ?_
  rw [nI_clamp (show si + 2 < 2 ^ 31 by omega)]
  refine lv_i2d hx hb dL_law_287 ?_
  refine lv_ldc2d (v := 4593671619917905920) hx hb hown (hts (.constantDouble RL 75 (4593671619917905920)) (by decide +kernel)) dL_law_288 ?_
  refine lv_dmul hx hb dL_law_291 (sv_fin (xs (si + 2))).2 ?_
  refine lv_aload_n hx hb dL_law_292 rfl (lv_at hl 1 rfl) ?_
  refine lv_iload hx hb dL_law_293 (lv_at hl 6 rfl) ?_
  refine lv_iconst (v := 3) hx hb dL_law_295 (by decide) ?_
  refine lv_iadd hx hb dL_law_296 ?_
  rw [show nI si + 3 = nI (si + 3) from nI_add si 3]
  refine va_sld hx hb hXs hbl hbA hw.2.2.2 (vp_in_nI (show si + 3 < Ls by omega) (by omega)) dL_law_297 ?_
  rw [nI_clamp (show si + 3 < 2 ^ 31 by omega)]
  refine lv_i2d hx hb dL_law_298 ?_
  refine lv_ldc2d (v := 4593671619917905920) hx hb hown (hts (.constantDouble RL 75 (4593671619917905920)) (by decide +kernel)) dL_law_299 ?_
  refine lv_dmul hx hb dL_law_302 (sv_fin (xs (si + 3))).2 ?_
  refine kV_V (C := RX7) (T := TX7) (N := 31) (As := [.int (nI kc), .double (sv (xs (si + 2))), .double (sv (xs (si + 3)))]) (rest := []) ⟨hx, hb, hml, hown, hts⟩ (t3_X7_rate l G dA L f ad (nl + 1) nb q qk ((x.1).1) ((x.1).2.1) ((x.1).2.2.1) ((x.1).2.2.2) ((x.2.1).1) ((x.2.1).2) x.2.2.2.2.2 tt.1 ((x.2.2.2.2.1).1) ((x.2.2.2.2.1).2.1) thr pa bad num RA RB TH DE KI WE NX LI LM KE TX BW TI KV DM f kc (sv (xs (si + 2))) (sv (xs (si + 3))) hC hX hc (inB_t h1) (inB_f hbad)) (cwV 3 hts gL_law_X7_rate rfl rfl rfl (by decide +kernel) ⟨Nat.le_of_ble_eq_true rfl, Nat.le_of_ble_eq_true rfl⟩) hw hA (hC.m (by decide)) hX.o rfl rfl hl.1 rfl (Nat.le_of_ble_eq_true rfl) dL_law_303 ⟨hc1, hs1⟩ (fun f3 H locs hp hw => ?_)
  have hX2 : MX ad dA (nl + 1) nb ((x.1).1) ((x.1).2.1) ((x.1).2.2.1) ((x.1).2.2.2) ((x.2.1).1) ((x.2.1).2) x.2.2.2.2.2 tt.1 ((x.2.2.2.2.1).1) ((x.2.2.2.2.1).2.1) 2 pa bad num RA RB TH DE KI WE NX LI LM KE TX BW TI KV DM f f3 := hp
  refine lv_aload_n hx hb dL_law_306 rfl (lv_at hl 3 rfl) ?_
  refine kV_I (C := RX7) (T := TX7) (N := 31) (As := []) (rest := []) ⟨hx, hb, hml, hown, hts⟩ (c_X7_thrown l G dA L f3 ad (nl + 1) nb q qk ((x.1).1) ((x.1).2.1) ((x.1).2.2.1) ((x.1).2.2.2) ((x.2.1).1) ((x.2.1).2) x.2.2.2.2.2 tt.1 ((x.2.2.2.2.1).1) ((x.2.2.2.2.1).2.1) 2 pa bad num RA RB TH DE KI WE NX LI LM KE TX BW TI KV DM f hC hX2) (cwV 0 hts gL_law_X7_thrown rfl rfl rfl (by decide +kernel) ⟨Nat.le_of_ble_eq_true rfl, Nat.le_of_ble_eq_true rfl⟩) hw hA (hC.m (by decide)) hX2.o rfl rfl hl.1 rfl (Nat.le_of_ble_eq_true rfl) dL_law_307 ⟨hc1, hs1⟩ (fun r5 f6 H locs hp hw => ?_)
  obtain ⟨e1, e2⟩ := hp
  rw [e2] at hw
  rw [e1]
  refine lv_iload hx hb dL_law_310 (lv_at hl 0 rfl) ?_
  refine lv_icmp_eq (tgt := 317) hx hb dL_law_312 (by decide) (fun _ => ?_) (fun c9 => absurd rfl c9)
  refine lv_goto (tgt := 1177) hx hb dL_law_317 (by decide) ?_
  exact kk9 x kk tt f3 _ _ ls (LwI.of (x := x) (kk := kk) (tt := tt) hR ⟨_, _, _, _, _, _, _, _, _, _, _, _, _, _, _, _, _, _, hX2, hMk, hMb, hMw, hMt, hMp⟩ ⟨_, ho⟩ ⟨_, hd⟩ hG htt hTT) (Nat.le_add_right _ _) hw (lv_sub hl [1, 2, 3, 4, 5, 6] rfl)

set_option maxHeartbeats 4000000 in
set_option maxRecDepth 100000 in
theorem k_rate_0 {p : Program} {l : Launch} {e : Env} {s : State} {m : MethodId} {below : List Frame} {meth : Method} {c : Code} {G : va_G} {dA : Nat → ClassId} {b Ls si : Nat} {xs : Nat → Int32} {sa ad : Nat → Nat} {L : List Nat} {nl nb : Nat} {q qk : Nat → Option Nat} {x : sR} {kk : Nat → UInt64 × UInt64} {tt : sT} {f : Nat → va_E} {H : Heap} {locs : List Loc} {ls : Array Slot} {cells slots : Nat} (kc : Nat) (hLC : LC p l s m c meth b Ls xs G dA sa ad L nl nb q qk) (hsi : si + 5 ≤ Ls) (hc1 : cells + 1 ≤ room_1.cells) (hs1 : slots + 6 ≤ room_1.slots) (hLI : LwI ad dA nl nb q qk x kk tt f) (hhr : x.2.2.2.2.2 < 2 ^ 29) (hw : ww G dA (fun z : Nat => s.heap.size ≤ z) s L f H locs) (hl : lv_has ls 10 [(0, .ref b), (1, .ref (ad 0)), (2, .ref (ad 16)), (3, .ref (ad 32)), (4, .ref (ad 33)), (5, .int (nI si))]) (hc : kc < 4) (hk1 : xs (si + 1) = nI kc) (h1 : inR (sv (xs (si + 2))) FP.dconst0 4620693217682128896) (h2 : inR (sv (xs (si + 3))) FP.dconst0 4620693217682128896)
    (kk9 : ∀ (x2 : sR) (kk2 : Nat → UInt64 × UInt64) (tt2 : sT) (f2 : Nat → va_E) (H : Heap) (locs : List Loc) (ls : Array Slot), LwI ad dA nl nb q qk x2 kk2 tt2 f2 → x2.2.2.2.2.2 ≤ x.2.2.2.2.2 + 100 → ww G dA (fun z : Nat => s.heap.size ≤ z) s L f2 H locs → lv_has ls 10 [(0, .ref b), (1, .ref (ad 0)), (2, .ref (ad 16)), (3, .ref (ad 32)), (4, .ref (ad 33)), (5, .int (nI si))] → W p l e room_1 s m #[Value.ref b] below meth c H locs (cells + 1) (slots + 6) (lw_Z below #[Value.ref b] s) (F0 m 1177 ls [])) : W p l e room_1 s m #[Value.ref b] below meth c H locs cells slots (lw_Z below #[Value.ref b] s) (F0 m 240 ls []) := by
  obtain ⟨hx, hb, hml, hown, hts, hXs, hbl, hlt, hE, hC, hLs, hret, hlocks⟩ := hLC
  have hA : ∀ z : Nat, s.heap.size ≤ z → (fun z : Nat => s.heap.size ≤ z) z := fun _ h => h
  have hbA : ¬ (fun z : Nat => s.heap.size ≤ z) b := Nat.not_le.mpr hbl
  obtain ⟨hR, ⟨thr, hM⟩, ⟨o, ho⟩, ⟨od, hd⟩, hG, htt, hTT⟩ := hLI
  obtain ⟨pa, bad, num, RA, RB, TH, DE, KI, WE, NX, LI, LM, KE, TX, BW, TI, KV, DM, hX, hMk, hMb, hMw, hMt, hMp⟩ := hM
  refine lv_aload_n hx hb dL_law_240 rfl (lv_at hl 1 rfl) ?_
  refine lv_aload_n hx hb dL_law_241 rfl (lv_at hl 0 rfl) ?_
  refine lv_iload hx hb dL_law_242 (lv_at hl 5 rfl) ?_
  refine lv_iconst (v := 1) hx hb dL_law_244 (by decide) ?_
  refine lv_iadd hx hb dL_law_245 ?_
  rw [show nI si + 1 = nI (si + 1) from nI_add si 1]
  refine va_sld hx hb hXs hbl hbA hw.2.2.2 (vp_in_nI (show si + 1 < Ls by omega) (by omega)) dL_law_246 ?_
  rw [nI_clamp (show si + 1 < 2 ^ 31 by omega)]
  rw [hk1]
  refine lv_aload_n hx hb dL_law_247 rfl (lv_at hl 0 rfl) ?_
  refine lv_iload hx hb dL_law_248 (lv_at hl 5 rfl) ?_
  refine lv_iconst (v := 2) hx hb dL_law_250 (by decide) ?_
  refine lv_iadd hx hb dL_law_251 ?_
  rw [show nI si + 2 = nI (si + 2) from nI_add si 2]
  refine va_sld hx hb hXs hbl hbA hw.2.2.2 (vp_in_nI (show si + 2 < Ls by omega) (by omega)) dL_law_252 ?_
  rw [nI_clamp (show si + 2 < 2 ^ 31 by omega)]
  refine lv_i2d hx hb dL_law_253 ?_
  refine lv_ldc2d (v := 4593671619917905920) hx hb hown (hts (.constantDouble RL 75 (4593671619917905920)) (by decide +kernel)) dL_law_254 ?_
  refine lv_dmul hx hb dL_law_257 (sv_fin (xs (si + 2))).2 ?_
  refine lv_aload_n hx hb dL_law_258 rfl (lv_at hl 0 rfl) ?_
  refine lv_iload hx hb dL_law_259 (lv_at hl 5 rfl) ?_
  refine lv_iconst (v := 3) hx hb dL_law_261 (by decide) ?_
  refine lv_iadd hx hb dL_law_262 ?_
  rw [show nI si + 3 = nI (si + 3) from nI_add si 3]
  refine va_sld hx hb hXs hbl hbA hw.2.2.2 (vp_in_nI (show si + 3 < Ls by omega) (by omega)) dL_law_263 ?_
  rw [nI_clamp (show si + 3 < 2 ^ 31 by omega)]
  refine lv_i2d hx hb dL_law_264 ?_
  refine lv_ldc2d (v := 4593671619917905920) hx hb hown (hts (.constantDouble RL 75 (4593671619917905920)) (by decide +kernel)) dL_law_265 ?_
  refine lv_dmul hx hb dL_law_268 (sv_fin (xs (si + 3))).2 ?_
  refine kH (As := [.ref (ad 0), .int (nI kc), .double (sv (xs (si + 2))), .double (sv (xs (si + 3)))]) (rest := []) ⟨hx, hb, hml, hown, hts⟩ (h_c_X6_rate l hlt G dA sa L f ad (nl + 1) nb q qk x.1 x.2.1 x.2.2.1 x.2.2.2.1 kk tt x.2.2.2.2.1 x.2.2.2.2.2 kc (sv (xs (si + 2))) (sv (xs (si + 3))) hC hR hc h1 h2) (vx_cwSW 4 hts gL_law_L_rate rfl rfl rfl (by decide +kernel) ⟨Nat.le_of_ble_eq_true rfl, Nat.le_of_ble_eq_true rfl⟩) hw hE hA rfl hl.1 rfl (Nat.le_of_ble_eq_true rfl) dL_law_269 ⟨hc1, hs1⟩ (fun r2 f1 H locs hp hw => ?_)
  obtain ⟨e1, hp⟩ := hp
  rw [e1]
  have hR1 : RC ad dA (nl + 1) nb q qk x.1 x.2.1 x.2.2.1 x.2.2.2.1 (va_up kk kc (sv (xs (si + 2)), sv (xs (si + 3)))) tt x.2.2.2.2.1 x.2.2.2.2.2 f f1 := hp
  have hX3 : MX ad dA (nl + 1) nb ((x.1).1) ((x.1).2.1) ((x.1).2.2.1) ((x.1).2.2.2) ((x.2.1).1) ((x.2.1).2) x.2.2.2.2.2 tt.1 ((x.2.2.2.2.1).1) ((x.2.2.2.2.1).2.1) thr pa bad num RA RB TH DE KI WE NX LI LM KE TX BW TI KV DM f1 f1 := hX.mv (fun i h1 h2 => hR1.fr h1 (by omega)) (fun _ _ _ => rfl)
  have ho1 : f1 (ad 32) = aL (dA 4) 1 o := (hR1.fr (by omega) (by omega)).trans ho
  have hd1 : f1 (ad 33) = aD (dA 1) 1 od := (hR1.fr (by omega) (by omega)).trans hd
  refine lv_istore (lv' := [(6, .int 0), (0, .ref b), (1, .ref (ad 0)), (2, .ref (ad 16)), (3, .ref (ad 32)), (4, .ref (ad 33)), (5, .int (nI si))]) hx hb dL_law_272 hl (by decide) rfl (fun ls hl => ?_)
  refine lv_aload_n hx hb dL_law_274 rfl (lv_at hl 3 rfl) ?_
  refine lv_aload_n hx hb dL_law_275 rfl (lv_at hl 1 rfl) ?_
  refine lv_iload hx hb dL_law_276 (lv_at hl 6 rfl) ?_
  refine lv_iconst (v := 1) hx hb dL_law_278 (by decide) ?_
  refine lv_iadd hx hb dL_law_279 ?_
  rw [show nI si + 1 = nI (si + 1) from nI_add si 1]
  refine va_sld hx hb hXs hbl hbA hw.2.2.2 (vp_in_nI (show si + 1 < Ls by omega) (by omega)) dL_law_280 ?_
  rw [nI_clamp (show si + 1 < 2 ^ 31 by omega)]
  rw [hk1]
  refine lv_aload_n hx hb dL_law_281 rfl (lv_at hl 1 rfl) ?_
  refine lv_iload hx hb dL_law_282 (lv_at hl 6 rfl) ?_
  refine lv_iconst (v := 2) hx hb dL_law_284 (by decide) ?_
  refine lv_iadd hx hb dL_law_285 ?_
  rw [show nI si + 2 = nI (si + 2) from nI_add si 2]
  refine va_sld hx hb hXs hbl hbA hw.2.2.2 (vp_in_nI (show si + 2 < Ls by omega) (by omega)) dL_law_286 ?_
  rw [nI_clamp (show si + 2 < 2 ^ 31 by omega)]
  refine lv_i2d hx hb dL_law_287 ?_
  refine lv_ldc2d (v := 4593671619917905920) hx hb hown (hts (.constantDouble RL 75 (4593671619917905920)) (by decide +kernel)) dL_law_288 ?_
  refine lv_dmul hx hb dL_law_291 (sv_fin (xs (si + 2))).2 ?_
  refine lv_aload_n hx hb dL_law_292 rfl (lv_at hl 1 rfl) ?_
  refine lv_iload hx hb dL_law_293 (lv_at hl 6 rfl) ?_
  refine lv_iconst (v := 3) hx hb dL_law_295 (by decide) ?_
  refine lv_iadd hx hb dL_law_296 ?_
  rw [show nI si + 3 = nI (si + 3) from nI_add si 3]
  refine va_sld hx hb hXs hbl hbA hw.2.2.2 (vp_in_nI (show si + 3 < Ls by omega) (by omega)) dL_law_297 ?_
  rw [nI_clamp (show si + 3 < 2 ^ 31 by omega)]
  refine lv_i2d hx hb dL_law_298 ?_
  refine lv_ldc2d (v := 4593671619917905920) hx hb hown (hts (.constantDouble RL 75 (4593671619917905920)) (by decide +kernel)) dL_law_299 ?_
  refine lv_dmul hx hb dL_law_302 (sv_fin (xs (si + 3))).2 ?_
  refine kV_V (C := RX7) (T := TX7) (N := 31) (As := [.int (nI kc), .double (sv (xs (si + 2))), .double (sv (xs (si + 3)))]) (rest := []) ⟨hx, hb, hml, hown, hts⟩ (c_X7_rate l G dA L f1 ad (nl + 1) nb q qk ((x.1).1) ((x.1).2.1) ((x.1).2.2.1) ((x.1).2.2.2) ((x.2.1).1) ((x.2.1).2) x.2.2.2.2.2 tt.1 ((x.2.2.2.2.1).1) ((x.2.2.2.2.1).2.1) thr pa bad num RA RB TH DE KI WE NX LI LM KE TX BW TI KV DM f1 kc (sv (xs (si + 2))) (sv (xs (si + 3))) hC hX3 hc (inB_t h1) (inB_t h2)) (cwV 3 hts gL_law_X7_rate rfl rfl rfl (by decide +kernel) ⟨Nat.le_of_ble_eq_true rfl, Nat.le_of_ble_eq_true rfl⟩) hw hA (hC.m (by decide)) hX3.o rfl rfl hl.1 rfl (Nat.le_of_ble_eq_true rfl) dL_law_303 ⟨hc1, hs1⟩ (fun f4 H locs hp hw => ?_)
  have hX2 : MX ad dA (nl + 1) nb ((x.1).1) ((x.1).2.1) ((x.1).2.2.1) ((x.1).2.2.2) ((x.2.1).1) ((x.2.1).2) x.2.2.2.2.2 tt.1 ((x.2.2.2.2.1).1) ((x.2.2.2.2.1).2.1) 0 pa bad num (vf_upd RA kc (sv (xs (si + 2)))) (vf_upd RB kc (sv (xs (si + 3)))) TH DE KI WE NX LI LM KE TX BW TI KV DM f1 f4 := hp
  refine lv_aload_n hx hb dL_law_306 rfl (lv_at hl 3 rfl) ?_
  refine kV_I (C := RX7) (T := TX7) (N := 31) (As := []) (rest := []) ⟨hx, hb, hml, hown, hts⟩ (c_X7_thrown l G dA L f4 ad (nl + 1) nb q qk ((x.1).1) ((x.1).2.1) ((x.1).2.2.1) ((x.1).2.2.2) ((x.2.1).1) ((x.2.1).2) x.2.2.2.2.2 tt.1 ((x.2.2.2.2.1).1) ((x.2.2.2.2.1).2.1) 0 pa bad num (vf_upd RA kc (sv (xs (si + 2)))) (vf_upd RB kc (sv (xs (si + 3)))) TH DE KI WE NX LI LM KE TX BW TI KV DM f1 hC hX2) (cwV 0 hts gL_law_X7_thrown rfl rfl rfl (by decide +kernel) ⟨Nat.le_of_ble_eq_true rfl, Nat.le_of_ble_eq_true rfl⟩) hw hA (hC.m (by decide)) hX2.o rfl rfl hl.1 rfl (Nat.le_of_ble_eq_true rfl) dL_law_307 ⟨hc1, hs1⟩ (fun r6 f7 H locs hp hw => ?_)
  obtain ⟨e1, e2⟩ := hp
  rw [e2] at hw
  rw [e1]
  refine lv_iload hx hb dL_law_310 (lv_at hl 0 rfl) ?_
  refine lv_icmp_eq (tgt := 317) hx hb dL_law_312 (by decide) (fun _ => ?_) (fun c9 => absurd rfl c9)
  refine lv_goto (tgt := 1177) hx hb dL_law_317 (by decide) ?_
  exact kk9 x (va_up kk kc (sv (xs (si + 2)), sv (xs (si + 3)))) tt f4 _ _ ls (LwI.of (x := x) (kk := va_up kk kc (sv (xs (si + 2)), sv (xs (si + 3)))) (tt := tt) hR1 ⟨_, _, _, _, _, _, _, _, _, _, _, _, _, _, _, _, _, _, hX2, hMk.set _ _, hMb, hMw, hMt, hMp⟩ ⟨_, ho1⟩ ⟨_, hd1⟩ (hG.rate (in_np (sv_fin _).1 h1 k_0.1 k_8).1 (in_np (sv_fin _).1 h2 k_0.1 k_8).1) htt hTT) (Nat.le_add_right _ _) hw (lv_sub hl [1, 2, 3, 4, 5, 6] rfl)

set_option maxHeartbeats 4000000 in
set_option maxRecDepth 100000 in
theorem k_air_1 {p : Program} {l : Launch} {e : Env} {s : State} {m : MethodId} {below : List Frame} {meth : Method} {c : Code} {G : va_G} {dA : Nat → ClassId} {b Ls si : Nat} {xs : Nat → Int32} {sa ad : Nat → Nat} {L : List Nat} {nl nb : Nat} {q qk : Nat → Option Nat} {x : sR} {kk : Nat → UInt64 × UInt64} {tt : sT} {f : Nat → va_E} {H : Heap} {locs : List Loc} {ls : Array Slot} {cells slots : Nat}  (hLC : LC p l s m c meth b Ls xs G dA sa ad L nl nb q qk) (hsi : si + 5 ≤ Ls) (hc1 : cells + 1 ≤ room_1.cells) (hs1 : slots + 6 ≤ room_1.slots) (hLI : LwI ad dA nl nb q qk x kk tt f) (hhr : x.2.2.2.2.2 < 2 ^ 29) (hw : ww G dA (fun z : Nat => s.heap.size ≤ z) s L f H locs) (hl : lv_has ls 10 [(0, .ref b), (1, .ref (ad 0)), (2, .ref (ad 16)), (3, .ref (ad 32)), (4, .ref (ad 33)), (5, .int (nI si))]) (hbad : ¬ inR (sv (xs (si + 1))) 4643000109586448384 4645744490609377280)
    (kk9 : ∀ (x2 : sR) (kk2 : Nat → UInt64 × UInt64) (tt2 : sT) (f2 : Nat → va_E) (H : Heap) (locs : List Loc) (ls : Array Slot), LwI ad dA nl nb q qk x2 kk2 tt2 f2 → x2.2.2.2.2.2 ≤ x.2.2.2.2.2 + 100 → ww G dA (fun z : Nat => s.heap.size ≤ z) s L f2 H locs → lv_has ls 10 [(0, .ref b), (1, .ref (ad 0)), (2, .ref (ad 16)), (3, .ref (ad 32)), (4, .ref (ad 33)), (5, .int (nI si))] → W p l e room_1 s m #[Value.ref b] below meth c H locs (cells + 1) (slots + 6) (lw_Z below #[Value.ref b] s) (F0 m 1177 ls [])) : W p l e room_1 s m #[Value.ref b] below meth c H locs cells slots (lw_Z below #[Value.ref b] s) (F0 m 320 ls []) := by
  obtain ⟨hx, hb, hml, hown, hts, hXs, hbl, hlt, hE, hC, hLs, hret, hlocks⟩ := hLC
  have hA : ∀ z : Nat, s.heap.size ≤ z → (fun z : Nat => s.heap.size ≤ z) z := fun _ h => h
  have hbA : ¬ (fun z : Nat => s.heap.size ≤ z) b := Nat.not_le.mpr hbl
  obtain ⟨hR, ⟨thr, hM⟩, ⟨o, ho⟩, ⟨od, hd⟩, hG, htt, hTT⟩ := hLI
  obtain ⟨pa, bad, num, RA, RB, TH, DE, KI, WE, NX, LI, LM, KE, TX, BW, TI, KV, DM, hX, hMk, hMb, hMw, hMt, hMp⟩ := hM
  refine lv_aload_n hx hb dL_law_320 rfl (lv_at hl 1 rfl) ?_
  refine lv_aload_n hx hb dL_law_321 rfl (lv_at hl 0 rfl) ?_
  refine lv_iload hx hb dL_law_322 (lv_at hl 5 rfl) ?_
  refine lv_iconst (v := 1) hx hb dL_law_324 (by decide) ?_
  refine lv_iadd hx hb dL_law_325 ?_
  rw [show nI si + 1 = nI (si + 1) from nI_add si 1]
  refine va_sld hx hb hXs hbl hbA hw.2.2.2 (vp_in_nI (show si + 1 < Ls by omega) (by omega)) dL_law_326 ?_
  rw [nI_clamp (show si + 1 < 2 ^ 31 by omega)]
  refine lv_i2d hx hb dL_law_327 ?_
  refine lv_ldc2d (v := 4593671619917905920) hx hb hown (hts (.constantDouble RL 75 (4593671619917905920)) (by decide +kernel)) dL_law_328 ?_
  refine lv_dmul hx hb dL_law_331 (sv_fin (xs (si + 1))).2 ?_
  refine lv_aload_n hx hb dL_law_332 rfl (lv_at hl 0 rfl) ?_
  refine lv_iload hx hb dL_law_333 (lv_at hl 5 rfl) ?_
  refine lv_iconst (v := 2) hx hb dL_law_335 (by decide) ?_
  refine lv_iadd hx hb dL_law_336 ?_
  rw [show nI si + 2 = nI (si + 2) from nI_add si 2]
  refine va_sld hx hb hXs hbl hbA hw.2.2.2 (vp_in_nI (show si + 2 < Ls by omega) (by omega)) dL_law_337 ?_
  rw [nI_clamp (show si + 2 < 2 ^ 31 by omega)]
  refine lv_i2d hx hb dL_law_338 ?_
  refine lv_ldc2d (v := 4593671619917905920) hx hb hown (hts (.constantDouble RL 75 (4593671619917905920)) (by decide +kernel)) dL_law_339 ?_
  refine lv_dmul hx hb dL_law_342 (sv_fin (xs (si + 2))).2 ?_
  refine lv_aload_n hx hb dL_law_343 rfl (lv_at hl 0 rfl) ?_
  refine lv_iload hx hb dL_law_344 (lv_at hl 5 rfl) ?_
  refine lv_iconst (v := 3) hx hb dL_law_346 (by decide) ?_
  refine lv_iadd hx hb dL_law_347 ?_
  rw [show nI si + 3 = nI (si + 3) from nI_add si 3]
  refine va_sld hx hb hXs hbl hbA hw.2.2.2 (vp_in_nI (show si + 3 < Ls by omega) (by omega)) dL_law_348 ?_
  rw [nI_clamp (show si + 3 < 2 ^ 31 by omega)]
  refine lv_i2d hx hb dL_law_349 ?_
  refine lv_ldc2d (v := 4593671619917905920) hx hb hown (hts (.constantDouble RL 75 (4593671619917905920)) (by decide +kernel)) dL_law_350 ?_
  refine lv_dmul hx hb dL_law_353 (sv_fin (xs (si + 3))).2 ?_
  refine kH (As := [.ref (ad 0), .double (sv (xs (si + 1))), .double (sv (xs (si + 2))), .double (sv (xs (si + 3)))]) (rest := []) ⟨hx, hb, hml, hown, hts⟩ (h_x1_X6_air l hlt G dA sa L f ad (nl + 1) nb q qk x.1 x.2.1 x.2.2.1 x.2.2.2.1 kk tt x.2.2.2.2.1 x.2.2.2.2.2 (sv (xs (si + 1))) (sv (xs (si + 2))) (sv (xs (si + 3))) hC hR hbad) (vx_cwSW 4 hts gL_law_L_air rfl rfl rfl (by decide +kernel) ⟨Nat.le_of_ble_eq_true rfl, Nat.le_of_ble_eq_true rfl⟩) hw hE hA rfl hl.1 rfl (Nat.le_of_ble_eq_true rfl) dL_law_354 ⟨hc1, hs1⟩ (fun r2 f1 H locs hp hw => ?_)
  obtain ⟨e1, e2⟩ := hp
  rw [e2] at hw
  rw [e1]
  refine lv_istore (lv' := [(6, .int 1), (0, .ref b), (1, .ref (ad 0)), (2, .ref (ad 16)), (3, .ref (ad 32)), (4, .ref (ad 33)), (5, .int (nI si))]) hx hb dL_law_357 hl (by decide) rfl (fun ls hl => ?_)
  refine lv_aload_n hx hb dL_law_359 rfl (lv_at hl 3 rfl) ?_
  refine lv_aload_n hx hb dL_law_360 rfl (lv_at hl 1 rfl) ?_
  refine lv_iload hx hb dL_law_361 (lv_at hl 6 rfl) ?_
  refine lv_iconst (v := 1) hx hb dL_law_363 (by decide) ?_
  refine lv_iadd hx hb dL_law_364 ?_
  rw [show nI si + 1 = nI (si + 1) from nI_add si 1]
  refine va_sld hx hb hXs hbl hbA hw.2.2.2 (vp_in_nI (show si + 1 < Ls by omega) (by omega)) dL_law_365 ?_
  rw [nI_clamp (show si + 1 < 2 ^ 31 by omega)]
  refine lv_i2d hx hb dL_law_366 ?_
  refine lv_ldc2d (v := 4593671619917905920) hx hb hown (hts (.constantDouble RL 75 (4593671619917905920)) (by decide +kernel)) dL_law_367 ?_
  refine lv_dmul hx hb dL_law_370 (sv_fin (xs (si + 1))).2 ?_
  refine lv_aload_n hx hb dL_law_371 rfl (lv_at hl 1 rfl) ?_
  refine lv_iload hx hb dL_law_372 (lv_at hl 6 rfl) ?_
  refine lv_iconst (v := 2) hx hb dL_law_374 (by decide) ?_
  refine lv_iadd hx hb dL_law_375 ?_
  rw [show nI si + 2 = nI (si + 2) from nI_add si 2]
  refine va_sld hx hb hXs hbl hbA hw.2.2.2 (vp_in_nI (show si + 2 < Ls by omega) (by omega)) dL_law_376 ?_
  rw [nI_clamp (show si + 2 < 2 ^ 31 by omega)]
  refine lv_i2d hx hb dL_law_377 ?_
  refine lv_ldc2d (v := 4593671619917905920) hx hb hown (hts (.constantDouble RL 75 (4593671619917905920)) (by decide +kernel)) dL_law_378 ?_
  refine lv_dmul hx hb dL_law_381 (sv_fin (xs (si + 2))).2 ?_
  refine lv_aload_n hx hb dL_law_382 rfl (lv_at hl 1 rfl) ?_
  refine lv_iload hx hb dL_law_383 (lv_at hl 6 rfl) ?_
  refine lv_iconst (v := 3) hx hb dL_law_385 (by decide) ?_
  refine lv_iadd hx hb dL_law_386 ?_
  rw [show nI si + 3 = nI (si + 3) from nI_add si 3]
  refine va_sld hx hb hXs hbl hbA hw.2.2.2 (vp_in_nI (show si + 3 < Ls by omega) (by omega)) dL_law_387 ?_
  rw [nI_clamp (show si + 3 < 2 ^ 31 by omega)]
  refine lv_i2d hx hb dL_law_388 ?_
  refine lv_ldc2d (v := 4593671619917905920) hx hb hown (hts (.constantDouble RL 75 (4593671619917905920)) (by decide +kernel)) dL_law_389 ?_
  refine lv_dmul hx hb dL_law_392 (sv_fin (xs (si + 3))).2 ?_
  refine kV_V (C := RX7) (T := TX7) (N := 31) (As := [.double (sv (xs (si + 1))), .double (sv (xs (si + 2))), .double (sv (xs (si + 3)))]) (rest := []) ⟨hx, hb, hml, hown, hts⟩ (t1_X7_air l G dA L f ad (nl + 1) nb q qk ((x.1).1) ((x.1).2.1) ((x.1).2.2.1) ((x.1).2.2.2) ((x.2.1).1) ((x.2.1).2) x.2.2.2.2.2 tt.1 ((x.2.2.2.2.1).1) ((x.2.2.2.2.1).2.1) thr pa bad num RA RB TH DE KI WE NX LI LM KE TX BW TI KV DM f (sv (xs (si + 1))) (sv (xs (si + 2))) (sv (xs (si + 3))) hC hX (inB_f hbad)) (cwV 3 hts gL_law_X7_air rfl rfl rfl (by decide +kernel) ⟨Nat.le_of_ble_eq_true rfl, Nat.le_of_ble_eq_true rfl⟩) hw hA (hC.m (by decide)) hX.o rfl rfl hl.1 rfl (Nat.le_of_ble_eq_true rfl) dL_law_393 ⟨hc1, hs1⟩ (fun f3 H locs hp hw => ?_)
  have hX2 : MX ad dA (nl + 1) nb ((x.1).1) ((x.1).2.1) ((x.1).2.2.1) ((x.1).2.2.2) ((x.2.1).1) ((x.2.1).2) x.2.2.2.2.2 tt.1 ((x.2.2.2.2.1).1) ((x.2.2.2.2.1).2.1) 1 pa bad num RA RB TH DE KI WE NX LI LM KE TX BW TI KV DM f f3 := hp
  refine lv_aload_n hx hb dL_law_396 rfl (lv_at hl 3 rfl) ?_
  refine kV_I (C := RX7) (T := TX7) (N := 31) (As := []) (rest := []) ⟨hx, hb, hml, hown, hts⟩ (c_X7_thrown l G dA L f3 ad (nl + 1) nb q qk ((x.1).1) ((x.1).2.1) ((x.1).2.2.1) ((x.1).2.2.2) ((x.2.1).1) ((x.2.1).2) x.2.2.2.2.2 tt.1 ((x.2.2.2.2.1).1) ((x.2.2.2.2.1).2.1) 1 pa bad num RA RB TH DE KI WE NX LI LM KE TX BW TI KV DM f hC hX2) (cwV 0 hts gL_law_X7_thrown rfl rfl rfl (by decide +kernel) ⟨Nat.le_of_ble_eq_true rfl, Nat.le_of_ble_eq_true rfl⟩) hw hA (hC.m (by decide)) hX2.o rfl rfl hl.1 rfl (Nat.le_of_ble_eq_true rfl) dL_law_397 ⟨hc1, hs1⟩ (fun r5 f6 H locs hp hw => ?_)
  obtain ⟨e1, e2⟩ := hp
  rw [e2] at hw
  rw [e1]
  refine lv_iload hx hb dL_law_400 (lv_at hl 0 rfl) ?_
  refine lv_icmp_eq (tgt := 407) hx hb dL_law_402 (by decide) (fun _ => ?_) (fun c9 => absurd rfl c9)
  refine lv_goto (tgt := 1177) hx hb dL_law_407 (by decide) ?_
  exact kk9 x kk tt f3 _ _ ls (LwI.of (x := x) (kk := kk) (tt := tt) hR ⟨_, _, _, _, _, _, _, _, _, _, _, _, _, _, _, _, _, _, hX2, hMk, hMb, hMw, hMt, hMp⟩ ⟨_, ho⟩ ⟨_, hd⟩ hG htt hTT) (Nat.le_add_right _ _) hw (lv_sub hl [1, 2, 3, 4, 5, 6] rfl)

set_option maxHeartbeats 4000000 in
set_option maxRecDepth 100000 in
theorem k_air_2 {p : Program} {l : Launch} {e : Env} {s : State} {m : MethodId} {below : List Frame} {meth : Method} {c : Code} {G : va_G} {dA : Nat → ClassId} {b Ls si : Nat} {xs : Nat → Int32} {sa ad : Nat → Nat} {L : List Nat} {nl nb : Nat} {q qk : Nat → Option Nat} {x : sR} {kk : Nat → UInt64 × UInt64} {tt : sT} {f : Nat → va_E} {H : Heap} {locs : List Loc} {ls : Array Slot} {cells slots : Nat}  (hLC : LC p l s m c meth b Ls xs G dA sa ad L nl nb q qk) (hsi : si + 5 ≤ Ls) (hc1 : cells + 1 ≤ room_1.cells) (hs1 : slots + 6 ≤ room_1.slots) (hLI : LwI ad dA nl nb q qk x kk tt f) (hhr : x.2.2.2.2.2 < 2 ^ 29) (hw : ww G dA (fun z : Nat => s.heap.size ≤ z) s L f H locs) (hl : lv_has ls 10 [(0, .ref b), (1, .ref (ad 0)), (2, .ref (ad 16)), (3, .ref (ad 32)), (4, .ref (ad 33)), (5, .int (nI si))]) (h1 : inR (sv (xs (si + 1))) 4643000109586448384 4645744490609377280) (hbad : ¬ inR (sv (xs (si + 2))) FP.dconst0 FP.dconst1)
    (kk9 : ∀ (x2 : sR) (kk2 : Nat → UInt64 × UInt64) (tt2 : sT) (f2 : Nat → va_E) (H : Heap) (locs : List Loc) (ls : Array Slot), LwI ad dA nl nb q qk x2 kk2 tt2 f2 → x2.2.2.2.2.2 ≤ x.2.2.2.2.2 + 100 → ww G dA (fun z : Nat => s.heap.size ≤ z) s L f2 H locs → lv_has ls 10 [(0, .ref b), (1, .ref (ad 0)), (2, .ref (ad 16)), (3, .ref (ad 32)), (4, .ref (ad 33)), (5, .int (nI si))] → W p l e room_1 s m #[Value.ref b] below meth c H locs (cells + 1) (slots + 6) (lw_Z below #[Value.ref b] s) (F0 m 1177 ls [])) : W p l e room_1 s m #[Value.ref b] below meth c H locs cells slots (lw_Z below #[Value.ref b] s) (F0 m 320 ls []) := by
  obtain ⟨hx, hb, hml, hown, hts, hXs, hbl, hlt, hE, hC, hLs, hret, hlocks⟩ := hLC
  have hA : ∀ z : Nat, s.heap.size ≤ z → (fun z : Nat => s.heap.size ≤ z) z := fun _ h => h
  have hbA : ¬ (fun z : Nat => s.heap.size ≤ z) b := Nat.not_le.mpr hbl
  obtain ⟨hR, ⟨thr, hM⟩, ⟨o, ho⟩, ⟨od, hd⟩, hG, htt, hTT⟩ := hLI
  obtain ⟨pa, bad, num, RA, RB, TH, DE, KI, WE, NX, LI, LM, KE, TX, BW, TI, KV, DM, hX, hMk, hMb, hMw, hMt, hMp⟩ := hM
  refine lv_aload_n hx hb dL_law_320 rfl (lv_at hl 1 rfl) ?_
  refine lv_aload_n hx hb dL_law_321 rfl (lv_at hl 0 rfl) ?_
  refine lv_iload hx hb dL_law_322 (lv_at hl 5 rfl) ?_
  refine lv_iconst (v := 1) hx hb dL_law_324 (by decide) ?_
  refine lv_iadd hx hb dL_law_325 ?_
  rw [show nI si + 1 = nI (si + 1) from nI_add si 1]
  refine va_sld hx hb hXs hbl hbA hw.2.2.2 (vp_in_nI (show si + 1 < Ls by omega) (by omega)) dL_law_326 ?_
  rw [nI_clamp (show si + 1 < 2 ^ 31 by omega)]
  refine lv_i2d hx hb dL_law_327 ?_
  refine lv_ldc2d (v := 4593671619917905920) hx hb hown (hts (.constantDouble RL 75 (4593671619917905920)) (by decide +kernel)) dL_law_328 ?_
  refine lv_dmul hx hb dL_law_331 (sv_fin (xs (si + 1))).2 ?_
  refine lv_aload_n hx hb dL_law_332 rfl (lv_at hl 0 rfl) ?_
  refine lv_iload hx hb dL_law_333 (lv_at hl 5 rfl) ?_
  refine lv_iconst (v := 2) hx hb dL_law_335 (by decide) ?_
  refine lv_iadd hx hb dL_law_336 ?_
  rw [show nI si + 2 = nI (si + 2) from nI_add si 2]
  refine va_sld hx hb hXs hbl hbA hw.2.2.2 (vp_in_nI (show si + 2 < Ls by omega) (by omega)) dL_law_337 ?_
  rw [nI_clamp (show si + 2 < 2 ^ 31 by omega)]
  refine lv_i2d hx hb dL_law_338 ?_
  refine lv_ldc2d (v := 4593671619917905920) hx hb hown (hts (.constantDouble RL 75 (4593671619917905920)) (by decide +kernel)) dL_law_339 ?_
  refine lv_dmul hx hb dL_law_342 (sv_fin (xs (si + 2))).2 ?_
  refine lv_aload_n hx hb dL_law_343 rfl (lv_at hl 0 rfl) ?_
  refine lv_iload hx hb dL_law_344 (lv_at hl 5 rfl) ?_
  refine lv_iconst (v := 3) hx hb dL_law_346 (by decide) ?_
  refine lv_iadd hx hb dL_law_347 ?_
  rw [show nI si + 3 = nI (si + 3) from nI_add si 3]
  refine va_sld hx hb hXs hbl hbA hw.2.2.2 (vp_in_nI (show si + 3 < Ls by omega) (by omega)) dL_law_348 ?_
  rw [nI_clamp (show si + 3 < 2 ^ 31 by omega)]
  refine lv_i2d hx hb dL_law_349 ?_
  refine lv_ldc2d (v := 4593671619917905920) hx hb hown (hts (.constantDouble RL 75 (4593671619917905920)) (by decide +kernel)) dL_law_350 ?_
  refine lv_dmul hx hb dL_law_353 (sv_fin (xs (si + 3))).2 ?_
  refine kH (As := [.ref (ad 0), .double (sv (xs (si + 1))), .double (sv (xs (si + 2))), .double (sv (xs (si + 3)))]) (rest := []) ⟨hx, hb, hml, hown, hts⟩ (h_x2_X6_air l hlt G dA sa L f ad (nl + 1) nb q qk x.1 x.2.1 x.2.2.1 x.2.2.2.1 kk tt x.2.2.2.2.1 x.2.2.2.2.2 (sv (xs (si + 1))) (sv (xs (si + 2))) (sv (xs (si + 3))) hC hR h1 hbad) (vx_cwSW 4 hts gL_law_L_air rfl rfl rfl (by decide +kernel) ⟨Nat.le_of_ble_eq_true rfl, Nat.le_of_ble_eq_true rfl⟩) hw hE hA rfl hl.1 rfl (Nat.le_of_ble_eq_true rfl) dL_law_354 ⟨hc1, hs1⟩ (fun r2 f1 H locs hp hw => ?_)
  obtain ⟨e1, e2⟩ := hp
  rw [e2] at hw
  rw [e1]
  refine lv_istore (lv' := [(6, .int 1), (0, .ref b), (1, .ref (ad 0)), (2, .ref (ad 16)), (3, .ref (ad 32)), (4, .ref (ad 33)), (5, .int (nI si))]) hx hb dL_law_357 hl (by decide) rfl (fun ls hl => ?_)
  refine lv_aload_n hx hb dL_law_359 rfl (lv_at hl 3 rfl) ?_
  refine lv_aload_n hx hb dL_law_360 rfl (lv_at hl 1 rfl) ?_
  refine lv_iload hx hb dL_law_361 (lv_at hl 6 rfl) ?_
  refine lv_iconst (v := 1) hx hb dL_law_363 (by decide) ?_
  refine lv_iadd hx hb dL_law_364 ?_
  rw [show nI si + 1 = nI (si + 1) from nI_add si 1]
  refine va_sld hx hb hXs hbl hbA hw.2.2.2 (vp_in_nI (show si + 1 < Ls by omega) (by omega)) dL_law_365 ?_
  rw [nI_clamp (show si + 1 < 2 ^ 31 by omega)]
  refine lv_i2d hx hb dL_law_366 ?_
  refine lv_ldc2d (v := 4593671619917905920) hx hb hown (hts (.constantDouble RL 75 (4593671619917905920)) (by decide +kernel)) dL_law_367 ?_
  refine lv_dmul hx hb dL_law_370 (sv_fin (xs (si + 1))).2 ?_
  refine lv_aload_n hx hb dL_law_371 rfl (lv_at hl 1 rfl) ?_
  refine lv_iload hx hb dL_law_372 (lv_at hl 6 rfl) ?_
  refine lv_iconst (v := 2) hx hb dL_law_374 (by decide) ?_
  refine lv_iadd hx hb dL_law_375 ?_
  rw [show nI si + 2 = nI (si + 2) from nI_add si 2]
  refine va_sld hx hb hXs hbl hbA hw.2.2.2 (vp_in_nI (show si + 2 < Ls by omega) (by omega)) dL_law_376 ?_
  rw [nI_clamp (show si + 2 < 2 ^ 31 by omega)]
  refine lv_i2d hx hb dL_law_377 ?_
  refine lv_ldc2d (v := 4593671619917905920) hx hb hown (hts (.constantDouble RL 75 (4593671619917905920)) (by decide +kernel)) dL_law_378 ?_
  refine lv_dmul hx hb dL_law_381 (sv_fin (xs (si + 2))).2 ?_
  refine lv_aload_n hx hb dL_law_382 rfl (lv_at hl 1 rfl) ?_
  refine lv_iload hx hb dL_law_383 (lv_at hl 6 rfl) ?_
  refine lv_iconst (v := 3) hx hb dL_law_385 (by decide) ?_
  refine lv_iadd hx hb dL_law_386 ?_
  rw [show nI si + 3 = nI (si + 3) from nI_add si 3]
  refine va_sld hx hb hXs hbl hbA hw.2.2.2 (vp_in_nI (show si + 3 < Ls by omega) (by omega)) dL_law_387 ?_
  rw [nI_clamp (show si + 3 < 2 ^ 31 by omega)]
  refine lv_i2d hx hb dL_law_388 ?_
  refine lv_ldc2d (v := 4593671619917905920) hx hb hown (hts (.constantDouble RL 75 (4593671619917905920)) (by decide +kernel)) dL_law_389 ?_
  refine lv_dmul hx hb dL_law_392 (sv_fin (xs (si + 3))).2 ?_
  refine kV_V (C := RX7) (T := TX7) (N := 31) (As := [.double (sv (xs (si + 1))), .double (sv (xs (si + 2))), .double (sv (xs (si + 3)))]) (rest := []) ⟨hx, hb, hml, hown, hts⟩ (t2_X7_air l G dA L f ad (nl + 1) nb q qk ((x.1).1) ((x.1).2.1) ((x.1).2.2.1) ((x.1).2.2.2) ((x.2.1).1) ((x.2.1).2) x.2.2.2.2.2 tt.1 ((x.2.2.2.2.1).1) ((x.2.2.2.2.1).2.1) thr pa bad num RA RB TH DE KI WE NX LI LM KE TX BW TI KV DM f (sv (xs (si + 1))) (sv (xs (si + 2))) (sv (xs (si + 3))) hC hX (inB_t h1) (inB_f hbad)) (cwV 3 hts gL_law_X7_air rfl rfl rfl (by decide +kernel) ⟨Nat.le_of_ble_eq_true rfl, Nat.le_of_ble_eq_true rfl⟩) hw hA (hC.m (by decide)) hX.o rfl rfl hl.1 rfl (Nat.le_of_ble_eq_true rfl) dL_law_393 ⟨hc1, hs1⟩ (fun f3 H locs hp hw => ?_)
  have hX2 : MX ad dA (nl + 1) nb ((x.1).1) ((x.1).2.1) ((x.1).2.2.1) ((x.1).2.2.2) ((x.2.1).1) ((x.2.1).2) x.2.2.2.2.2 tt.1 ((x.2.2.2.2.1).1) ((x.2.2.2.2.1).2.1) 1 pa bad num RA RB TH DE KI WE NX LI LM KE TX BW TI KV DM f f3 := hp
  refine lv_aload_n hx hb dL_law_396 rfl (lv_at hl 3 rfl) ?_
  refine kV_I (C := RX7) (T := TX7) (N := 31) (As := []) (rest := []) ⟨hx, hb, hml, hown, hts⟩ (c_X7_thrown l G dA L f3 ad (nl + 1) nb q qk ((x.1).1) ((x.1).2.1) ((x.1).2.2.1) ((x.1).2.2.2) ((x.2.1).1) ((x.2.1).2) x.2.2.2.2.2 tt.1 ((x.2.2.2.2.1).1) ((x.2.2.2.2.1).2.1) 1 pa bad num RA RB TH DE KI WE NX LI LM KE TX BW TI KV DM f hC hX2) (cwV 0 hts gL_law_X7_thrown rfl rfl rfl (by decide +kernel) ⟨Nat.le_of_ble_eq_true rfl, Nat.le_of_ble_eq_true rfl⟩) hw hA (hC.m (by decide)) hX2.o rfl rfl hl.1 rfl (Nat.le_of_ble_eq_true rfl) dL_law_397 ⟨hc1, hs1⟩ (fun r5 f6 H locs hp hw => ?_)
  obtain ⟨e1, e2⟩ := hp
  rw [e2] at hw
  rw [e1]
  refine lv_iload hx hb dL_law_400 (lv_at hl 0 rfl) ?_
  refine lv_icmp_eq (tgt := 407) hx hb dL_law_402 (by decide) (fun _ => ?_) (fun c9 => absurd rfl c9)
  refine lv_goto (tgt := 1177) hx hb dL_law_407 (by decide) ?_
  exact kk9 x kk tt f3 _ _ ls (LwI.of (x := x) (kk := kk) (tt := tt) hR ⟨_, _, _, _, _, _, _, _, _, _, _, _, _, _, _, _, _, _, hX2, hMk, hMb, hMw, hMt, hMp⟩ ⟨_, ho⟩ ⟨_, hd⟩ hG htt hTT) (Nat.le_add_right _ _) hw (lv_sub hl [1, 2, 3, 4, 5, 6] rfl)

set_option maxHeartbeats 4000000 in
set_option maxRecDepth 100000 in
theorem k_air_3 {p : Program} {l : Launch} {e : Env} {s : State} {m : MethodId} {below : List Frame} {meth : Method} {c : Code} {G : va_G} {dA : Nat → ClassId} {b Ls si : Nat} {xs : Nat → Int32} {sa ad : Nat → Nat} {L : List Nat} {nl nb : Nat} {q qk : Nat → Option Nat} {x : sR} {kk : Nat → UInt64 × UInt64} {tt : sT} {f : Nat → va_E} {H : Heap} {locs : List Loc} {ls : Array Slot} {cells slots : Nat}  (hLC : LC p l s m c meth b Ls xs G dA sa ad L nl nb q qk) (hsi : si + 5 ≤ Ls) (hc1 : cells + 1 ≤ room_1.cells) (hs1 : slots + 6 ≤ room_1.slots) (hLI : LwI ad dA nl nb q qk x kk tt f) (hhr : x.2.2.2.2.2 < 2 ^ 29) (hw : ww G dA (fun z : Nat => s.heap.size ≤ z) s L f H locs) (hl : lv_has ls 10 [(0, .ref b), (1, .ref (ad 0)), (2, .ref (ad 16)), (3, .ref (ad 32)), (4, .ref (ad 33)), (5, .int (nI si))]) (h1 : inR (sv (xs (si + 1))) 4643000109586448384 4645744490609377280) (h2 : inR (sv (xs (si + 2))) FP.dconst0 FP.dconst1) (hbad : ¬ inR (sv (xs (si + 3))) FP.dconst0 4625196817309499392)
    (kk9 : ∀ (x2 : sR) (kk2 : Nat → UInt64 × UInt64) (tt2 : sT) (f2 : Nat → va_E) (H : Heap) (locs : List Loc) (ls : Array Slot), LwI ad dA nl nb q qk x2 kk2 tt2 f2 → x2.2.2.2.2.2 ≤ x.2.2.2.2.2 + 100 → ww G dA (fun z : Nat => s.heap.size ≤ z) s L f2 H locs → lv_has ls 10 [(0, .ref b), (1, .ref (ad 0)), (2, .ref (ad 16)), (3, .ref (ad 32)), (4, .ref (ad 33)), (5, .int (nI si))] → W p l e room_1 s m #[Value.ref b] below meth c H locs (cells + 1) (slots + 6) (lw_Z below #[Value.ref b] s) (F0 m 1177 ls [])) : W p l e room_1 s m #[Value.ref b] below meth c H locs cells slots (lw_Z below #[Value.ref b] s) (F0 m 320 ls []) := by
  obtain ⟨hx, hb, hml, hown, hts, hXs, hbl, hlt, hE, hC, hLs, hret, hlocks⟩ := hLC
  have hA : ∀ z : Nat, s.heap.size ≤ z → (fun z : Nat => s.heap.size ≤ z) z := fun _ h => h
  have hbA : ¬ (fun z : Nat => s.heap.size ≤ z) b := Nat.not_le.mpr hbl
  obtain ⟨hR, ⟨thr, hM⟩, ⟨o, ho⟩, ⟨od, hd⟩, hG, htt, hTT⟩ := hLI
  obtain ⟨pa, bad, num, RA, RB, TH, DE, KI, WE, NX, LI, LM, KE, TX, BW, TI, KV, DM, hX, hMk, hMb, hMw, hMt, hMp⟩ := hM
  refine lv_aload_n hx hb dL_law_320 rfl (lv_at hl 1 rfl) ?_
  refine lv_aload_n hx hb dL_law_321 rfl (lv_at hl 0 rfl) ?_
  refine lv_iload hx hb dL_law_322 (lv_at hl 5 rfl) ?_
  refine lv_iconst (v := 1) hx hb dL_law_324 (by decide) ?_
  refine lv_iadd hx hb dL_law_325 ?_
  rw [show nI si + 1 = nI (si + 1) from nI_add si 1]
  refine va_sld hx hb hXs hbl hbA hw.2.2.2 (vp_in_nI (show si + 1 < Ls by omega) (by omega)) dL_law_326 ?_
  rw [nI_clamp (show si + 1 < 2 ^ 31 by omega)]
  refine lv_i2d hx hb dL_law_327 ?_
  refine lv_ldc2d (v := 4593671619917905920) hx hb hown (hts (.constantDouble RL 75 (4593671619917905920)) (by decide +kernel)) dL_law_328 ?_
  refine lv_dmul hx hb dL_law_331 (sv_fin (xs (si + 1))).2 ?_
  refine lv_aload_n hx hb dL_law_332 rfl (lv_at hl 0 rfl) ?_
  refine lv_iload hx hb dL_law_333 (lv_at hl 5 rfl) ?_
  refine lv_iconst (v := 2) hx hb dL_law_335 (by decide) ?_
  refine lv_iadd hx hb dL_law_336 ?_
  rw [show nI si + 2 = nI (si + 2) from nI_add si 2]
  refine va_sld hx hb hXs hbl hbA hw.2.2.2 (vp_in_nI (show si + 2 < Ls by omega) (by omega)) dL_law_337 ?_
  rw [nI_clamp (show si + 2 < 2 ^ 31 by omega)]
  refine lv_i2d hx hb dL_law_338 ?_
  refine lv_ldc2d (v := 4593671619917905920) hx hb hown (hts (.constantDouble RL 75 (4593671619917905920)) (by decide +kernel)) dL_law_339 ?_
  refine lv_dmul hx hb dL_law_342 (sv_fin (xs (si + 2))).2 ?_
  refine lv_aload_n hx hb dL_law_343 rfl (lv_at hl 0 rfl) ?_
  refine lv_iload hx hb dL_law_344 (lv_at hl 5 rfl) ?_
  refine lv_iconst (v := 3) hx hb dL_law_346 (by decide) ?_
  refine lv_iadd hx hb dL_law_347 ?_
  rw [show nI si + 3 = nI (si + 3) from nI_add si 3]
  refine va_sld hx hb hXs hbl hbA hw.2.2.2 (vp_in_nI (show si + 3 < Ls by omega) (by omega)) dL_law_348 ?_
  rw [nI_clamp (show si + 3 < 2 ^ 31 by omega)]
  refine lv_i2d hx hb dL_law_349 ?_
  refine lv_ldc2d (v := 4593671619917905920) hx hb hown (hts (.constantDouble RL 75 (4593671619917905920)) (by decide +kernel)) dL_law_350 ?_
  refine lv_dmul hx hb dL_law_353 (sv_fin (xs (si + 3))).2 ?_
  refine kH (As := [.ref (ad 0), .double (sv (xs (si + 1))), .double (sv (xs (si + 2))), .double (sv (xs (si + 3)))]) (rest := []) ⟨hx, hb, hml, hown, hts⟩ (h_x3_X6_air l hlt G dA sa L f ad (nl + 1) nb q qk x.1 x.2.1 x.2.2.1 x.2.2.2.1 kk tt x.2.2.2.2.1 x.2.2.2.2.2 (sv (xs (si + 1))) (sv (xs (si + 2))) (sv (xs (si + 3))) hC hR h1 h2 hbad) (vx_cwSW 4 hts gL_law_L_air rfl rfl rfl (by decide +kernel) ⟨Nat.le_of_ble_eq_true rfl, Nat.le_of_ble_eq_true rfl⟩) hw hE hA rfl hl.1 rfl (Nat.le_of_ble_eq_true rfl) dL_law_354 ⟨hc1, hs1⟩ (fun r2 f1 H locs hp hw => ?_)
  obtain ⟨e1, e2⟩ := hp
  rw [e2] at hw
  rw [e1]
  refine lv_istore (lv' := [(6, .int 1), (0, .ref b), (1, .ref (ad 0)), (2, .ref (ad 16)), (3, .ref (ad 32)), (4, .ref (ad 33)), (5, .int (nI si))]) hx hb dL_law_357 hl (by decide) rfl (fun ls hl => ?_)
  refine lv_aload_n hx hb dL_law_359 rfl (lv_at hl 3 rfl) ?_
  refine lv_aload_n hx hb dL_law_360 rfl (lv_at hl 1 rfl) ?_
  refine lv_iload hx hb dL_law_361 (lv_at hl 6 rfl) ?_
  refine lv_iconst (v := 1) hx hb dL_law_363 (by decide) ?_
  refine lv_iadd hx hb dL_law_364 ?_
  rw [show nI si + 1 = nI (si + 1) from nI_add si 1]
  refine va_sld hx hb hXs hbl hbA hw.2.2.2 (vp_in_nI (show si + 1 < Ls by omega) (by omega)) dL_law_365 ?_
  rw [nI_clamp (show si + 1 < 2 ^ 31 by omega)]
  refine lv_i2d hx hb dL_law_366 ?_
  refine lv_ldc2d (v := 4593671619917905920) hx hb hown (hts (.constantDouble RL 75 (4593671619917905920)) (by decide +kernel)) dL_law_367 ?_
  refine lv_dmul hx hb dL_law_370 (sv_fin (xs (si + 1))).2 ?_
  refine lv_aload_n hx hb dL_law_371 rfl (lv_at hl 1 rfl) ?_
  refine lv_iload hx hb dL_law_372 (lv_at hl 6 rfl) ?_
  refine lv_iconst (v := 2) hx hb dL_law_374 (by decide) ?_
  refine lv_iadd hx hb dL_law_375 ?_
  rw [show nI si + 2 = nI (si + 2) from nI_add si 2]
  refine va_sld hx hb hXs hbl hbA hw.2.2.2 (vp_in_nI (show si + 2 < Ls by omega) (by omega)) dL_law_376 ?_
  rw [nI_clamp (show si + 2 < 2 ^ 31 by omega)]
  refine lv_i2d hx hb dL_law_377 ?_
  refine lv_ldc2d (v := 4593671619917905920) hx hb hown (hts (.constantDouble RL 75 (4593671619917905920)) (by decide +kernel)) dL_law_378 ?_
  refine lv_dmul hx hb dL_law_381 (sv_fin (xs (si + 2))).2 ?_
  refine lv_aload_n hx hb dL_law_382 rfl (lv_at hl 1 rfl) ?_
  refine lv_iload hx hb dL_law_383 (lv_at hl 6 rfl) ?_
  refine lv_iconst (v := 3) hx hb dL_law_385 (by decide) ?_
  refine lv_iadd hx hb dL_law_386 ?_
  rw [show nI si + 3 = nI (si + 3) from nI_add si 3]
  refine va_sld hx hb hXs hbl hbA hw.2.2.2 (vp_in_nI (show si + 3 < Ls by omega) (by omega)) dL_law_387 ?_
  rw [nI_clamp (show si + 3 < 2 ^ 31 by omega)]
  refine lv_i2d hx hb dL_law_388 ?_
  refine lv_ldc2d (v := 4593671619917905920) hx hb hown (hts (.constantDouble RL 75 (4593671619917905920)) (by decide +kernel)) dL_law_389 ?_
  refine lv_dmul hx hb dL_law_392 (sv_fin (xs (si + 3))).2 ?_
  refine kV_V (C := RX7) (T := TX7) (N := 31) (As := [.double (sv (xs (si + 1))), .double (sv (xs (si + 2))), .double (sv (xs (si + 3)))]) (rest := []) ⟨hx, hb, hml, hown, hts⟩ (t3_X7_air l G dA L f ad (nl + 1) nb q qk ((x.1).1) ((x.1).2.1) ((x.1).2.2.1) ((x.1).2.2.2) ((x.2.1).1) ((x.2.1).2) x.2.2.2.2.2 tt.1 ((x.2.2.2.2.1).1) ((x.2.2.2.2.1).2.1) thr pa bad num RA RB TH DE KI WE NX LI LM KE TX BW TI KV DM f (sv (xs (si + 1))) (sv (xs (si + 2))) (sv (xs (si + 3))) hC hX (inB_t h1) (inB_t h2) (inB_f hbad)) (cwV 3 hts gL_law_X7_air rfl rfl rfl (by decide +kernel) ⟨Nat.le_of_ble_eq_true rfl, Nat.le_of_ble_eq_true rfl⟩) hw hA (hC.m (by decide)) hX.o rfl rfl hl.1 rfl (Nat.le_of_ble_eq_true rfl) dL_law_393 ⟨hc1, hs1⟩ (fun f3 H locs hp hw => ?_)
  have hX2 : MX ad dA (nl + 1) nb ((x.1).1) ((x.1).2.1) ((x.1).2.2.1) ((x.1).2.2.2) ((x.2.1).1) ((x.2.1).2) x.2.2.2.2.2 tt.1 ((x.2.2.2.2.1).1) ((x.2.2.2.2.1).2.1) 1 pa bad num RA RB TH DE KI WE NX LI LM KE TX BW TI KV DM f f3 := hp
  refine lv_aload_n hx hb dL_law_396 rfl (lv_at hl 3 rfl) ?_
  refine kV_I (C := RX7) (T := TX7) (N := 31) (As := []) (rest := []) ⟨hx, hb, hml, hown, hts⟩ (c_X7_thrown l G dA L f3 ad (nl + 1) nb q qk ((x.1).1) ((x.1).2.1) ((x.1).2.2.1) ((x.1).2.2.2) ((x.2.1).1) ((x.2.1).2) x.2.2.2.2.2 tt.1 ((x.2.2.2.2.1).1) ((x.2.2.2.2.1).2.1) 1 pa bad num RA RB TH DE KI WE NX LI LM KE TX BW TI KV DM f hC hX2) (cwV 0 hts gL_law_X7_thrown rfl rfl rfl (by decide +kernel) ⟨Nat.le_of_ble_eq_true rfl, Nat.le_of_ble_eq_true rfl⟩) hw hA (hC.m (by decide)) hX2.o rfl rfl hl.1 rfl (Nat.le_of_ble_eq_true rfl) dL_law_397 ⟨hc1, hs1⟩ (fun r5 f6 H locs hp hw => ?_)
  obtain ⟨e1, e2⟩ := hp
  rw [e2] at hw
  rw [e1]
  refine lv_iload hx hb dL_law_400 (lv_at hl 0 rfl) ?_
  refine lv_icmp_eq (tgt := 407) hx hb dL_law_402 (by decide) (fun _ => ?_) (fun c9 => absurd rfl c9)
  refine lv_goto (tgt := 1177) hx hb dL_law_407 (by decide) ?_
  exact kk9 x kk tt f3 _ _ ls (LwI.of (x := x) (kk := kk) (tt := tt) hR ⟨_, _, _, _, _, _, _, _, _, _, _, _, _, _, _, _, _, _, hX2, hMk, hMb, hMw, hMt, hMp⟩ ⟨_, ho⟩ ⟨_, hd⟩ hG htt hTT) (Nat.le_add_right _ _) hw (lv_sub hl [1, 2, 3, 4, 5, 6] rfl)

set_option maxHeartbeats 4000000 in
set_option maxRecDepth 100000 in
theorem k_air_0 {p : Program} {l : Launch} {e : Env} {s : State} {m : MethodId} {below : List Frame} {meth : Method} {c : Code} {G : va_G} {dA : Nat → ClassId} {b Ls si : Nat} {xs : Nat → Int32} {sa ad : Nat → Nat} {L : List Nat} {nl nb : Nat} {q qk : Nat → Option Nat} {x : sR} {kk : Nat → UInt64 × UInt64} {tt : sT} {f : Nat → va_E} {H : Heap} {locs : List Loc} {ls : Array Slot} {cells slots : Nat}  (hLC : LC p l s m c meth b Ls xs G dA sa ad L nl nb q qk) (hsi : si + 5 ≤ Ls) (hc1 : cells + 1 ≤ room_1.cells) (hs1 : slots + 6 ≤ room_1.slots) (hLI : LwI ad dA nl nb q qk x kk tt f) (hhr : x.2.2.2.2.2 < 2 ^ 29) (hw : ww G dA (fun z : Nat => s.heap.size ≤ z) s L f H locs) (hl : lv_has ls 10 [(0, .ref b), (1, .ref (ad 0)), (2, .ref (ad 16)), (3, .ref (ad 32)), (4, .ref (ad 33)), (5, .int (nI si))]) (h1 : inR (sv (xs (si + 1))) 4643000109586448384 4645744490609377280) (h2 : inR (sv (xs (si + 2))) FP.dconst0 FP.dconst1) (h3 : inR (sv (xs (si + 3))) FP.dconst0 4625196817309499392)
    (kk9 : ∀ (x2 : sR) (kk2 : Nat → UInt64 × UInt64) (tt2 : sT) (f2 : Nat → va_E) (H : Heap) (locs : List Loc) (ls : Array Slot), LwI ad dA nl nb q qk x2 kk2 tt2 f2 → x2.2.2.2.2.2 ≤ x.2.2.2.2.2 + 100 → ww G dA (fun z : Nat => s.heap.size ≤ z) s L f2 H locs → lv_has ls 10 [(0, .ref b), (1, .ref (ad 0)), (2, .ref (ad 16)), (3, .ref (ad 32)), (4, .ref (ad 33)), (5, .int (nI si))] → W p l e room_1 s m #[Value.ref b] below meth c H locs (cells + 1) (slots + 6) (lw_Z below #[Value.ref b] s) (F0 m 1177 ls [])) : W p l e room_1 s m #[Value.ref b] below meth c H locs cells slots (lw_Z below #[Value.ref b] s) (F0 m 320 ls []) := by
  obtain ⟨hx, hb, hml, hown, hts, hXs, hbl, hlt, hE, hC, hLs, hret, hlocks⟩ := hLC
  have hA : ∀ z : Nat, s.heap.size ≤ z → (fun z : Nat => s.heap.size ≤ z) z := fun _ h => h
  have hbA : ¬ (fun z : Nat => s.heap.size ≤ z) b := Nat.not_le.mpr hbl
  obtain ⟨hR, ⟨thr, hM⟩, ⟨o, ho⟩, ⟨od, hd⟩, hG, htt, hTT⟩ := hLI
  obtain ⟨pa, bad, num, RA, RB, TH, DE, KI, WE, NX, LI, LM, KE, TX, BW, TI, KV, DM, hX, hMk, hMb, hMw, hMt, hMp⟩ := hM
  have hu := in_np (sv_fin _).1 h1 k_250.1 k_400
  rw [k_250.2] at hu
  refine lv_aload_n hx hb dL_law_320 rfl (lv_at hl 1 rfl) ?_
  refine lv_aload_n hx hb dL_law_321 rfl (lv_at hl 0 rfl) ?_
  refine lv_iload hx hb dL_law_322 (lv_at hl 5 rfl) ?_
  refine lv_iconst (v := 1) hx hb dL_law_324 (by decide) ?_
  refine lv_iadd hx hb dL_law_325 ?_
  rw [show nI si + 1 = nI (si + 1) from nI_add si 1]
  refine va_sld hx hb hXs hbl hbA hw.2.2.2 (vp_in_nI (show si + 1 < Ls by omega) (by omega)) dL_law_326 ?_
  rw [nI_clamp (show si + 1 < 2 ^ 31 by omega)]
  refine lv_i2d hx hb dL_law_327 ?_
  refine lv_ldc2d (v := 4593671619917905920) hx hb hown (hts (.constantDouble RL 75 (4593671619917905920)) (by decide +kernel)) dL_law_328 ?_
  refine lv_dmul hx hb dL_law_331 (sv_fin (xs (si + 1))).2 ?_
  refine lv_aload_n hx hb dL_law_332 rfl (lv_at hl 0 rfl) ?_
  refine lv_iload hx hb dL_law_333 (lv_at hl 5 rfl) ?_
  refine lv_iconst (v := 2) hx hb dL_law_335 (by decide) ?_
  refine lv_iadd hx hb dL_law_336 ?_
  rw [show nI si + 2 = nI (si + 2) from nI_add si 2]
  refine va_sld hx hb hXs hbl hbA hw.2.2.2 (vp_in_nI (show si + 2 < Ls by omega) (by omega)) dL_law_337 ?_
  rw [nI_clamp (show si + 2 < 2 ^ 31 by omega)]
  refine lv_i2d hx hb dL_law_338 ?_
  refine lv_ldc2d (v := 4593671619917905920) hx hb hown (hts (.constantDouble RL 75 (4593671619917905920)) (by decide +kernel)) dL_law_339 ?_
  refine lv_dmul hx hb dL_law_342 (sv_fin (xs (si + 2))).2 ?_
  refine lv_aload_n hx hb dL_law_343 rfl (lv_at hl 0 rfl) ?_
  refine lv_iload hx hb dL_law_344 (lv_at hl 5 rfl) ?_
  refine lv_iconst (v := 3) hx hb dL_law_346 (by decide) ?_
  refine lv_iadd hx hb dL_law_347 ?_
  rw [show nI si + 3 = nI (si + 3) from nI_add si 3]
  refine va_sld hx hb hXs hbl hbA hw.2.2.2 (vp_in_nI (show si + 3 < Ls by omega) (by omega)) dL_law_348 ?_
  rw [nI_clamp (show si + 3 < 2 ^ 31 by omega)]
  refine lv_i2d hx hb dL_law_349 ?_
  refine lv_ldc2d (v := 4593671619917905920) hx hb hown (hts (.constantDouble RL 75 (4593671619917905920)) (by decide +kernel)) dL_law_350 ?_
  refine lv_dmul hx hb dL_law_353 (sv_fin (xs (si + 3))).2 ?_
  refine kH (As := [.ref (ad 0), .double (sv (xs (si + 1))), .double (sv (xs (si + 2))), .double (sv (xs (si + 3)))]) (rest := []) ⟨hx, hb, hml, hown, hts⟩ (h_c_X6_air l hlt G dA sa L f ad (nl + 1) nb q qk x.1 x.2.1 x.2.2.1 x.2.2.2.1 kk tt x.2.2.2.2.1 x.2.2.2.2.2 (sv (xs (si + 1))) (sv (xs (si + 2))) (sv (xs (si + 3))) hC hR h1 h2 h3) (vx_cwSW 4 hts gL_law_L_air rfl rfl rfl (by decide +kernel) ⟨Nat.le_of_ble_eq_true rfl, Nat.le_of_ble_eq_true rfl⟩) hw hE hA rfl hl.1 rfl (Nat.le_of_ble_eq_true rfl) dL_law_354 ⟨hc1, hs1⟩ (fun r2 f1 H locs hp hw => ?_)
  obtain ⟨e1, hp⟩ := hp
  rw [e1]
  have hR1 : RC ad dA (nl + 1) nb q qk ((sv (xs (si + 1)), sv (xs (si + 2)), sv (xs (si + 3)), x.1.2.2.2)) x.2.1 x.2.2.1 x.2.2.2.1 kk tt x.2.2.2.2.1 x.2.2.2.2.2 f f1 := hp
  have hX3 : MX ad dA (nl + 1) nb ((x.1).1) ((x.1).2.1) ((x.1).2.2.1) ((x.1).2.2.2) ((x.2.1).1) ((x.2.1).2) x.2.2.2.2.2 tt.1 ((x.2.2.2.2.1).1) ((x.2.2.2.2.1).2.1) thr pa bad num RA RB TH DE KI WE NX LI LM KE TX BW TI KV DM f1 f1 := hX.mv (fun i h1 h2 => hR1.fr h1 (by omega)) (fun _ _ _ => rfl)
  have ho1 : f1 (ad 32) = aL (dA 4) 1 o := (hR1.fr (by omega) (by omega)).trans ho
  have hd1 : f1 (ad 33) = aD (dA 1) 1 od := (hR1.fr (by omega) (by omega)).trans hd
  refine lv_istore (lv' := [(6, .int 0), (0, .ref b), (1, .ref (ad 0)), (2, .ref (ad 16)), (3, .ref (ad 32)), (4, .ref (ad 33)), (5, .int (nI si))]) hx hb dL_law_357 hl (by decide) rfl (fun ls hl => ?_)
  refine lv_aload_n hx hb dL_law_359 rfl (lv_at hl 3 rfl) ?_
  refine lv_aload_n hx hb dL_law_360 rfl (lv_at hl 1 rfl) ?_
  refine lv_iload hx hb dL_law_361 (lv_at hl 6 rfl) ?_
  refine lv_iconst (v := 1) hx hb dL_law_363 (by decide) ?_
  refine lv_iadd hx hb dL_law_364 ?_
  rw [show nI si + 1 = nI (si + 1) from nI_add si 1]
  refine va_sld hx hb hXs hbl hbA hw.2.2.2 (vp_in_nI (show si + 1 < Ls by omega) (by omega)) dL_law_365 ?_
  rw [nI_clamp (show si + 1 < 2 ^ 31 by omega)]
  refine lv_i2d hx hb dL_law_366 ?_
  refine lv_ldc2d (v := 4593671619917905920) hx hb hown (hts (.constantDouble RL 75 (4593671619917905920)) (by decide +kernel)) dL_law_367 ?_
  refine lv_dmul hx hb dL_law_370 (sv_fin (xs (si + 1))).2 ?_
  refine lv_aload_n hx hb dL_law_371 rfl (lv_at hl 1 rfl) ?_
  refine lv_iload hx hb dL_law_372 (lv_at hl 6 rfl) ?_
  refine lv_iconst (v := 2) hx hb dL_law_374 (by decide) ?_
  refine lv_iadd hx hb dL_law_375 ?_
  rw [show nI si + 2 = nI (si + 2) from nI_add si 2]
  refine va_sld hx hb hXs hbl hbA hw.2.2.2 (vp_in_nI (show si + 2 < Ls by omega) (by omega)) dL_law_376 ?_
  rw [nI_clamp (show si + 2 < 2 ^ 31 by omega)]
  refine lv_i2d hx hb dL_law_377 ?_
  refine lv_ldc2d (v := 4593671619917905920) hx hb hown (hts (.constantDouble RL 75 (4593671619917905920)) (by decide +kernel)) dL_law_378 ?_
  refine lv_dmul hx hb dL_law_381 (sv_fin (xs (si + 2))).2 ?_
  refine lv_aload_n hx hb dL_law_382 rfl (lv_at hl 1 rfl) ?_
  refine lv_iload hx hb dL_law_383 (lv_at hl 6 rfl) ?_
  refine lv_iconst (v := 3) hx hb dL_law_385 (by decide) ?_
  refine lv_iadd hx hb dL_law_386 ?_
  rw [show nI si + 3 = nI (si + 3) from nI_add si 3]
  refine va_sld hx hb hXs hbl hbA hw.2.2.2 (vp_in_nI (show si + 3 < Ls by omega) (by omega)) dL_law_387 ?_
  rw [nI_clamp (show si + 3 < 2 ^ 31 by omega)]
  refine lv_i2d hx hb dL_law_388 ?_
  refine lv_ldc2d (v := 4593671619917905920) hx hb hown (hts (.constantDouble RL 75 (4593671619917905920)) (by decide +kernel)) dL_law_389 ?_
  refine lv_dmul hx hb dL_law_392 (sv_fin (xs (si + 3))).2 ?_
  refine kV_V (C := RX7) (T := TX7) (N := 31) (As := [.double (sv (xs (si + 1))), .double (sv (xs (si + 2))), .double (sv (xs (si + 3)))]) (rest := []) ⟨hx, hb, hml, hown, hts⟩ (c_X7_air l G dA L f1 ad (nl + 1) nb q qk ((x.1).1) ((x.1).2.1) ((x.1).2.2.1) ((x.1).2.2.2) ((x.2.1).1) ((x.2.1).2) x.2.2.2.2.2 tt.1 ((x.2.2.2.2.1).1) ((x.2.2.2.2.1).2.1) thr pa bad num RA RB TH DE KI WE NX LI LM KE TX BW TI KV DM f1 (sv (xs (si + 1))) (sv (xs (si + 2))) (sv (xs (si + 3))) hC hX3 (inB_t h1) (inB_t h2) (inB_t h3)) (cwV 3 hts gL_law_X7_air rfl rfl rfl (by decide +kernel) ⟨Nat.le_of_ble_eq_true rfl, Nat.le_of_ble_eq_true rfl⟩) hw hA (hC.m (by decide)) hX3.o rfl rfl hl.1 rfl (Nat.le_of_ble_eq_true rfl) dL_law_393 ⟨hc1, hs1⟩ (fun f4 H locs hp hw => ?_)
  have hX2 : MX ad dA (nl + 1) nb (sv (xs (si + 1))) (sv (xs (si + 2))) (sv (xs (si + 3))) ((x.1).2.2.2) ((x.2.1).1) ((x.2.1).2) x.2.2.2.2.2 tt.1 ((x.2.2.2.2.1).1) ((x.2.2.2.2.1).2.1) 0 pa bad num RA RB TH DE KI WE NX LI LM KE TX BW TI KV DM f1 f4 := hp
  refine lv_aload_n hx hb dL_law_396 rfl (lv_at hl 3 rfl) ?_
  refine kV_I (C := RX7) (T := TX7) (N := 31) (As := []) (rest := []) ⟨hx, hb, hml, hown, hts⟩ (c_X7_thrown l G dA L f4 ad (nl + 1) nb q qk (sv (xs (si + 1))) (sv (xs (si + 2))) (sv (xs (si + 3))) ((x.1).2.2.2) ((x.2.1).1) ((x.2.1).2) x.2.2.2.2.2 tt.1 ((x.2.2.2.2.1).1) ((x.2.2.2.2.1).2.1) 0 pa bad num RA RB TH DE KI WE NX LI LM KE TX BW TI KV DM f1 hC hX2) (cwV 0 hts gL_law_X7_thrown rfl rfl rfl (by decide +kernel) ⟨Nat.le_of_ble_eq_true rfl, Nat.le_of_ble_eq_true rfl⟩) hw hA (hC.m (by decide)) hX2.o rfl rfl hl.1 rfl (Nat.le_of_ble_eq_true rfl) dL_law_397 ⟨hc1, hs1⟩ (fun r6 f7 H locs hp hw => ?_)
  obtain ⟨e1, e2⟩ := hp
  rw [e2] at hw
  rw [e1]
  refine lv_iload hx hb dL_law_400 (lv_at hl 0 rfl) ?_
  refine lv_icmp_eq (tgt := 407) hx hb dL_law_402 (by decide) (fun _ => ?_) (fun c9 => absurd rfl c9)
  refine lv_goto (tgt := 1177) hx hb dL_law_407 (by decide) ?_
  exact kk9 (((sv (xs (si + 1)), sv (xs (si + 2)), sv (xs (si + 3)), x.1.2.2.2), x.2)) kk tt f4 _ _ ls (LwI.of (x := ((sv (xs (si + 1)), sv (xs (si + 2)), sv (xs (si + 3)), x.1.2.2.2), x.2)) (kk := kk) (tt := tt) hR1 ⟨_, _, _, _, _, _, _, _, _, _, _, _, _, _, _, _, _, _, hX2, hMk, hMb, hMw, hMt, hMp⟩ ⟨_, ho1⟩ ⟨_, hd1⟩ (hG.air ⟨⟨hu.1, hu.2⟩, (in_np (sv_fin _).1 h2 k_0.1 k_1).1, (in_np (sv_fin _).1 h3 k_0.1 k_16).1, hG.1.2.2.2⟩) htt hTT) (Nat.le_add_right _ _) hw (lv_sub hl [1, 2, 3, 4, 5, 6] rfl)

set_option maxHeartbeats 4000000 in
set_option maxRecDepth 100000 in
theorem k_vent_1 {p : Program} {l : Launch} {e : Env} {s : State} {m : MethodId} {below : List Frame} {meth : Method} {c : Code} {G : va_G} {dA : Nat → ClassId} {b Ls si : Nat} {xs : Nat → Int32} {sa ad : Nat → Nat} {L : List Nat} {nl nb : Nat} {q qk : Nat → Option Nat} {x : sR} {kk : Nat → UInt64 × UInt64} {tt : sT} {f : Nat → va_E} {H : Heap} {locs : List Loc} {ls : Array Slot} {cells slots : Nat}  (hLC : LC p l s m c meth b Ls xs G dA sa ad L nl nb q qk) (hsi : si + 5 ≤ Ls) (hc1 : cells + 1 ≤ room_1.cells) (hs1 : slots + 6 ≤ room_1.slots) (hLI : LwI ad dA nl nb q qk x kk tt f) (hhr : x.2.2.2.2.2 < 2 ^ 29) (hw : ww G dA (fun z : Nat => s.heap.size ≤ z) s L f H locs) (hl : lv_has ls 10 [(0, .ref b), (1, .ref (ad 0)), (2, .ref (ad 16)), (3, .ref (ad 32)), (4, .ref (ad 33)), (5, .int (nI si))]) (hbad : ¬ inR (sv (xs (si + 1))) FP.dconst0 FP.dconst1)
    (kk9 : ∀ (x2 : sR) (kk2 : Nat → UInt64 × UInt64) (tt2 : sT) (f2 : Nat → va_E) (H : Heap) (locs : List Loc) (ls : Array Slot), LwI ad dA nl nb q qk x2 kk2 tt2 f2 → x2.2.2.2.2.2 ≤ x.2.2.2.2.2 + 100 → ww G dA (fun z : Nat => s.heap.size ≤ z) s L f2 H locs → lv_has ls 10 [(0, .ref b), (1, .ref (ad 0)), (2, .ref (ad 16)), (3, .ref (ad 32)), (4, .ref (ad 33)), (5, .int (nI si))] → W p l e room_1 s m #[Value.ref b] below meth c H locs (cells + 1) (slots + 6) (lw_Z below #[Value.ref b] s) (F0 m 1177 ls [])) : W p l e room_1 s m #[Value.ref b] below meth c H locs cells slots (lw_Z below #[Value.ref b] s) (F0 m 410 ls []) := by
  obtain ⟨hx, hb, hml, hown, hts, hXs, hbl, hlt, hE, hC, hLs, hret, hlocks⟩ := hLC
  have hA : ∀ z : Nat, s.heap.size ≤ z → (fun z : Nat => s.heap.size ≤ z) z := fun _ h => h
  have hbA : ¬ (fun z : Nat => s.heap.size ≤ z) b := Nat.not_le.mpr hbl
  obtain ⟨hR, ⟨thr, hM⟩, ⟨o, ho⟩, ⟨od, hd⟩, hG, htt, hTT⟩ := hLI
  obtain ⟨pa, bad, num, RA, RB, TH, DE, KI, WE, NX, LI, LM, KE, TX, BW, TI, KV, DM, hX, hMk, hMb, hMw, hMt, hMp⟩ := hM
  refine lv_aload_n hx hb dL_law_410 rfl (lv_at hl 1 rfl) ?_
  refine lv_aload_n hx hb dL_law_411 rfl (lv_at hl 0 rfl) ?_
  refine lv_iload hx hb dL_law_412 (lv_at hl 5 rfl) ?_
  refine lv_iconst (v := 1) hx hb dL_law_414 (by decide) ?_
  refine lv_iadd hx hb dL_law_415 ?_
  rw [show nI si + 1 = nI (si + 1) from nI_add si 1]
  refine va_sld hx hb hXs hbl hbA hw.2.2.2 (vp_in_nI (show si + 1 < Ls by omega) (by omega)) dL_law_416 ?_
  rw [nI_clamp (show si + 1 < 2 ^ 31 by omega)]
  refine lv_i2d hx hb dL_law_417 ?_
  refine lv_ldc2d (v := 4593671619917905920) hx hb hown (hts (.constantDouble RL 75 (4593671619917905920)) (by decide +kernel)) dL_law_418 ?_
  refine lv_dmul hx hb dL_law_421 (sv_fin (xs (si + 1))).2 ?_
  refine kH (As := [.ref (ad 0), .double (sv (xs (si + 1)))]) (rest := []) ⟨hx, hb, hml, hown, hts⟩ (h_x1_X6_vent l hlt G dA sa L f ad (nl + 1) nb q qk x.1 x.2.1 x.2.2.1 x.2.2.2.1 kk tt x.2.2.2.2.1 x.2.2.2.2.2 (sv (xs (si + 1))) hC hR hbad) (vx_cwSW 2 hts gL_law_L_vent rfl rfl rfl (by decide +kernel) ⟨Nat.le_of_ble_eq_true rfl, Nat.le_of_ble_eq_true rfl⟩) hw hE hA rfl hl.1 rfl (Nat.le_of_ble_eq_true rfl) dL_law_422 ⟨hc1, hs1⟩ (fun r2 f1 H locs hp hw => ?_)
  obtain ⟨e1, e2⟩ := hp
  rw [e2] at hw
  rw [e1]
  refine lv_istore (lv' := [(6, .int 1), (0, .ref b), (1, .ref (ad 0)), (2, .ref (ad 16)), (3, .ref (ad 32)), (4, .ref (ad 33)), (5, .int (nI si))]) hx hb dL_law_425 hl (by decide) rfl (fun ls hl => ?_)
  refine lv_aload_n hx hb dL_law_427 rfl (lv_at hl 3 rfl) ?_
  refine lv_aload_n hx hb dL_law_428 rfl (lv_at hl 1 rfl) ?_
  refine lv_iload hx hb dL_law_429 (lv_at hl 6 rfl) ?_
  refine lv_iconst (v := 1) hx hb dL_law_431 (by decide) ?_
  refine lv_iadd hx hb dL_law_432 ?_
  rw [show nI si + 1 = nI (si + 1) from nI_add si 1]
  refine va_sld hx hb hXs hbl hbA hw.2.2.2 (vp_in_nI (show si + 1 < Ls by omega) (by omega)) dL_law_433 ?_
  rw [nI_clamp (show si + 1 < 2 ^ 31 by omega)]
  refine lv_i2d hx hb dL_law_434 ?_
  refine lv_ldc2d (v := 4593671619917905920) hx hb hown (hts (.constantDouble RL 75 (4593671619917905920)) (by decide +kernel)) dL_law_435 ?_
  refine lv_dmul hx hb dL_law_438 (sv_fin (xs (si + 1))).2 ?_
  refine kV_V (C := RX7) (T := TX7) (N := 31) (As := [.double (sv (xs (si + 1)))]) (rest := []) ⟨hx, hb, hml, hown, hts⟩ (t1_X7_vent l G dA L f ad (nl + 1) nb q qk ((x.1).1) ((x.1).2.1) ((x.1).2.2.1) ((x.1).2.2.2) ((x.2.1).1) ((x.2.1).2) x.2.2.2.2.2 tt.1 ((x.2.2.2.2.1).1) ((x.2.2.2.2.1).2.1) thr pa bad num RA RB TH DE KI WE NX LI LM KE TX BW TI KV DM f (sv (xs (si + 1))) hC hX (inB_f hbad)) (cwV 1 hts gL_law_X7_vent rfl rfl rfl (by decide +kernel) ⟨Nat.le_of_ble_eq_true rfl, Nat.le_of_ble_eq_true rfl⟩) hw hA (hC.m (by decide)) hX.o rfl rfl hl.1 rfl (Nat.le_of_ble_eq_true rfl) dL_law_439 ⟨hc1, hs1⟩ (fun f3 H locs hp hw => ?_)
  have hX2 : MX ad dA (nl + 1) nb ((x.1).1) ((x.1).2.1) ((x.1).2.2.1) ((x.1).2.2.2) ((x.2.1).1) ((x.2.1).2) x.2.2.2.2.2 tt.1 ((x.2.2.2.2.1).1) ((x.2.2.2.2.1).2.1) 1 pa bad num RA RB TH DE KI WE NX LI LM KE TX BW TI KV DM f f3 := hp
  refine lv_aload_n hx hb dL_law_442 rfl (lv_at hl 3 rfl) ?_
  refine kV_I (C := RX7) (T := TX7) (N := 31) (As := []) (rest := []) ⟨hx, hb, hml, hown, hts⟩ (c_X7_thrown l G dA L f3 ad (nl + 1) nb q qk ((x.1).1) ((x.1).2.1) ((x.1).2.2.1) ((x.1).2.2.2) ((x.2.1).1) ((x.2.1).2) x.2.2.2.2.2 tt.1 ((x.2.2.2.2.1).1) ((x.2.2.2.2.1).2.1) 1 pa bad num RA RB TH DE KI WE NX LI LM KE TX BW TI KV DM f hC hX2) (cwV 0 hts gL_law_X7_thrown rfl rfl rfl (by decide +kernel) ⟨Nat.le_of_ble_eq_true rfl, Nat.le_of_ble_eq_true rfl⟩) hw hA (hC.m (by decide)) hX2.o rfl rfl hl.1 rfl (Nat.le_of_ble_eq_true rfl) dL_law_443 ⟨hc1, hs1⟩ (fun r5 f6 H locs hp hw => ?_)
  obtain ⟨e1, e2⟩ := hp
  rw [e2] at hw
  rw [e1]
  refine lv_iload hx hb dL_law_446 (lv_at hl 0 rfl) ?_
  refine lv_icmp_eq (tgt := 453) hx hb dL_law_448 (by decide) (fun _ => ?_) (fun c9 => absurd rfl c9)
  refine lv_goto (tgt := 1177) hx hb dL_law_453 (by decide) ?_
  exact kk9 x kk tt f3 _ _ ls (LwI.of (x := x) (kk := kk) (tt := tt) hR ⟨_, _, _, _, _, _, _, _, _, _, _, _, _, _, _, _, _, _, hX2, hMk, hMb, hMw, hMt, hMp⟩ ⟨_, ho⟩ ⟨_, hd⟩ hG htt hTT) (Nat.le_add_right _ _) hw (lv_sub hl [1, 2, 3, 4, 5, 6] rfl)

set_option maxHeartbeats 4000000 in
set_option maxRecDepth 100000 in
theorem k_vent_0 {p : Program} {l : Launch} {e : Env} {s : State} {m : MethodId} {below : List Frame} {meth : Method} {c : Code} {G : va_G} {dA : Nat → ClassId} {b Ls si : Nat} {xs : Nat → Int32} {sa ad : Nat → Nat} {L : List Nat} {nl nb : Nat} {q qk : Nat → Option Nat} {x : sR} {kk : Nat → UInt64 × UInt64} {tt : sT} {f : Nat → va_E} {H : Heap} {locs : List Loc} {ls : Array Slot} {cells slots : Nat}  (hLC : LC p l s m c meth b Ls xs G dA sa ad L nl nb q qk) (hsi : si + 5 ≤ Ls) (hc1 : cells + 1 ≤ room_1.cells) (hs1 : slots + 6 ≤ room_1.slots) (hLI : LwI ad dA nl nb q qk x kk tt f) (hhr : x.2.2.2.2.2 < 2 ^ 29) (hw : ww G dA (fun z : Nat => s.heap.size ≤ z) s L f H locs) (hl : lv_has ls 10 [(0, .ref b), (1, .ref (ad 0)), (2, .ref (ad 16)), (3, .ref (ad 32)), (4, .ref (ad 33)), (5, .int (nI si))]) (h1 : inR (sv (xs (si + 1))) FP.dconst0 FP.dconst1)
    (kk9 : ∀ (x2 : sR) (kk2 : Nat → UInt64 × UInt64) (tt2 : sT) (f2 : Nat → va_E) (H : Heap) (locs : List Loc) (ls : Array Slot), LwI ad dA nl nb q qk x2 kk2 tt2 f2 → x2.2.2.2.2.2 ≤ x.2.2.2.2.2 + 100 → ww G dA (fun z : Nat => s.heap.size ≤ z) s L f2 H locs → lv_has ls 10 [(0, .ref b), (1, .ref (ad 0)), (2, .ref (ad 16)), (3, .ref (ad 32)), (4, .ref (ad 33)), (5, .int (nI si))] → W p l e room_1 s m #[Value.ref b] below meth c H locs (cells + 1) (slots + 6) (lw_Z below #[Value.ref b] s) (F0 m 1177 ls [])) : W p l e room_1 s m #[Value.ref b] below meth c H locs cells slots (lw_Z below #[Value.ref b] s) (F0 m 410 ls []) := by
  obtain ⟨hx, hb, hml, hown, hts, hXs, hbl, hlt, hE, hC, hLs, hret, hlocks⟩ := hLC
  have hA : ∀ z : Nat, s.heap.size ≤ z → (fun z : Nat => s.heap.size ≤ z) z := fun _ h => h
  have hbA : ¬ (fun z : Nat => s.heap.size ≤ z) b := Nat.not_le.mpr hbl
  obtain ⟨hR, ⟨thr, hM⟩, ⟨o, ho⟩, ⟨od, hd⟩, hG, htt, hTT⟩ := hLI
  obtain ⟨pa, bad, num, RA, RB, TH, DE, KI, WE, NX, LI, LM, KE, TX, BW, TI, KV, DM, hX, hMk, hMb, hMw, hMt, hMp⟩ := hM
  refine lv_aload_n hx hb dL_law_410 rfl (lv_at hl 1 rfl) ?_
  refine lv_aload_n hx hb dL_law_411 rfl (lv_at hl 0 rfl) ?_
  refine lv_iload hx hb dL_law_412 (lv_at hl 5 rfl) ?_
  refine lv_iconst (v := 1) hx hb dL_law_414 (by decide) ?_
  refine lv_iadd hx hb dL_law_415 ?_
  rw [show nI si + 1 = nI (si + 1) from nI_add si 1]
  refine va_sld hx hb hXs hbl hbA hw.2.2.2 (vp_in_nI (show si + 1 < Ls by omega) (by omega)) dL_law_416 ?_
  rw [nI_clamp (show si + 1 < 2 ^ 31 by omega)]
  refine lv_i2d hx hb dL_law_417 ?_
  refine lv_ldc2d (v := 4593671619917905920) hx hb hown (hts (.constantDouble RL 75 (4593671619917905920)) (by decide +kernel)) dL_law_418 ?_
  refine lv_dmul hx hb dL_law_421 (sv_fin (xs (si + 1))).2 ?_
  refine kH (As := [.ref (ad 0), .double (sv (xs (si + 1)))]) (rest := []) ⟨hx, hb, hml, hown, hts⟩ (h_c_X6_vent l hlt G dA sa L f ad (nl + 1) nb q qk x.1 x.2.1 x.2.2.1 x.2.2.2.1 kk tt x.2.2.2.2.1 x.2.2.2.2.2 (sv (xs (si + 1))) hC hR h1) (vx_cwSW 2 hts gL_law_L_vent rfl rfl rfl (by decide +kernel) ⟨Nat.le_of_ble_eq_true rfl, Nat.le_of_ble_eq_true rfl⟩) hw hE hA rfl hl.1 rfl (Nat.le_of_ble_eq_true rfl) dL_law_422 ⟨hc1, hs1⟩ (fun r2 f1 H locs hp hw => ?_)
  obtain ⟨e1, hp⟩ := hp
  rw [e1]
  have hR1 : RC ad dA (nl + 1) nb q qk ((x.1.1, x.1.2.1, x.1.2.2.1, sv (xs (si + 1)))) x.2.1 x.2.2.1 x.2.2.2.1 kk tt x.2.2.2.2.1 x.2.2.2.2.2 f f1 := hp
  have hX3 : MX ad dA (nl + 1) nb ((x.1).1) ((x.1).2.1) ((x.1).2.2.1) ((x.1).2.2.2) ((x.2.1).1) ((x.2.1).2) x.2.2.2.2.2 tt.1 ((x.2.2.2.2.1).1) ((x.2.2.2.2.1).2.1) thr pa bad num RA RB TH DE KI WE NX LI LM KE TX BW TI KV DM f1 f1 := hX.mv (fun i h1 h2 => hR1.fr h1 (by omega)) (fun _ _ _ => rfl)
  have ho1 : f1 (ad 32) = aL (dA 4) 1 o := (hR1.fr (by omega) (by omega)).trans ho
  have hd1 : f1 (ad 33) = aD (dA 1) 1 od := (hR1.fr (by omega) (by omega)).trans hd
  refine lv_istore (lv' := [(6, .int 0), (0, .ref b), (1, .ref (ad 0)), (2, .ref (ad 16)), (3, .ref (ad 32)), (4, .ref (ad 33)), (5, .int (nI si))]) hx hb dL_law_425 hl (by decide) rfl (fun ls hl => ?_)
  refine lv_aload_n hx hb dL_law_427 rfl (lv_at hl 3 rfl) ?_
  refine lv_aload_n hx hb dL_law_428 rfl (lv_at hl 1 rfl) ?_
  refine lv_iload hx hb dL_law_429 (lv_at hl 6 rfl) ?_
  refine lv_iconst (v := 1) hx hb dL_law_431 (by decide) ?_
  refine lv_iadd hx hb dL_law_432 ?_
  rw [show nI si + 1 = nI (si + 1) from nI_add si 1]
  refine va_sld hx hb hXs hbl hbA hw.2.2.2 (vp_in_nI (show si + 1 < Ls by omega) (by omega)) dL_law_433 ?_
  rw [nI_clamp (show si + 1 < 2 ^ 31 by omega)]
  refine lv_i2d hx hb dL_law_434 ?_
  refine lv_ldc2d (v := 4593671619917905920) hx hb hown (hts (.constantDouble RL 75 (4593671619917905920)) (by decide +kernel)) dL_law_435 ?_
  refine lv_dmul hx hb dL_law_438 (sv_fin (xs (si + 1))).2 ?_
  refine kV_V (C := RX7) (T := TX7) (N := 31) (As := [.double (sv (xs (si + 1)))]) (rest := []) ⟨hx, hb, hml, hown, hts⟩ (c_X7_vent l G dA L f1 ad (nl + 1) nb q qk ((x.1).1) ((x.1).2.1) ((x.1).2.2.1) ((x.1).2.2.2) ((x.2.1).1) ((x.2.1).2) x.2.2.2.2.2 tt.1 ((x.2.2.2.2.1).1) ((x.2.2.2.2.1).2.1) thr pa bad num RA RB TH DE KI WE NX LI LM KE TX BW TI KV DM f1 (sv (xs (si + 1))) hC hX3 (inB_t h1)) (cwV 1 hts gL_law_X7_vent rfl rfl rfl (by decide +kernel) ⟨Nat.le_of_ble_eq_true rfl, Nat.le_of_ble_eq_true rfl⟩) hw hA (hC.m (by decide)) hX3.o rfl rfl hl.1 rfl (Nat.le_of_ble_eq_true rfl) dL_law_439 ⟨hc1, hs1⟩ (fun f4 H locs hp hw => ?_)
  have hX2 : MX ad dA (nl + 1) nb ((x.1).1) ((x.1).2.1) ((x.1).2.2.1) (sv (xs (si + 1))) ((x.2.1).1) ((x.2.1).2) x.2.2.2.2.2 tt.1 ((x.2.2.2.2.1).1) ((x.2.2.2.2.1).2.1) 0 pa bad num RA RB TH DE KI WE NX LI LM KE TX BW TI KV DM f1 f4 := hp
  refine lv_aload_n hx hb dL_law_442 rfl (lv_at hl 3 rfl) ?_
  refine kV_I (C := RX7) (T := TX7) (N := 31) (As := []) (rest := []) ⟨hx, hb, hml, hown, hts⟩ (c_X7_thrown l G dA L f4 ad (nl + 1) nb q qk ((x.1).1) ((x.1).2.1) ((x.1).2.2.1) (sv (xs (si + 1))) ((x.2.1).1) ((x.2.1).2) x.2.2.2.2.2 tt.1 ((x.2.2.2.2.1).1) ((x.2.2.2.2.1).2.1) 0 pa bad num RA RB TH DE KI WE NX LI LM KE TX BW TI KV DM f1 hC hX2) (cwV 0 hts gL_law_X7_thrown rfl rfl rfl (by decide +kernel) ⟨Nat.le_of_ble_eq_true rfl, Nat.le_of_ble_eq_true rfl⟩) hw hA (hC.m (by decide)) hX2.o rfl rfl hl.1 rfl (Nat.le_of_ble_eq_true rfl) dL_law_443 ⟨hc1, hs1⟩ (fun r6 f7 H locs hp hw => ?_)
  obtain ⟨e1, e2⟩ := hp
  rw [e2] at hw
  rw [e1]
  refine lv_iload hx hb dL_law_446 (lv_at hl 0 rfl) ?_
  refine lv_icmp_eq (tgt := 453) hx hb dL_law_448 (by decide) (fun _ => ?_) (fun c9 => absurd rfl c9)
  refine lv_goto (tgt := 1177) hx hb dL_law_453 (by decide) ?_
  exact kk9 (((x.1.1, x.1.2.1, x.1.2.2.1, sv (xs (si + 1))), x.2)) kk tt f4 _ _ ls (LwI.of (x := ((x.1.1, x.1.2.1, x.1.2.2.1, sv (xs (si + 1))), x.2)) (kk := kk) (tt := tt) hR1 ⟨_, _, _, _, _, _, _, _, _, _, _, _, _, _, _, _, _, _, hX2, hMk, hMb, hMw, hMt, hMp⟩ ⟨_, ho1⟩ ⟨_, hd1⟩ (hG.air ⟨hG.1.1, hG.1.2.1, hG.1.2.2.1, (in_np (sv_fin _).1 h1 k_0.1 k_1).1⟩) htt hTT) (Nat.le_add_right _ _) hw (lv_sub hl [1, 2, 3, 4, 5, 6] rfl)

set_option maxHeartbeats 4000000 in
set_option maxRecDepth 100000 in
theorem k_soak_1 {p : Program} {l : Launch} {e : Env} {s : State} {m : MethodId} {below : List Frame} {meth : Method} {c : Code} {G : va_G} {dA : Nat → ClassId} {b Ls si : Nat} {xs : Nat → Int32} {sa ad : Nat → Nat} {L : List Nat} {nl nb : Nat} {q qk : Nat → Option Nat} {x : sR} {kk : Nat → UInt64 × UInt64} {tt : sT} {f : Nat → va_E} {H : Heap} {locs : List Loc} {ls : Array Slot} {cells slots : Nat}  (hLC : LC p l s m c meth b Ls xs G dA sa ad L nl nb q qk) (hsi : si + 5 ≤ Ls) (hc1 : cells + 1 ≤ room_1.cells) (hs1 : slots + 6 ≤ room_1.slots) (hLI : LwI ad dA nl nb q qk x kk tt f) (hhr : x.2.2.2.2.2 < 2 ^ 29) (hw : ww G dA (fun z : Nat => s.heap.size ≤ z) s L f H locs) (hl : lv_has ls 10 [(0, .ref b), (1, .ref (ad 0)), (2, .ref (ad 16)), (3, .ref (ad 32)), (4, .ref (ad 33)), (5, .int (nI si))]) (hbad : xs (si + 1) < 0 ∨ nI nb ≤ xs (si + 1))
    (kk9 : ∀ (x2 : sR) (kk2 : Nat → UInt64 × UInt64) (tt2 : sT) (f2 : Nat → va_E) (H : Heap) (locs : List Loc) (ls : Array Slot), LwI ad dA nl nb q qk x2 kk2 tt2 f2 → x2.2.2.2.2.2 ≤ x.2.2.2.2.2 + 100 → ww G dA (fun z : Nat => s.heap.size ≤ z) s L f2 H locs → lv_has ls 10 [(0, .ref b), (1, .ref (ad 0)), (2, .ref (ad 16)), (3, .ref (ad 32)), (4, .ref (ad 33)), (5, .int (nI si))] → W p l e room_1 s m #[Value.ref b] below meth c H locs (cells + 1) (slots + 6) (lw_Z below #[Value.ref b] s) (F0 m 1177 ls [])) : W p l e room_1 s m #[Value.ref b] below meth c H locs cells slots (lw_Z below #[Value.ref b] s) (F0 m 456 ls []) := by
  obtain ⟨hx, hb, hml, hown, hts, hXs, hbl, hlt, hE, hC, hLs, hret, hlocks⟩ := hLC
  have hA : ∀ z : Nat, s.heap.size ≤ z → (fun z : Nat => s.heap.size ≤ z) z := fun _ h => h
  have hbA : ¬ (fun z : Nat => s.heap.size ≤ z) b := Nat.not_le.mpr hbl
  obtain ⟨hR, ⟨thr, hM⟩, ⟨o, ho⟩, ⟨od, hd⟩, hG, htt, hTT⟩ := hLI
  obtain ⟨pa, bad, num, RA, RB, TH, DE, KI, WE, NX, LI, LM, KE, TX, BW, TI, KV, DM, hX, hMk, hMb, hMw, hMt, hMp⟩ := hM
  refine lv_aload_n hx hb dL_law_456 rfl (lv_at hl 1 rfl) ?_
  refine lv_aload_n hx hb dL_law_457 rfl (lv_at hl 0 rfl) ?_
  refine lv_iload hx hb dL_law_458 (lv_at hl 5 rfl) ?_
  refine lv_iconst (v := 1) hx hb dL_law_460 (by decide) ?_
  refine lv_iadd hx hb dL_law_461 ?_
  rw [show nI si + 1 = nI (si + 1) from nI_add si 1]
  refine va_sld hx hb hXs hbl hbA hw.2.2.2 (vp_in_nI (show si + 1 < Ls by omega) (by omega)) dL_law_462 ?_
  rw [nI_clamp (show si + 1 < 2 ^ 31 by omega)]
  refine lv_aload_n hx hb dL_law_463 rfl (lv_at hl 0 rfl) ?_
  refine lv_iload hx hb dL_law_464 (lv_at hl 5 rfl) ?_
  refine lv_iconst (v := 2) hx hb dL_law_466 (by decide) ?_
  refine lv_iadd hx hb dL_law_467 ?_
  rw [show nI si + 2 = nI (si + 2) from nI_add si 2]
  refine va_sld hx hb hXs hbl hbA hw.2.2.2 (vp_in_nI (show si + 2 < Ls by omega) (by omega)) dL_law_468 ?_
  rw [nI_clamp (show si + 2 < 2 ^ 31 by omega)]
  refine lv_aload_n hx hb dL_law_469 rfl (lv_at hl 0 rfl) ?_
  refine lv_iload hx hb dL_law_470 (lv_at hl 5 rfl) ?_
  refine lv_iconst (v := 3) hx hb dL_law_472 (by decide) ?_
  refine lv_iadd hx hb dL_law_473 ?_
  rw [show nI si + 3 = nI (si + 3) from nI_add si 3]
  refine va_sld hx hb hXs hbl hbA hw.2.2.2 (vp_in_nI (show si + 3 < Ls by omega) (by omega)) dL_law_474 ?_
  rw [nI_clamp (show si + 3 < 2 ^ 31 by omega)]
  refine lv_i2d hx hb dL_law_475 ?_
  refine lv_ldc2d (v := 4593671619917905920) hx hb hown (hts (.constantDouble RL 75 (4593671619917905920)) (by decide +kernel)) dL_law_476 ?_
  refine lv_dmul hx hb dL_law_479 (sv_fin (xs (si + 3))).2 ?_
  refine kH (As := [.ref (ad 0), .int (xs (si + 1)), .int (xs (si + 2)), .double (sv (xs (si + 3)))]) (rest := []) ⟨hx, hb, hml, hown, hts⟩ (h_x1_X6_soak l hlt G dA sa L f ad (nl + 1) nb q qk x.1 x.2.1 x.2.2.1 x.2.2.2.1 kk tt x.2.2.2.2.1 x.2.2.2.2.2 (xs (si + 1)) (xs (si + 2)) (sv (xs (si + 3))) hC hR hbad) (vx_cwSW 4 hts gL_law_L_soak rfl rfl rfl (by decide +kernel) ⟨Nat.le_of_ble_eq_true rfl, Nat.le_of_ble_eq_true rfl⟩) hw hE hA rfl hl.1 rfl (Nat.le_of_ble_eq_true rfl) dL_law_480 ⟨hc1, hs1⟩ (fun r2 f1 H locs hp hw => ?_)
  obtain ⟨e1, e2⟩ := hp
  rw [e2] at hw
  rw [e1]
  refine lv_istore (lv' := [(6, .int 1), (0, .ref b), (1, .ref (ad 0)), (2, .ref (ad 16)), (3, .ref (ad 32)), (4, .ref (ad 33)), (5, .int (nI si))]) hx hb dL_law_483 hl (by decide) rfl (fun ls hl => ?_)
  refine lv_aload_n hx hb dL_law_485 rfl (lv_at hl 3 rfl) ?_
  refine lv_aload_n hx hb dL_law_486 rfl (lv_at hl 1 rfl) ?_
  refine lv_iload hx hb dL_law_487 (lv_at hl 6 rfl) ?_
  refine lv_iconst (v := 1) hx hb dL_law_489 (by decide) ?_
  refine lv_iadd hx hb dL_law_490 ?_
  rw [show nI si + 1 = nI (si + 1) from nI_add si 1]
  refine va_sld hx hb hXs hbl hbA hw.2.2.2 (vp_in_nI (show si + 1 < Ls by omega) (by omega)) dL_law_491 ?_
  rw [nI_clamp (show si + 1 < 2 ^ 31 by omega)]
  refine lv_aload_n hx hb dL_law_492 rfl (lv_at hl 1 rfl) ?_
  refine lv_iload hx hb dL_law_493 (lv_at hl 6 rfl) ?_
  refine lv_iconst (v := 2) hx hb dL_law_495 (by decide) ?_
  refine lv_iadd hx hb dL_law_496 ?_
  rw [show nI si + 2 = nI (si + 2) from nI_add si 2]
  refine va_sld hx hb hXs hbl hbA hw.2.2.2 (vp_in_nI (show si + 2 < Ls by omega) (by omega)) dL_law_497 ?_
  rw [nI_clamp (show si + 2 < 2 ^ 31 by omega)]
  refine lv_aload_n hx hb dL_law_498 rfl (lv_at hl 1 rfl) ?_
  refine lv_iload hx hb dL_law_499 (lv_at hl 6 rfl) ?_
  refine lv_iconst (v := 3) hx hb dL_law_501 (by decide) ?_
  refine lv_iadd hx hb dL_law_502 ?_
  rw [show nI si + 3 = nI (si + 3) from nI_add si 3]
  refine va_sld hx hb hXs hbl hbA hw.2.2.2 (vp_in_nI (show si + 3 < Ls by omega) (by omega)) dL_law_503 ?_
  rw [nI_clamp (show si + 3 < 2 ^ 31 by omega)]
  refine lv_i2d hx hb dL_law_504 ?_
  refine lv_ldc2d (v := 4593671619917905920) hx hb hown (hts (.constantDouble RL 75 (4593671619917905920)) (by decide +kernel)) dL_law_505 ?_
  refine lv_dmul hx hb dL_law_508 (sv_fin (xs (si + 3))).2 ?_
  refine kV_V (C := RX7) (T := TX7) (N := 31) (As := [.int (xs (si + 1)), .int (xs (si + 2)), .double (sv (xs (si + 3)))]) (rest := []) ⟨hx, hb, hml, hown, hts⟩ (t1_X7_soak l G dA L f ad (nl + 1) nb q qk ((x.1).1) ((x.1).2.1) ((x.1).2.2.1) ((x.1).2.2.2) ((x.2.1).1) ((x.2.1).2) x.2.2.2.2.2 tt.1 ((x.2.2.2.2.1).1) ((x.2.2.2.2.1).2.1) thr pa bad num RA RB TH DE KI WE NX LI LM KE TX BW TI KV DM f (xs (si + 1)) (xs (si + 2)) (sv (xs (si + 3))) hC hX (noL_t1 hbad)) (cwV 3 hts gL_law_X7_soak rfl rfl rfl (by decide +kernel) ⟨Nat.le_of_ble_eq_true rfl, Nat.le_of_ble_eq_true rfl⟩) hw hA (hC.m (by decide)) hX.o rfl rfl hl.1 rfl (Nat.le_of_ble_eq_true rfl) dL_law_509 ⟨hc1, hs1⟩ (fun f3 H locs hp hw => ?_)
  have hX2 : MX ad dA (nl + 1) nb ((x.1).1) ((x.1).2.1) ((x.1).2.2.1) ((x.1).2.2.2) ((x.2.1).1) ((x.2.1).2) x.2.2.2.2.2 tt.1 ((x.2.2.2.2.1).1) ((x.2.2.2.2.1).2.1) 1 pa bad num RA RB TH DE KI WE NX LI LM KE TX BW TI KV DM f f3 := hp
  refine lv_aload_n hx hb dL_law_512 rfl (lv_at hl 3 rfl) ?_
  refine kV_I (C := RX7) (T := TX7) (N := 31) (As := []) (rest := []) ⟨hx, hb, hml, hown, hts⟩ (c_X7_thrown l G dA L f3 ad (nl + 1) nb q qk ((x.1).1) ((x.1).2.1) ((x.1).2.2.1) ((x.1).2.2.2) ((x.2.1).1) ((x.2.1).2) x.2.2.2.2.2 tt.1 ((x.2.2.2.2.1).1) ((x.2.2.2.2.1).2.1) 1 pa bad num RA RB TH DE KI WE NX LI LM KE TX BW TI KV DM f hC hX2) (cwV 0 hts gL_law_X7_thrown rfl rfl rfl (by decide +kernel) ⟨Nat.le_of_ble_eq_true rfl, Nat.le_of_ble_eq_true rfl⟩) hw hA (hC.m (by decide)) hX2.o rfl rfl hl.1 rfl (Nat.le_of_ble_eq_true rfl) dL_law_513 ⟨hc1, hs1⟩ (fun r5 f6 H locs hp hw => ?_)
  obtain ⟨e1, e2⟩ := hp
  rw [e2] at hw
  rw [e1]
  refine lv_iload hx hb dL_law_516 (lv_at hl 0 rfl) ?_
  refine lv_icmp_eq (tgt := 523) hx hb dL_law_518 (by decide) (fun _ => ?_) (fun c9 => absurd rfl c9)
  refine lv_goto (tgt := 1177) hx hb dL_law_523 (by decide) ?_
  exact kk9 x kk tt f3 _ _ ls (LwI.of (x := x) (kk := kk) (tt := tt) hR ⟨_, _, _, _, _, _, _, _, _, _, _, _, _, _, _, _, _, _, hX2, hMk, hMb, hMw, hMt, hMp⟩ ⟨_, ho⟩ ⟨_, hd⟩ hG htt hTT) (Nat.le_add_right _ _) hw (lv_sub hl [1, 2, 3, 4, 5, 6] rfl)

set_option maxHeartbeats 4000000 in
set_option maxRecDepth 100000 in
theorem k_soak_2 {p : Program} {l : Launch} {e : Env} {s : State} {m : MethodId} {below : List Frame} {meth : Method} {c : Code} {G : va_G} {dA : Nat → ClassId} {b Ls si : Nat} {xs : Nat → Int32} {sa ad : Nat → Nat} {L : List Nat} {nl nb : Nat} {q qk : Nat → Option Nat} {x : sR} {kk : Nat → UInt64 × UInt64} {tt : sT} {f : Nat → va_E} {H : Heap} {locs : List Loc} {ls : Array Slot} {cells slots : Nat} (j : Nat) (hLC : LC p l s m c meth b Ls xs G dA sa ad L nl nb q qk) (hsi : si + 5 ≤ Ls) (hc1 : cells + 1 ≤ room_1.cells) (hs1 : slots + 6 ≤ room_1.slots) (hLI : LwI ad dA nl nb q qk x kk tt f) (hhr : x.2.2.2.2.2 < 2 ^ 29) (hw : ww G dA (fun z : Nat => s.heap.size ≤ z) s L f H locs) (hl : lv_has ls 10 [(0, .ref b), (1, .ref (ad 0)), (2, .ref (ad 16)), (3, .ref (ad 32)), (4, .ref (ad 33)), (5, .int (nI si))]) (hj : j < nb) (hj1 : xs (si + 1) = nI j) (hbad : xs (si + 2) < 0 ∨ nI (nl + 1) ≤ xs (si + 2))
    (kk9 : ∀ (x2 : sR) (kk2 : Nat → UInt64 × UInt64) (tt2 : sT) (f2 : Nat → va_E) (H : Heap) (locs : List Loc) (ls : Array Slot), LwI ad dA nl nb q qk x2 kk2 tt2 f2 → x2.2.2.2.2.2 ≤ x.2.2.2.2.2 + 100 → ww G dA (fun z : Nat => s.heap.size ≤ z) s L f2 H locs → lv_has ls 10 [(0, .ref b), (1, .ref (ad 0)), (2, .ref (ad 16)), (3, .ref (ad 32)), (4, .ref (ad 33)), (5, .int (nI si))] → W p l e room_1 s m #[Value.ref b] below meth c H locs (cells + 1) (slots + 6) (lw_Z below #[Value.ref b] s) (F0 m 1177 ls [])) : W p l e room_1 s m #[Value.ref b] below meth c H locs cells slots (lw_Z below #[Value.ref b] s) (F0 m 456 ls []) := by
  obtain ⟨hx, hb, hml, hown, hts, hXs, hbl, hlt, hE, hC, hLs, hret, hlocks⟩ := hLC
  have hA : ∀ z : Nat, s.heap.size ≤ z → (fun z : Nat => s.heap.size ≤ z) z := fun _ h => h
  have hbA : ¬ (fun z : Nat => s.heap.size ≤ z) b := Nat.not_le.mpr hbl
  obtain ⟨hR, ⟨thr, hM⟩, ⟨o, ho⟩, ⟨od, hd⟩, hG, htt, hTT⟩ := hLI
  obtain ⟨pa, bad, num, RA, RB, TH, DE, KI, WE, NX, LI, LM, KE, TX, BW, TI, KV, DM, hX, hMk, hMb, hMw, hMt, hMp⟩ := hM
  refine lv_aload_n hx hb dL_law_456 rfl (lv_at hl 1 rfl) ?_
  refine lv_aload_n hx hb dL_law_457 rfl (lv_at hl 0 rfl) ?_
  refine lv_iload hx hb dL_law_458 (lv_at hl 5 rfl) ?_
  refine lv_iconst (v := 1) hx hb dL_law_460 (by decide) ?_
  refine lv_iadd hx hb dL_law_461 ?_
  rw [show nI si + 1 = nI (si + 1) from nI_add si 1]
  refine va_sld hx hb hXs hbl hbA hw.2.2.2 (vp_in_nI (show si + 1 < Ls by omega) (by omega)) dL_law_462 ?_
  rw [nI_clamp (show si + 1 < 2 ^ 31 by omega)]
  rw [hj1]
  refine lv_aload_n hx hb dL_law_463 rfl (lv_at hl 0 rfl) ?_
  refine lv_iload hx hb dL_law_464 (lv_at hl 5 rfl) ?_
  refine lv_iconst (v := 2) hx hb dL_law_466 (by decide) ?_
  refine lv_iadd hx hb dL_law_467 ?_
  rw [show nI si + 2 = nI (si + 2) from nI_add si 2]
  refine va_sld hx hb hXs hbl hbA hw.2.2.2 (vp_in_nI (show si + 2 < Ls by omega) (by omega)) dL_law_468 ?_
  rw [nI_clamp (show si + 2 < 2 ^ 31 by omega)]
  refine lv_aload_n hx hb dL_law_469 rfl (lv_at hl 0 rfl) ?_
  refine lv_iload hx hb dL_law_470 (lv_at hl 5 rfl) ?_
  refine lv_iconst (v := 3) hx hb dL_law_472 (by decide) ?_
  refine lv_iadd hx hb dL_law_473 ?_
  rw [show nI si + 3 = nI (si + 3) from nI_add si 3]
  refine va_sld hx hb hXs hbl hbA hw.2.2.2 (vp_in_nI (show si + 3 < Ls by omega) (by omega)) dL_law_474 ?_
  rw [nI_clamp (show si + 3 < 2 ^ 31 by omega)]
  refine lv_i2d hx hb dL_law_475 ?_
  refine lv_ldc2d (v := 4593671619917905920) hx hb hown (hts (.constantDouble RL 75 (4593671619917905920)) (by decide +kernel)) dL_law_476 ?_
  refine lv_dmul hx hb dL_law_479 (sv_fin (xs (si + 3))).2 ?_
  refine kH (As := [.ref (ad 0), .int (nI j), .int (xs (si + 2)), .double (sv (xs (si + 3)))]) (rest := []) ⟨hx, hb, hml, hown, hts⟩ (h_x2_X6_soak l hlt G dA sa L f ad (nl + 1) nb q qk x.1 x.2.1 x.2.2.1 x.2.2.2.1 kk tt x.2.2.2.2.1 x.2.2.2.2.2 j (xs (si + 2)) (sv (xs (si + 3))) hC hR hj hbad) (vx_cwSW 4 hts gL_law_L_soak rfl rfl rfl (by decide +kernel) ⟨Nat.le_of_ble_eq_true rfl, Nat.le_of_ble_eq_true rfl⟩) hw hE hA rfl hl.1 rfl (Nat.le_of_ble_eq_true rfl) dL_law_480 ⟨hc1, hs1⟩ (fun r2 f1 H locs hp hw => ?_)
  obtain ⟨e1, e2⟩ := hp
  rw [e2] at hw
  rw [e1]
  refine lv_istore (lv' := [(6, .int 1), (0, .ref b), (1, .ref (ad 0)), (2, .ref (ad 16)), (3, .ref (ad 32)), (4, .ref (ad 33)), (5, .int (nI si))]) hx hb dL_law_483 hl (by decide) rfl (fun ls hl => ?_)
  refine lv_aload_n hx hb dL_law_485 rfl (lv_at hl 3 rfl) ?_
  refine lv_aload_n hx hb dL_law_486 rfl (lv_at hl 1 rfl) ?_
  refine lv_iload hx hb dL_law_487 (lv_at hl 6 rfl) ?_
  refine lv_iconst (v := 1) hx hb dL_law_489 (by decide) ?_
  refine lv_iadd hx hb dL_law_490 ?_
  rw [show nI si + 1 = nI (si + 1) from nI_add si 1]
  refine va_sld hx hb hXs hbl hbA hw.2.2.2 (vp_in_nI (show si + 1 < Ls by omega) (by omega)) dL_law_491 ?_
  rw [nI_clamp (show si + 1 < 2 ^ 31 by omega)]
  rw [hj1]
  refine lv_aload_n hx hb dL_law_492 rfl (lv_at hl 1 rfl) ?_
  refine lv_iload hx hb dL_law_493 (lv_at hl 6 rfl) ?_
  refine lv_iconst (v := 2) hx hb dL_law_495 (by decide) ?_
  refine lv_iadd hx hb dL_law_496 ?_
  rw [show nI si + 2 = nI (si + 2) from nI_add si 2]
  refine va_sld hx hb hXs hbl hbA hw.2.2.2 (vp_in_nI (show si + 2 < Ls by omega) (by omega)) dL_law_497 ?_
  rw [nI_clamp (show si + 2 < 2 ^ 31 by omega)]
  refine lv_aload_n hx hb dL_law_498 rfl (lv_at hl 1 rfl) ?_
  refine lv_iload hx hb dL_law_499 (lv_at hl 6 rfl) ?_
  refine lv_iconst (v := 3) hx hb dL_law_501 (by decide) ?_
  refine lv_iadd hx hb dL_law_502 ?_
  rw [show nI si + 3 = nI (si + 3) from nI_add si 3]
  refine va_sld hx hb hXs hbl hbA hw.2.2.2 (vp_in_nI (show si + 3 < Ls by omega) (by omega)) dL_law_503 ?_
  rw [nI_clamp (show si + 3 < 2 ^ 31 by omega)]
  refine lv_i2d hx hb dL_law_504 ?_
  refine lv_ldc2d (v := 4593671619917905920) hx hb hown (hts (.constantDouble RL 75 (4593671619917905920)) (by decide +kernel)) dL_law_505 ?_
  refine lv_dmul hx hb dL_law_508 (sv_fin (xs (si + 3))).2 ?_
  refine kV_V (C := RX7) (T := TX7) (N := 31) (As := [.int (nI j), .int (xs (si + 2)), .double (sv (xs (si + 3)))]) (rest := []) ⟨hx, hb, hml, hown, hts⟩ (t1_X7_soak l G dA L f ad (nl + 1) nb q qk ((x.1).1) ((x.1).2.1) ((x.1).2.2.1) ((x.1).2.2.2) ((x.2.1).1) ((x.2.1).2) x.2.2.2.2.2 tt.1 ((x.2.2.2.2.1).1) ((x.2.2.2.2.1).2.1) thr pa bad num RA RB TH DE KI WE NX LI LM KE TX BW TI KV DM f (nI j) (xs (si + 2)) (sv (xs (si + 3))) hC hX (noL_t2 hbad)) (cwV 3 hts gL_law_X7_soak rfl rfl rfl (by decide +kernel) ⟨Nat.le_of_ble_eq_true rfl, Nat.le_of_ble_eq_true rfl⟩) hw hA (hC.m (by decide)) hX.o rfl rfl hl.1 rfl (Nat.le_of_ble_eq_true rfl) dL_law_509 ⟨hc1, hs1⟩ (fun f3 H locs hp hw => ?_)
  have hX2 : MX ad dA (nl + 1) nb ((x.1).1) ((x.1).2.1) ((x.1).2.2.1) ((x.1).2.2.2) ((x.2.1).1) ((x.2.1).2) x.2.2.2.2.2 tt.1 ((x.2.2.2.2.1).1) ((x.2.2.2.2.1).2.1) 1 pa bad num RA RB TH DE KI WE NX LI LM KE TX BW TI KV DM f f3 := hp
  refine lv_aload_n hx hb dL_law_512 rfl (lv_at hl 3 rfl) ?_
  refine kV_I (C := RX7) (T := TX7) (N := 31) (As := []) (rest := []) ⟨hx, hb, hml, hown, hts⟩ (c_X7_thrown l G dA L f3 ad (nl + 1) nb q qk ((x.1).1) ((x.1).2.1) ((x.1).2.2.1) ((x.1).2.2.2) ((x.2.1).1) ((x.2.1).2) x.2.2.2.2.2 tt.1 ((x.2.2.2.2.1).1) ((x.2.2.2.2.1).2.1) 1 pa bad num RA RB TH DE KI WE NX LI LM KE TX BW TI KV DM f hC hX2) (cwV 0 hts gL_law_X7_thrown rfl rfl rfl (by decide +kernel) ⟨Nat.le_of_ble_eq_true rfl, Nat.le_of_ble_eq_true rfl⟩) hw hA (hC.m (by decide)) hX2.o rfl rfl hl.1 rfl (Nat.le_of_ble_eq_true rfl) dL_law_513 ⟨hc1, hs1⟩ (fun r5 f6 H locs hp hw => ?_)
  obtain ⟨e1, e2⟩ := hp
  rw [e2] at hw
  rw [e1]
  refine lv_iload hx hb dL_law_516 (lv_at hl 0 rfl) ?_
  refine lv_icmp_eq (tgt := 523) hx hb dL_law_518 (by decide) (fun _ => ?_) (fun c9 => absurd rfl c9)
  refine lv_goto (tgt := 1177) hx hb dL_law_523 (by decide) ?_
  exact kk9 x kk tt f3 _ _ ls (LwI.of (x := x) (kk := kk) (tt := tt) hR ⟨_, _, _, _, _, _, _, _, _, _, _, _, _, _, _, _, _, _, hX2, hMk, hMb, hMw, hMt, hMp⟩ ⟨_, ho⟩ ⟨_, hd⟩ hG htt hTT) (Nat.le_add_right _ _) hw (lv_sub hl [1, 2, 3, 4, 5, 6] rfl)

set_option maxHeartbeats 4000000 in
set_option maxRecDepth 100000 in
theorem k_soak_3 {p : Program} {l : Launch} {e : Env} {s : State} {m : MethodId} {below : List Frame} {meth : Method} {c : Code} {G : va_G} {dA : Nat → ClassId} {b Ls si : Nat} {xs : Nat → Int32} {sa ad : Nat → Nat} {L : List Nat} {nl nb : Nat} {q qk : Nat → Option Nat} {x : sR} {kk : Nat → UInt64 × UInt64} {tt : sT} {f : Nat → va_E} {H : Heap} {locs : List Loc} {ls : Array Slot} {cells slots : Nat} (j k : Nat) (hLC : LC p l s m c meth b Ls xs G dA sa ad L nl nb q qk) (hsi : si + 5 ≤ Ls) (hc1 : cells + 1 ≤ room_1.cells) (hs1 : slots + 6 ≤ room_1.slots) (hLI : LwI ad dA nl nb q qk x kk tt f) (hhr : x.2.2.2.2.2 < 2 ^ 29) (hw : ww G dA (fun z : Nat => s.heap.size ≤ z) s L f H locs) (hl : lv_has ls 10 [(0, .ref b), (1, .ref (ad 0)), (2, .ref (ad 16)), (3, .ref (ad 32)), (4, .ref (ad 33)), (5, .int (nI si))]) (hj : j < nb) (hj1 : xs (si + 1) = nI j) (hi : k < (nl + 1)) (hi1 : xs (si + 2) = nI k) (hbad : ¬ inR (sv (xs (si + 3))) FP.dconst0 4613937818241073152)
    (kk9 : ∀ (x2 : sR) (kk2 : Nat → UInt64 × UInt64) (tt2 : sT) (f2 : Nat → va_E) (H : Heap) (locs : List Loc) (ls : Array Slot), LwI ad dA nl nb q qk x2 kk2 tt2 f2 → x2.2.2.2.2.2 ≤ x.2.2.2.2.2 + 100 → ww G dA (fun z : Nat => s.heap.size ≤ z) s L f2 H locs → lv_has ls 10 [(0, .ref b), (1, .ref (ad 0)), (2, .ref (ad 16)), (3, .ref (ad 32)), (4, .ref (ad 33)), (5, .int (nI si))] → W p l e room_1 s m #[Value.ref b] below meth c H locs (cells + 1) (slots + 6) (lw_Z below #[Value.ref b] s) (F0 m 1177 ls [])) : W p l e room_1 s m #[Value.ref b] below meth c H locs cells slots (lw_Z below #[Value.ref b] s) (F0 m 456 ls []) := by
  obtain ⟨hx, hb, hml, hown, hts, hXs, hbl, hlt, hE, hC, hLs, hret, hlocks⟩ := hLC
  have hA : ∀ z : Nat, s.heap.size ≤ z → (fun z : Nat => s.heap.size ≤ z) z := fun _ h => h
  have hbA : ¬ (fun z : Nat => s.heap.size ≤ z) b := Nat.not_le.mpr hbl
  obtain ⟨hR, ⟨thr, hM⟩, ⟨o, ho⟩, ⟨od, hd⟩, hG, htt, hTT⟩ := hLI
  obtain ⟨pa, bad, num, RA, RB, TH, DE, KI, WE, NX, LI, LM, KE, TX, BW, TI, KV, DM, hX, hMk, hMb, hMw, hMt, hMp⟩ := hM
  refine lv_aload_n hx hb dL_law_456 rfl (lv_at hl 1 rfl) ?_
  refine lv_aload_n hx hb dL_law_457 rfl (lv_at hl 0 rfl) ?_
  refine lv_iload hx hb dL_law_458 (lv_at hl 5 rfl) ?_
  refine lv_iconst (v := 1) hx hb dL_law_460 (by decide) ?_
  refine lv_iadd hx hb dL_law_461 ?_
  rw [show nI si + 1 = nI (si + 1) from nI_add si 1]
  refine va_sld hx hb hXs hbl hbA hw.2.2.2 (vp_in_nI (show si + 1 < Ls by omega) (by omega)) dL_law_462 ?_
  rw [nI_clamp (show si + 1 < 2 ^ 31 by omega)]
  rw [hj1]
  refine lv_aload_n hx hb dL_law_463 rfl (lv_at hl 0 rfl) ?_
  refine lv_iload hx hb dL_law_464 (lv_at hl 5 rfl) ?_
  refine lv_iconst (v := 2) hx hb dL_law_466 (by decide) ?_
  refine lv_iadd hx hb dL_law_467 ?_
  rw [show nI si + 2 = nI (si + 2) from nI_add si 2]
  refine va_sld hx hb hXs hbl hbA hw.2.2.2 (vp_in_nI (show si + 2 < Ls by omega) (by omega)) dL_law_468 ?_
  rw [nI_clamp (show si + 2 < 2 ^ 31 by omega)]
  rw [hi1]
  refine lv_aload_n hx hb dL_law_469 rfl (lv_at hl 0 rfl) ?_
  refine lv_iload hx hb dL_law_470 (lv_at hl 5 rfl) ?_
  refine lv_iconst (v := 3) hx hb dL_law_472 (by decide) ?_
  refine lv_iadd hx hb dL_law_473 ?_
  rw [show nI si + 3 = nI (si + 3) from nI_add si 3]
  refine va_sld hx hb hXs hbl hbA hw.2.2.2 (vp_in_nI (show si + 3 < Ls by omega) (by omega)) dL_law_474 ?_
  rw [nI_clamp (show si + 3 < 2 ^ 31 by omega)]
  refine lv_i2d hx hb dL_law_475 ?_
  refine lv_ldc2d (v := 4593671619917905920) hx hb hown (hts (.constantDouble RL 75 (4593671619917905920)) (by decide +kernel)) dL_law_476 ?_
  refine lv_dmul hx hb dL_law_479 (sv_fin (xs (si + 3))).2 ?_
  refine kH (As := [.ref (ad 0), .int (nI j), .int (nI k), .double (sv (xs (si + 3)))]) (rest := []) ⟨hx, hb, hml, hown, hts⟩ (h_x3_X6_soak l hlt G dA sa L f ad (nl + 1) nb q qk x.1 x.2.1 x.2.2.1 x.2.2.2.1 kk tt x.2.2.2.2.1 x.2.2.2.2.2 j k (sv (xs (si + 3))) hC hR hj hi hbad) (vx_cwSW 4 hts gL_law_L_soak rfl rfl rfl (by decide +kernel) ⟨Nat.le_of_ble_eq_true rfl, Nat.le_of_ble_eq_true rfl⟩) hw hE hA rfl hl.1 rfl (Nat.le_of_ble_eq_true rfl) dL_law_480 ⟨hc1, hs1⟩ (fun r2 f1 H locs hp hw => ?_)
  obtain ⟨e1, e2⟩ := hp
  rw [e2] at hw
  rw [e1]
  refine lv_istore (lv' := [(6, .int 2), (0, .ref b), (1, .ref (ad 0)), (2, .ref (ad 16)), (3, .ref (ad 32)), (4, .ref (ad 33)), (5, .int (nI si))]) hx hb dL_law_483 hl (by decide) rfl (fun ls hl => ?_)
  refine lv_aload_n hx hb dL_law_485 rfl (lv_at hl 3 rfl) ?_
  refine lv_aload_n hx hb dL_law_486 rfl (lv_at hl 1 rfl) ?_
  refine lv_iload hx hb dL_law_487 (lv_at hl 6 rfl) ?_
  refine lv_iconst (v := 1) hx hb dL_law_489 (by decide) ?_
  refine lv_iadd hx hb dL_law_490 ?_
  rw [show nI si + 1 = nI (si + 1) from nI_add si 1]
  refine va_sld hx hb hXs hbl hbA hw.2.2.2 (vp_in_nI (show si + 1 < Ls by omega) (by omega)) dL_law_491 ?_
  rw [nI_clamp (show si + 1 < 2 ^ 31 by omega)]
  rw [hj1]
  refine lv_aload_n hx hb dL_law_492 rfl (lv_at hl 1 rfl) ?_
  refine lv_iload hx hb dL_law_493 (lv_at hl 6 rfl) ?_
  refine lv_iconst (v := 2) hx hb dL_law_495 (by decide) ?_
  refine lv_iadd hx hb dL_law_496 ?_
  rw [show nI si + 2 = nI (si + 2) from nI_add si 2]
  refine va_sld hx hb hXs hbl hbA hw.2.2.2 (vp_in_nI (show si + 2 < Ls by omega) (by omega)) dL_law_497 ?_
  rw [nI_clamp (show si + 2 < 2 ^ 31 by omega)]
  rw [hi1]
  refine lv_aload_n hx hb dL_law_498 rfl (lv_at hl 1 rfl) ?_
  refine lv_iload hx hb dL_law_499 (lv_at hl 6 rfl) ?_
  refine lv_iconst (v := 3) hx hb dL_law_501 (by decide) ?_
  refine lv_iadd hx hb dL_law_502 ?_
  rw [show nI si + 3 = nI (si + 3) from nI_add si 3]
  refine va_sld hx hb hXs hbl hbA hw.2.2.2 (vp_in_nI (show si + 3 < Ls by omega) (by omega)) dL_law_503 ?_
  rw [nI_clamp (show si + 3 < 2 ^ 31 by omega)]
  refine lv_i2d hx hb dL_law_504 ?_
  refine lv_ldc2d (v := 4593671619917905920) hx hb hown (hts (.constantDouble RL 75 (4593671619917905920)) (by decide +kernel)) dL_law_505 ?_
  refine lv_dmul hx hb dL_law_508 (sv_fin (xs (si + 3))).2 ?_
  refine kV_V (C := RX7) (T := TX7) (N := 31) (As := [.int (nI j), .int (nI k), .double (sv (xs (si + 3)))]) (rest := []) ⟨hx, hb, hml, hown, hts⟩ (t2_X7_soak l G dA L f ad (nl + 1) nb q qk ((x.1).1) ((x.1).2.1) ((x.1).2.2.1) ((x.1).2.2.2) ((x.2.1).1) ((x.2.1).2) x.2.2.2.2.2 tt.1 ((x.2.2.2.2.1).1) ((x.2.2.2.2.1).2.1) thr pa bad num RA RB TH DE KI WE NX LI LM KE TX BW TI KV DM f (nI j) (nI k) (sv (xs (si + 3))) hC hX (noL_f hC.nb31 hC.n31 hj hi) (inB_f hbad)) (cwV 3 hts gL_law_X7_soak rfl rfl rfl (by decide +kernel) ⟨Nat.le_of_ble_eq_true rfl, Nat.le_of_ble_eq_true rfl⟩) hw hA (hC.m (by decide)) hX.o rfl rfl hl.1 rfl (Nat.le_of_ble_eq_true rfl) dL_law_509 ⟨hc1, hs1⟩ (fun f3 H locs hp hw => ?_)
  have hX2 : MX ad dA (nl + 1) nb ((x.1).1) ((x.1).2.1) ((x.1).2.2.1) ((x.1).2.2.2) ((x.2.1).1) ((x.2.1).2) x.2.2.2.2.2 tt.1 ((x.2.2.2.2.1).1) ((x.2.2.2.2.1).2.1) 2 pa bad num RA RB TH DE KI WE NX LI LM KE TX BW TI KV DM f f3 := hp
  refine lv_aload_n hx hb dL_law_512 rfl (lv_at hl 3 rfl) ?_
  refine kV_I (C := RX7) (T := TX7) (N := 31) (As := []) (rest := []) ⟨hx, hb, hml, hown, hts⟩ (c_X7_thrown l G dA L f3 ad (nl + 1) nb q qk ((x.1).1) ((x.1).2.1) ((x.1).2.2.1) ((x.1).2.2.2) ((x.2.1).1) ((x.2.1).2) x.2.2.2.2.2 tt.1 ((x.2.2.2.2.1).1) ((x.2.2.2.2.1).2.1) 2 pa bad num RA RB TH DE KI WE NX LI LM KE TX BW TI KV DM f hC hX2) (cwV 0 hts gL_law_X7_thrown rfl rfl rfl (by decide +kernel) ⟨Nat.le_of_ble_eq_true rfl, Nat.le_of_ble_eq_true rfl⟩) hw hA (hC.m (by decide)) hX2.o rfl rfl hl.1 rfl (Nat.le_of_ble_eq_true rfl) dL_law_513 ⟨hc1, hs1⟩ (fun r5 f6 H locs hp hw => ?_)
  obtain ⟨e1, e2⟩ := hp
  rw [e2] at hw
  rw [e1]
  refine lv_iload hx hb dL_law_516 (lv_at hl 0 rfl) ?_
  refine lv_icmp_eq (tgt := 523) hx hb dL_law_518 (by decide) (fun _ => ?_) (fun c9 => absurd rfl c9)
  refine lv_goto (tgt := 1177) hx hb dL_law_523 (by decide) ?_
  exact kk9 x kk tt f3 _ _ ls (LwI.of (x := x) (kk := kk) (tt := tt) hR ⟨_, _, _, _, _, _, _, _, _, _, _, _, _, _, _, _, _, _, hX2, hMk, hMb, hMw, hMt, hMp⟩ ⟨_, ho⟩ ⟨_, hd⟩ hG htt hTT) (Nat.le_add_right _ _) hw (lv_sub hl [1, 2, 3, 4, 5, 6] rfl)

set_option maxHeartbeats 4000000 in
set_option maxRecDepth 100000 in
theorem k_soak_4 {p : Program} {l : Launch} {e : Env} {s : State} {m : MethodId} {below : List Frame} {meth : Method} {c : Code} {G : va_G} {dA : Nat → ClassId} {b Ls si : Nat} {xs : Nat → Int32} {sa ad : Nat → Nat} {L : List Nat} {nl nb : Nat} {q qk : Nat → Option Nat} {x : sR} {kk : Nat → UInt64 × UInt64} {tt : sT} {f : Nat → va_E} {H : Heap} {locs : List Loc} {ls : Array Slot} {cells slots : Nat} (j k : Nat) (hLC : LC p l s m c meth b Ls xs G dA sa ad L nl nb q qk) (hsi : si + 5 ≤ Ls) (hc1 : cells + 1 ≤ room_1.cells) (hs1 : slots + 6 ≤ room_1.slots) (hLI : LwI ad dA nl nb q qk x kk tt f) (hhr : x.2.2.2.2.2 < 2 ^ 29) (hw : ww G dA (fun z : Nat => s.heap.size ≤ z) s L f H locs) (hl : lv_has ls 10 [(0, .ref b), (1, .ref (ad 0)), (2, .ref (ad 16)), (3, .ref (ad 32)), (4, .ref (ad 33)), (5, .int (nI si))]) (hj : j < nb) (hj1 : xs (si + 1) = nI j) (hi : k < (nl + 1)) (hi1 : xs (si + 2) = nI k) (h1 : inR (sv (xs (si + 3))) FP.dconst0 4613937818241073152) (hbad : (x.2.2.1 j).1 = 0)
    (kk9 : ∀ (x2 : sR) (kk2 : Nat → UInt64 × UInt64) (tt2 : sT) (f2 : Nat → va_E) (H : Heap) (locs : List Loc) (ls : Array Slot), LwI ad dA nl nb q qk x2 kk2 tt2 f2 → x2.2.2.2.2.2 ≤ x.2.2.2.2.2 + 100 → ww G dA (fun z : Nat => s.heap.size ≤ z) s L f2 H locs → lv_has ls 10 [(0, .ref b), (1, .ref (ad 0)), (2, .ref (ad 16)), (3, .ref (ad 32)), (4, .ref (ad 33)), (5, .int (nI si))] → W p l e room_1 s m #[Value.ref b] below meth c H locs (cells + 1) (slots + 6) (lw_Z below #[Value.ref b] s) (F0 m 1177 ls [])) : W p l e room_1 s m #[Value.ref b] below meth c H locs cells slots (lw_Z below #[Value.ref b] s) (F0 m 456 ls []) := by
  obtain ⟨hx, hb, hml, hown, hts, hXs, hbl, hlt, hE, hC, hLs, hret, hlocks⟩ := hLC
  have hA : ∀ z : Nat, s.heap.size ≤ z → (fun z : Nat => s.heap.size ≤ z) z := fun _ h => h
  have hbA : ¬ (fun z : Nat => s.heap.size ≤ z) b := Nat.not_le.mpr hbl
  obtain ⟨hR, ⟨thr, hM⟩, ⟨o, ho⟩, ⟨od, hd⟩, hG, htt, hTT⟩ := hLI
  obtain ⟨pa, bad, num, RA, RB, TH, DE, KI, WE, NX, LI, LM, KE, TX, BW, TI, KV, DM, hX, hMk, hMb, hMw, hMt, hMp⟩ := hM
  refine lv_aload_n hx hb dL_law_456 rfl (lv_at hl 1 rfl) ?_
  refine lv_aload_n hx hb dL_law_457 rfl (lv_at hl 0 rfl) ?_
  refine lv_iload hx hb dL_law_458 (lv_at hl 5 rfl) ?_
  refine lv_iconst (v := 1) hx hb dL_law_460 (by decide) ?_
  refine lv_iadd hx hb dL_law_461 ?_
  rw [show nI si + 1 = nI (si + 1) from nI_add si 1]
  refine va_sld hx hb hXs hbl hbA hw.2.2.2 (vp_in_nI (show si + 1 < Ls by omega) (by omega)) dL_law_462 ?_
  rw [nI_clamp (show si + 1 < 2 ^ 31 by omega)]
  rw [hj1]
  refine lv_aload_n hx hb dL_law_463 rfl (lv_at hl 0 rfl) ?_
  refine lv_iload hx hb dL_law_464 (lv_at hl 5 rfl) ?_
  refine lv_iconst (v := 2) hx hb dL_law_466 (by decide) ?_
  refine lv_iadd hx hb dL_law_467 ?_
  rw [show nI si + 2 = nI (si + 2) from nI_add si 2]
  refine va_sld hx hb hXs hbl hbA hw.2.2.2 (vp_in_nI (show si + 2 < Ls by omega) (by omega)) dL_law_468 ?_
  rw [nI_clamp (show si + 2 < 2 ^ 31 by omega)]
  rw [hi1]
  refine lv_aload_n hx hb dL_law_469 rfl (lv_at hl 0 rfl) ?_
  refine lv_iload hx hb dL_law_470 (lv_at hl 5 rfl) ?_
  refine lv_iconst (v := 3) hx hb dL_law_472 (by decide) ?_
  refine lv_iadd hx hb dL_law_473 ?_
  rw [show nI si + 3 = nI (si + 3) from nI_add si 3]
  refine va_sld hx hb hXs hbl hbA hw.2.2.2 (vp_in_nI (show si + 3 < Ls by omega) (by omega)) dL_law_474 ?_
  rw [nI_clamp (show si + 3 < 2 ^ 31 by omega)]
  refine lv_i2d hx hb dL_law_475 ?_
  refine lv_ldc2d (v := 4593671619917905920) hx hb hown (hts (.constantDouble RL 75 (4593671619917905920)) (by decide +kernel)) dL_law_476 ?_
  refine lv_dmul hx hb dL_law_479 (sv_fin (xs (si + 3))).2 ?_
  refine kH (As := [.ref (ad 0), .int (nI j), .int (nI k), .double (sv (xs (si + 3)))]) (rest := []) ⟨hx, hb, hml, hown, hts⟩ (h_x4_X6_soak l hlt G dA sa L f ad (nl + 1) nb q qk x.1 x.2.1 x.2.2.1 x.2.2.2.1 kk tt x.2.2.2.2.1 x.2.2.2.2.2 j k (sv (xs (si + 3))) hC hR hj hi h1 hbad) (vx_cwSW 4 hts gL_law_L_soak rfl rfl rfl (by decide +kernel) ⟨Nat.le_of_ble_eq_true rfl, Nat.le_of_ble_eq_true rfl⟩) hw hE hA rfl hl.1 rfl (Nat.le_of_ble_eq_true rfl) dL_law_480 ⟨hc1, hs1⟩ (fun r2 f1 H locs hp hw => ?_)
  obtain ⟨e1, e2⟩ := hp
  rw [e2] at hw
  rw [e1]
  refine lv_istore (lv' := [(6, .int 3), (0, .ref b), (1, .ref (ad 0)), (2, .ref (ad 16)), (3, .ref (ad 32)), (4, .ref (ad 33)), (5, .int (nI si))]) hx hb dL_law_483 hl (by decide) rfl (fun ls hl => ?_)
  refine lv_aload_n hx hb dL_law_485 rfl (lv_at hl 3 rfl) ?_
  refine lv_aload_n hx hb dL_law_486 rfl (lv_at hl 1 rfl) ?_
  refine lv_iload hx hb dL_law_487 (lv_at hl 6 rfl) ?_
  refine lv_iconst (v := 1) hx hb dL_law_489 (by decide) ?_
  refine lv_iadd hx hb dL_law_490 ?_
  rw [show nI si + 1 = nI (si + 1) from nI_add si 1]
  refine va_sld hx hb hXs hbl hbA hw.2.2.2 (vp_in_nI (show si + 1 < Ls by omega) (by omega)) dL_law_491 ?_
  rw [nI_clamp (show si + 1 < 2 ^ 31 by omega)]
  rw [hj1]
  refine lv_aload_n hx hb dL_law_492 rfl (lv_at hl 1 rfl) ?_
  refine lv_iload hx hb dL_law_493 (lv_at hl 6 rfl) ?_
  refine lv_iconst (v := 2) hx hb dL_law_495 (by decide) ?_
  refine lv_iadd hx hb dL_law_496 ?_
  rw [show nI si + 2 = nI (si + 2) from nI_add si 2]
  refine va_sld hx hb hXs hbl hbA hw.2.2.2 (vp_in_nI (show si + 2 < Ls by omega) (by omega)) dL_law_497 ?_
  rw [nI_clamp (show si + 2 < 2 ^ 31 by omega)]
  rw [hi1]
  refine lv_aload_n hx hb dL_law_498 rfl (lv_at hl 1 rfl) ?_
  refine lv_iload hx hb dL_law_499 (lv_at hl 6 rfl) ?_
  refine lv_iconst (v := 3) hx hb dL_law_501 (by decide) ?_
  refine lv_iadd hx hb dL_law_502 ?_
  rw [show nI si + 3 = nI (si + 3) from nI_add si 3]
  refine va_sld hx hb hXs hbl hbA hw.2.2.2 (vp_in_nI (show si + 3 < Ls by omega) (by omega)) dL_law_503 ?_
  rw [nI_clamp (show si + 3 < 2 ^ 31 by omega)]
  refine lv_i2d hx hb dL_law_504 ?_
  refine lv_ldc2d (v := 4593671619917905920) hx hb hown (hts (.constantDouble RL 75 (4593671619917905920)) (by decide +kernel)) dL_law_505 ?_
  refine lv_dmul hx hb dL_law_508 (sv_fin (xs (si + 3))).2 ?_
  refine kV_V (C := RX7) (T := TX7) (N := 31) (As := [.int (nI j), .int (nI k), .double (sv (xs (si + 3)))]) (rest := []) ⟨hx, hb, hml, hown, hts⟩ (t3_X7_soak l G dA L f ad (nl + 1) nb q qk ((x.1).1) ((x.1).2.1) ((x.1).2.2.1) ((x.1).2.2.2) ((x.2.1).1) ((x.2.1).2) x.2.2.2.2.2 tt.1 ((x.2.2.2.2.1).1) ((x.2.2.2.2.1).2.1) thr pa bad num RA RB TH DE KI WE NX LI LM KE TX BW TI KV DM f j k (sv (xs (si + 3))) hC hX hj hi (inB_t h1) ((hMb j hj).1.trans hbad)) (cwV 3 hts gL_law_X7_soak rfl rfl rfl (by decide +kernel) ⟨Nat.le_of_ble_eq_true rfl, Nat.le_of_ble_eq_true rfl⟩) hw hA (hC.m (by decide)) hX.o rfl rfl hl.1 rfl (Nat.le_of_ble_eq_true rfl) dL_law_509 ⟨hc1, hs1⟩ (fun f3 H locs hp hw => ?_)
  have hX2 : MX ad dA (nl + 1) nb ((x.1).1) ((x.1).2.1) ((x.1).2.2.1) ((x.1).2.2.2) ((x.2.1).1) ((x.2.1).2) x.2.2.2.2.2 tt.1 ((x.2.2.2.2.1).1) ((x.2.2.2.2.1).2.1) 3 pa bad num RA RB TH DE KI WE NX LI LM KE TX BW TI KV DM f f3 := hp
  refine lv_aload_n hx hb dL_law_512 rfl (lv_at hl 3 rfl) ?_
  refine kV_I (C := RX7) (T := TX7) (N := 31) (As := []) (rest := []) ⟨hx, hb, hml, hown, hts⟩ (c_X7_thrown l G dA L f3 ad (nl + 1) nb q qk ((x.1).1) ((x.1).2.1) ((x.1).2.2.1) ((x.1).2.2.2) ((x.2.1).1) ((x.2.1).2) x.2.2.2.2.2 tt.1 ((x.2.2.2.2.1).1) ((x.2.2.2.2.1).2.1) 3 pa bad num RA RB TH DE KI WE NX LI LM KE TX BW TI KV DM f hC hX2) (cwV 0 hts gL_law_X7_thrown rfl rfl rfl (by decide +kernel) ⟨Nat.le_of_ble_eq_true rfl, Nat.le_of_ble_eq_true rfl⟩) hw hA (hC.m (by decide)) hX2.o rfl rfl hl.1 rfl (Nat.le_of_ble_eq_true rfl) dL_law_513 ⟨hc1, hs1⟩ (fun r5 f6 H locs hp hw => ?_)
  obtain ⟨e1, e2⟩ := hp
  rw [e2] at hw
  rw [e1]
  refine lv_iload hx hb dL_law_516 (lv_at hl 0 rfl) ?_
  refine lv_icmp_eq (tgt := 523) hx hb dL_law_518 (by decide) (fun _ => ?_) (fun c9 => absurd rfl c9)
  refine lv_goto (tgt := 1177) hx hb dL_law_523 (by decide) ?_
  exact kk9 x kk tt f3 _ _ ls (LwI.of (x := x) (kk := kk) (tt := tt) hR ⟨_, _, _, _, _, _, _, _, _, _, _, _, _, _, _, _, _, _, hX2, hMk, hMb, hMw, hMt, hMp⟩ ⟨_, ho⟩ ⟨_, hd⟩ hG htt hTT) (Nat.le_add_right _ _) hw (lv_sub hl [1, 2, 3, 4, 5, 6] rfl)

set_option maxHeartbeats 4000000 in
set_option maxRecDepth 100000 in
theorem k_soak_0 {p : Program} {l : Launch} {e : Env} {s : State} {m : MethodId} {below : List Frame} {meth : Method} {c : Code} {G : va_G} {dA : Nat → ClassId} {b Ls si : Nat} {xs : Nat → Int32} {sa ad : Nat → Nat} {L : List Nat} {nl nb : Nat} {q qk : Nat → Option Nat} {x : sR} {kk : Nat → UInt64 × UInt64} {tt : sT} {f : Nat → va_E} {H : Heap} {locs : List Loc} {ls : Array Slot} {cells slots : Nat} (j k : Nat) (hLC : LC p l s m c meth b Ls xs G dA sa ad L nl nb q qk) (hsi : si + 5 ≤ Ls) (hc1 : cells + 1 ≤ room_1.cells) (hs1 : slots + 6 ≤ room_1.slots) (hLI : LwI ad dA nl nb q qk x kk tt f) (hhr : x.2.2.2.2.2 < 2 ^ 29) (hw : ww G dA (fun z : Nat => s.heap.size ≤ z) s L f H locs) (hl : lv_has ls 10 [(0, .ref b), (1, .ref (ad 0)), (2, .ref (ad 16)), (3, .ref (ad 32)), (4, .ref (ad 33)), (5, .int (nI si))]) (hj : j < nb) (hj1 : xs (si + 1) = nI j) (hi : k < (nl + 1)) (hi1 : xs (si + 2) = nI k) (h1 : inR (sv (xs (si + 3))) FP.dconst0 4613937818241073152) (hth : ¬ (x.2.2.1 j).1 = 0)
    (kk9 : ∀ (x2 : sR) (kk2 : Nat → UInt64 × UInt64) (tt2 : sT) (f2 : Nat → va_E) (H : Heap) (locs : List Loc) (ls : Array Slot), LwI ad dA nl nb q qk x2 kk2 tt2 f2 → x2.2.2.2.2.2 ≤ x.2.2.2.2.2 + 100 → ww G dA (fun z : Nat => s.heap.size ≤ z) s L f2 H locs → lv_has ls 10 [(0, .ref b), (1, .ref (ad 0)), (2, .ref (ad 16)), (3, .ref (ad 32)), (4, .ref (ad 33)), (5, .int (nI si))] → W p l e room_1 s m #[Value.ref b] below meth c H locs (cells + 1) (slots + 6) (lw_Z below #[Value.ref b] s) (F0 m 1177 ls [])) : W p l e room_1 s m #[Value.ref b] below meth c H locs cells slots (lw_Z below #[Value.ref b] s) (F0 m 456 ls []) := by
  obtain ⟨hx, hb, hml, hown, hts, hXs, hbl, hlt, hE, hC, hLs, hret, hlocks⟩ := hLC
  have hA : ∀ z : Nat, s.heap.size ≤ z → (fun z : Nat => s.heap.size ≤ z) z := fun _ h => h
  have hbA : ¬ (fun z : Nat => s.heap.size ≤ z) b := Nat.not_le.mpr hbl
  obtain ⟨hR, ⟨thr, hM⟩, ⟨o, ho⟩, ⟨od, hd⟩, hG, htt, hTT⟩ := hLI
  obtain ⟨pa, bad, num, RA, RB, TH, DE, KI, WE, NX, LI, LM, KE, TX, BW, TI, KV, DM, hX, hMk, hMb, hMw, hMt, hMp⟩ := hM
  refine lv_aload_n hx hb dL_law_456 rfl (lv_at hl 1 rfl) ?_
  refine lv_aload_n hx hb dL_law_457 rfl (lv_at hl 0 rfl) ?_
  refine lv_iload hx hb dL_law_458 (lv_at hl 5 rfl) ?_
  refine lv_iconst (v := 1) hx hb dL_law_460 (by decide) ?_
  refine lv_iadd hx hb dL_law_461 ?_
  rw [show nI si + 1 = nI (si + 1) from nI_add si 1]
  refine va_sld hx hb hXs hbl hbA hw.2.2.2 (vp_in_nI (show si + 1 < Ls by omega) (by omega)) dL_law_462 ?_
  rw [nI_clamp (show si + 1 < 2 ^ 31 by omega)]
  rw [hj1]
  refine lv_aload_n hx hb dL_law_463 rfl (lv_at hl 0 rfl) ?_
  refine lv_iload hx hb dL_law_464 (lv_at hl 5 rfl) ?_
  refine lv_iconst (v := 2) hx hb dL_law_466 (by decide) ?_
  refine lv_iadd hx hb dL_law_467 ?_
  rw [show nI si + 2 = nI (si + 2) from nI_add si 2]
  refine va_sld hx hb hXs hbl hbA hw.2.2.2 (vp_in_nI (show si + 2 < Ls by omega) (by omega)) dL_law_468 ?_
  rw [nI_clamp (show si + 2 < 2 ^ 31 by omega)]
  rw [hi1]
  refine lv_aload_n hx hb dL_law_469 rfl (lv_at hl 0 rfl) ?_
  refine lv_iload hx hb dL_law_470 (lv_at hl 5 rfl) ?_
  refine lv_iconst (v := 3) hx hb dL_law_472 (by decide) ?_
  refine lv_iadd hx hb dL_law_473 ?_
  rw [show nI si + 3 = nI (si + 3) from nI_add si 3]
  refine va_sld hx hb hXs hbl hbA hw.2.2.2 (vp_in_nI (show si + 3 < Ls by omega) (by omega)) dL_law_474 ?_
  rw [nI_clamp (show si + 3 < 2 ^ 31 by omega)]
  refine lv_i2d hx hb dL_law_475 ?_
  refine lv_ldc2d (v := 4593671619917905920) hx hb hown (hts (.constantDouble RL 75 (4593671619917905920)) (by decide +kernel)) dL_law_476 ?_
  refine lv_dmul hx hb dL_law_479 (sv_fin (xs (si + 3))).2 ?_
  refine kH (As := [.ref (ad 0), .int (nI j), .int (nI k), .double (sv (xs (si + 3)))]) (rest := []) ⟨hx, hb, hml, hown, hts⟩ (h_c_X6_soak l hlt G dA sa L f ad (nl + 1) nb q qk x.1 x.2.1 x.2.2.1 x.2.2.2.1 kk tt x.2.2.2.2.1 x.2.2.2.2.2 j k (sv (xs (si + 3))) hC hR hj hi h1 hth) (vx_cwSW 4 hts gL_law_L_soak rfl rfl rfl (by decide +kernel) ⟨Nat.le_of_ble_eq_true rfl, Nat.le_of_ble_eq_true rfl⟩) hw hE hA rfl hl.1 rfl (Nat.le_of_ble_eq_true rfl) dL_law_480 ⟨hc1, hs1⟩ (fun r2 f1 H locs hp hw => ?_)
  obtain ⟨e1, hp⟩ := hp
  rw [e1]
  have hR1 : RC ad dA (nl + 1) nb q qk x.1 x.2.1 x.2.2.1 (va_up x.2.2.2.1 j (vf_upd (x.2.2.2.1 j) k (sv (xs (si + 3))))) kk tt x.2.2.2.2.1 x.2.2.2.2.2 f f1 := hp
  have hX3 : MX ad dA (nl + 1) nb ((x.1).1) ((x.1).2.1) ((x.1).2.2.1) ((x.1).2.2.2) ((x.2.1).1) ((x.2.1).2) x.2.2.2.2.2 tt.1 ((x.2.2.2.2.1).1) ((x.2.2.2.2.1).2.1) thr pa bad num RA RB TH DE KI WE NX LI LM KE TX BW TI KV DM f1 f1 := hX.mv (fun i h1 h2 => hR1.fr h1 (by omega)) (fun _ _ _ => rfl)
  have ho1 : f1 (ad 32) = aL (dA 4) 1 o := (hR1.fr (by omega) (by omega)).trans ho
  have hd1 : f1 (ad 33) = aD (dA 1) 1 od := (hR1.fr (by omega) (by omega)).trans hd
  refine lv_istore (lv' := [(6, .int 0), (0, .ref b), (1, .ref (ad 0)), (2, .ref (ad 16)), (3, .ref (ad 32)), (4, .ref (ad 33)), (5, .int (nI si))]) hx hb dL_law_483 hl (by decide) rfl (fun ls hl => ?_)
  refine lv_aload_n hx hb dL_law_485 rfl (lv_at hl 3 rfl) ?_
  refine lv_aload_n hx hb dL_law_486 rfl (lv_at hl 1 rfl) ?_
  refine lv_iload hx hb dL_law_487 (lv_at hl 6 rfl) ?_
  refine lv_iconst (v := 1) hx hb dL_law_489 (by decide) ?_
  refine lv_iadd hx hb dL_law_490 ?_
  rw [show nI si + 1 = nI (si + 1) from nI_add si 1]
  refine va_sld hx hb hXs hbl hbA hw.2.2.2 (vp_in_nI (show si + 1 < Ls by omega) (by omega)) dL_law_491 ?_
  rw [nI_clamp (show si + 1 < 2 ^ 31 by omega)]
  rw [hj1]
  refine lv_aload_n hx hb dL_law_492 rfl (lv_at hl 1 rfl) ?_
  refine lv_iload hx hb dL_law_493 (lv_at hl 6 rfl) ?_
  refine lv_iconst (v := 2) hx hb dL_law_495 (by decide) ?_
  refine lv_iadd hx hb dL_law_496 ?_
  rw [show nI si + 2 = nI (si + 2) from nI_add si 2]
  refine va_sld hx hb hXs hbl hbA hw.2.2.2 (vp_in_nI (show si + 2 < Ls by omega) (by omega)) dL_law_497 ?_
  rw [nI_clamp (show si + 2 < 2 ^ 31 by omega)]
  rw [hi1]
  refine lv_aload_n hx hb dL_law_498 rfl (lv_at hl 1 rfl) ?_
  refine lv_iload hx hb dL_law_499 (lv_at hl 6 rfl) ?_
  refine lv_iconst (v := 3) hx hb dL_law_501 (by decide) ?_
  refine lv_iadd hx hb dL_law_502 ?_
  rw [show nI si + 3 = nI (si + 3) from nI_add si 3]
  refine va_sld hx hb hXs hbl hbA hw.2.2.2 (vp_in_nI (show si + 3 < Ls by omega) (by omega)) dL_law_503 ?_
  rw [nI_clamp (show si + 3 < 2 ^ 31 by omega)]
  refine lv_i2d hx hb dL_law_504 ?_
  refine lv_ldc2d (v := 4593671619917905920) hx hb hown (hts (.constantDouble RL 75 (4593671619917905920)) (by decide +kernel)) dL_law_505 ?_
  refine lv_dmul hx hb dL_law_508 (sv_fin (xs (si + 3))).2 ?_
  refine kV_V (C := RX7) (T := TX7) (N := 31) (As := [.int (nI j), .int (nI k), .double (sv (xs (si + 3)))]) (rest := []) ⟨hx, hb, hml, hown, hts⟩ (c_X7_soak l G dA L f1 ad (nl + 1) nb q qk ((x.1).1) ((x.1).2.1) ((x.1).2.2.1) ((x.1).2.2.2) ((x.2.1).1) ((x.2.1).2) x.2.2.2.2.2 tt.1 ((x.2.2.2.2.1).1) ((x.2.2.2.2.1).2.1) thr pa bad num RA RB TH DE KI WE NX LI LM KE TX BW TI KV DM f1 j k (sv (xs (si + 3))) hC hX3 hj hi (inB_t h1) (fun h => hth ((hMb j hj).1.symm.trans h))) (cwV 3 hts gL_law_X7_soak rfl rfl rfl (by decide +kernel) ⟨Nat.le_of_ble_eq_true rfl, Nat.le_of_ble_eq_true rfl⟩) hw hA (hC.m (by decide)) hX3.o rfl rfl hl.1 rfl (Nat.le_of_ble_eq_true rfl) dL_law_509 ⟨hc1, hs1⟩ (fun f4 H locs hp hw => ?_)
  have hX2 : MX ad dA (nl + 1) nb ((x.1).1) ((x.1).2.1) ((x.1).2.2.1) ((x.1).2.2.2) ((x.2.1).1) ((x.2.1).2) x.2.2.2.2.2 tt.1 ((x.2.2.2.2.1).1) ((x.2.2.2.2.1).2.1) 0 pa bad num RA RB TH DE KI (vf_upd WE (16 * j + k) (sv (xs (si + 3)))) NX LI LM KE TX BW TI KV DM f1 f4 := hp
  refine lv_aload_n hx hb dL_law_512 rfl (lv_at hl 3 rfl) ?_
  refine kV_I (C := RX7) (T := TX7) (N := 31) (As := []) (rest := []) ⟨hx, hb, hml, hown, hts⟩ (c_X7_thrown l G dA L f4 ad (nl + 1) nb q qk ((x.1).1) ((x.1).2.1) ((x.1).2.2.1) ((x.1).2.2.2) ((x.2.1).1) ((x.2.1).2) x.2.2.2.2.2 tt.1 ((x.2.2.2.2.1).1) ((x.2.2.2.2.1).2.1) 0 pa bad num RA RB TH DE KI (vf_upd WE (16 * j + k) (sv (xs (si + 3)))) NX LI LM KE TX BW TI KV DM f1 hC hX2) (cwV 0 hts gL_law_X7_thrown rfl rfl rfl (by decide +kernel) ⟨Nat.le_of_ble_eq_true rfl, Nat.le_of_ble_eq_true rfl⟩) hw hA (hC.m (by decide)) hX2.o rfl rfl hl.1 rfl (Nat.le_of_ble_eq_true rfl) dL_law_513 ⟨hc1, hs1⟩ (fun r6 f7 H locs hp hw => ?_)
  obtain ⟨e1, e2⟩ := hp
  rw [e2] at hw
  rw [e1]
  refine lv_iload hx hb dL_law_516 (lv_at hl 0 rfl) ?_
  refine lv_icmp_eq (tgt := 523) hx hb dL_law_518 (by decide) (fun _ => ?_) (fun c9 => absurd rfl c9)
  refine lv_goto (tgt := 1177) hx hb dL_law_523 (by decide) ?_
  exact kk9 ((x.1, x.2.1, x.2.2.1, va_up x.2.2.2.1 j (vf_upd (x.2.2.2.1 j) k (sv (xs (si + 3)))), x.2.2.2.2.1, x.2.2.2.2.2)) kk tt f4 _ _ ls (LwI.of (x := (x.1, x.2.1, x.2.2.1, va_up x.2.2.2.1 j (vf_upd (x.2.2.2.1 j) k (sv (xs (si + 3)))), x.2.2.2.2.1, x.2.2.2.2.2)) (kk := kk) (tt := tt) hR1 ⟨_, _, _, _, _, _, _, _, _, _, _, _, _, _, _, _, _, _, hX2, hMk, hMb, hMw.upd hC.2.2.1.2 hi, hMt, hMp⟩ ⟨_, ho1⟩ ⟨_, hd1⟩ (hG.soak (g_wet h1 _)) htt hTT) (Nat.le_add_right _ _) hw (lv_sub hl [1, 2, 3, 4, 5, 6] rfl)

set_option maxHeartbeats 4000000 in
set_option maxRecDepth 100000 in
theorem k_limit_1 {p : Program} {l : Launch} {e : Env} {s : State} {m : MethodId} {below : List Frame} {meth : Method} {c : Code} {G : va_G} {dA : Nat → ClassId} {b Ls si : Nat} {xs : Nat → Int32} {sa ad : Nat → Nat} {L : List Nat} {nl nb : Nat} {q qk : Nat → Option Nat} {x : sR} {kk : Nat → UInt64 × UInt64} {tt : sT} {f : Nat → va_E} {H : Heap} {locs : List Loc} {ls : Array Slot} {cells slots : Nat}  (hLC : LC p l s m c meth b Ls xs G dA sa ad L nl nb q qk) (hsi : si + 5 ≤ Ls) (hc1 : cells + 1 ≤ room_1.cells) (hs1 : slots + 6 ≤ room_1.slots) (hLI : LwI ad dA nl nb q qk x kk tt f) (hhr : x.2.2.2.2.2 < 2 ^ 29) (hw : ww G dA (fun z : Nat => s.heap.size ≤ z) s L f H locs) (hl : lv_has ls 10 [(0, .ref b), (1, .ref (ad 0)), (2, .ref (ad 16)), (3, .ref (ad 32)), (4, .ref (ad 33)), (5, .int (nI si))]) (hbad : xs (si + 1) < 0 ∨ nI nb ≤ xs (si + 1))
    (kk9 : ∀ (x2 : sR) (kk2 : Nat → UInt64 × UInt64) (tt2 : sT) (f2 : Nat → va_E) (H : Heap) (locs : List Loc) (ls : Array Slot), LwI ad dA nl nb q qk x2 kk2 tt2 f2 → x2.2.2.2.2.2 ≤ x.2.2.2.2.2 + 100 → ww G dA (fun z : Nat => s.heap.size ≤ z) s L f2 H locs → lv_has ls 10 [(0, .ref b), (1, .ref (ad 0)), (2, .ref (ad 16)), (3, .ref (ad 32)), (4, .ref (ad 33)), (5, .int (nI si))] → W p l e room_1 s m #[Value.ref b] below meth c H locs (cells + 1) (slots + 6) (lw_Z below #[Value.ref b] s) (F0 m 1177 ls [])) : W p l e room_1 s m #[Value.ref b] below meth c H locs cells slots (lw_Z below #[Value.ref b] s) (F0 m 620 ls []) := by
  obtain ⟨hx, hb, hml, hown, hts, hXs, hbl, hlt, hE, hC, hLs, hret, hlocks⟩ := hLC
  have hA : ∀ z : Nat, s.heap.size ≤ z → (fun z : Nat => s.heap.size ≤ z) z := fun _ h => h
  have hbA : ¬ (fun z : Nat => s.heap.size ≤ z) b := Nat.not_le.mpr hbl
  obtain ⟨hR, ⟨thr, hM⟩, ⟨o, ho⟩, ⟨od, hd⟩, hG, htt, hTT⟩ := hLI
  obtain ⟨pa, bad, num, RA, RB, TH, DE, KI, WE, NX, LI, LM, KE, TX, BW, TI, KV, DM, hX, hMk, hMb, hMw, hMt, hMp⟩ := hM
  refine lv_aload_n hx hb dL_law_620 rfl (lv_at hl 1 rfl) ?_
  refine lv_aload_n hx hb dL_law_621 rfl (lv_at hl 0 rfl) ?_
  refine lv_iload hx hb dL_law_622 (lv_at hl 5 rfl) ?_
  refine lv_iconst (v := 1) hx hb dL_law_624 (by decide) ?_
  refine lv_iadd hx hb dL_law_625 ?_
  rw [show nI si + 1 = nI (si + 1) from nI_add si 1]
  refine va_sld hx hb hXs hbl hbA hw.2.2.2 (vp_in_nI (show si + 1 < Ls by omega) (by omega)) dL_law_626 ?_
  rw [nI_clamp (show si + 1 < 2 ^ 31 by omega)]
  refine lv_aload_n hx hb dL_law_627 rfl (lv_at hl 0 rfl) ?_
  refine lv_iload hx hb dL_law_628 (lv_at hl 5 rfl) ?_
  refine lv_iconst (v := 2) hx hb dL_law_630 (by decide) ?_
  refine lv_iadd hx hb dL_law_631 ?_
  rw [show nI si + 2 = nI (si + 2) from nI_add si 2]
  refine va_sld hx hb hXs hbl hbA hw.2.2.2 (vp_in_nI (show si + 2 < Ls by omega) (by omega)) dL_law_632 ?_
  rw [nI_clamp (show si + 2 < 2 ^ 31 by omega)]
  refine lv_i2d hx hb dL_law_633 ?_
  refine lv_ldc2d (v := 4593671619917905920) hx hb hown (hts (.constantDouble RL 75 (4593671619917905920)) (by decide +kernel)) dL_law_634 ?_
  refine lv_dmul hx hb dL_law_637 (sv_fin (xs (si + 2))).2 ?_
  refine kH (As := [.ref (ad 0), .int (xs (si + 1)), .double (sv (xs (si + 2)))]) (rest := []) ⟨hx, hb, hml, hown, hts⟩ (h_x1_X6_limit l hlt G dA sa L f ad (nl + 1) nb q qk x.1 x.2.1 x.2.2.1 x.2.2.2.1 kk tt x.2.2.2.2.1 x.2.2.2.2.2 (xs (si + 1)) (sv (xs (si + 2))) hC hR hbad) (vx_cwSW 3 hts gL_law_L_limit rfl rfl rfl (by decide +kernel) ⟨Nat.le_of_ble_eq_true rfl, Nat.le_of_ble_eq_true rfl⟩) hw hE hA rfl hl.1 rfl (Nat.le_of_ble_eq_true rfl) dL_law_638 ⟨hc1, hs1⟩ (fun r2 f1 H locs hp hw => ?_)
  obtain ⟨e1, e2⟩ := hp
  rw [e2] at hw
  rw [e1]
  refine lv_istore (lv' := [(6, .int 1), (0, .ref b), (1, .ref (ad 0)), (2, .ref (ad 16)), (3, .ref (ad 32)), (4, .ref (ad 33)), (5, .int (nI si))]) hx hb dL_law_641 hl (by decide) rfl (fun ls hl => ?_)
  refine lv_aload_n hx hb dL_law_643 rfl (lv_at hl 3 rfl) ?_
  refine lv_aload_n hx hb dL_law_644 rfl (lv_at hl 1 rfl) ?_
  refine lv_iload hx hb dL_law_645 (lv_at hl 6 rfl) ?_
  refine lv_iconst (v := 1) hx hb dL_law_647 (by decide) ?_
  refine lv_iadd hx hb dL_law_648 ?_
  rw [show nI si + 1 = nI (si + 1) from nI_add si 1]
  refine va_sld hx hb hXs hbl hbA hw.2.2.2 (vp_in_nI (show si + 1 < Ls by omega) (by omega)) dL_law_649 ?_
  rw [nI_clamp (show si + 1 < 2 ^ 31 by omega)]
  refine lv_aload_n hx hb dL_law_650 rfl (lv_at hl 1 rfl) ?_
  refine lv_iload hx hb dL_law_651 (lv_at hl 6 rfl) ?_
  refine lv_iconst (v := 2) hx hb dL_law_653 (by decide) ?_
  refine lv_iadd hx hb dL_law_654 ?_
  rw [show nI si + 2 = nI (si + 2) from nI_add si 2]
  refine va_sld hx hb hXs hbl hbA hw.2.2.2 (vp_in_nI (show si + 2 < Ls by omega) (by omega)) dL_law_655 ?_
  rw [nI_clamp (show si + 2 < 2 ^ 31 by omega)]
  refine lv_i2d hx hb dL_law_656 ?_
  refine lv_ldc2d (v := 4593671619917905920) hx hb hown (hts (.constantDouble RL 75 (4593671619917905920)) (by decide +kernel)) dL_law_657 ?_
  refine lv_dmul hx hb dL_law_660 (sv_fin (xs (si + 2))).2 ?_
  refine kV_V (C := RX7) (T := TX7) (N := 31) (As := [.int (xs (si + 1)), .double (sv (xs (si + 2)))]) (rest := []) ⟨hx, hb, hml, hown, hts⟩ (t1_X7_limit l G dA L f ad (nl + 1) nb q qk ((x.1).1) ((x.1).2.1) ((x.1).2.2.1) ((x.1).2.2.2) ((x.2.1).1) ((x.2.1).2) x.2.2.2.2.2 tt.1 ((x.2.2.2.2.1).1) ((x.2.2.2.2.1).2.1) thr pa bad num RA RB TH DE KI WE NX LI LM KE TX BW TI KV DM f (xs (si + 1)) (sv (xs (si + 2))) hC hX (noB_t hbad)) (cwV 2 hts gL_law_X7_limit rfl rfl rfl (by decide +kernel) ⟨Nat.le_of_ble_eq_true rfl, Nat.le_of_ble_eq_true rfl⟩) hw hA (hC.m (by decide)) hX.o rfl rfl hl.1 rfl (Nat.le_of_ble_eq_true rfl) dL_law_661 ⟨hc1, hs1⟩ (fun f3 H locs hp hw => ?_)
  have hX2 : MX ad dA (nl + 1) nb ((x.1).1) ((x.1).2.1) ((x.1).2.2.1) ((x.1).2.2.2) ((x.2.1).1) ((x.2.1).2) x.2.2.2.2.2 tt.1 ((x.2.2.2.2.1).1) ((x.2.2.2.2.1).2.1) 1 pa bad num RA RB TH DE KI WE NX LI LM KE TX BW TI KV DM f f3 := hp
  refine lv_aload_n hx hb dL_law_664 rfl (lv_at hl 3 rfl) ?_
  refine kV_I (C := RX7) (T := TX7) (N := 31) (As := []) (rest := []) ⟨hx, hb, hml, hown, hts⟩ (c_X7_thrown l G dA L f3 ad (nl + 1) nb q qk ((x.1).1) ((x.1).2.1) ((x.1).2.2.1) ((x.1).2.2.2) ((x.2.1).1) ((x.2.1).2) x.2.2.2.2.2 tt.1 ((x.2.2.2.2.1).1) ((x.2.2.2.2.1).2.1) 1 pa bad num RA RB TH DE KI WE NX LI LM KE TX BW TI KV DM f hC hX2) (cwV 0 hts gL_law_X7_thrown rfl rfl rfl (by decide +kernel) ⟨Nat.le_of_ble_eq_true rfl, Nat.le_of_ble_eq_true rfl⟩) hw hA (hC.m (by decide)) hX2.o rfl rfl hl.1 rfl (Nat.le_of_ble_eq_true rfl) dL_law_665 ⟨hc1, hs1⟩ (fun r5 f6 H locs hp hw => ?_)
  obtain ⟨e1, e2⟩ := hp
  rw [e2] at hw
  rw [e1]
  refine lv_iload hx hb dL_law_668 (lv_at hl 0 rfl) ?_
  refine lv_icmp_eq (tgt := 675) hx hb dL_law_670 (by decide) (fun _ => ?_) (fun c9 => absurd rfl c9)
  refine lv_goto (tgt := 1177) hx hb dL_law_675 (by decide) ?_
  exact kk9 x kk tt f3 _ _ ls (LwI.of (x := x) (kk := kk) (tt := tt) hR ⟨_, _, _, _, _, _, _, _, _, _, _, _, _, _, _, _, _, _, hX2, hMk, hMb, hMw, hMt, hMp⟩ ⟨_, ho⟩ ⟨_, hd⟩ hG htt hTT) (Nat.le_add_right _ _) hw (lv_sub hl [1, 2, 3, 4, 5, 6] rfl)

set_option maxHeartbeats 4000000 in
set_option maxRecDepth 100000 in
theorem k_limit_2 {p : Program} {l : Launch} {e : Env} {s : State} {m : MethodId} {below : List Frame} {meth : Method} {c : Code} {G : va_G} {dA : Nat → ClassId} {b Ls si : Nat} {xs : Nat → Int32} {sa ad : Nat → Nat} {L : List Nat} {nl nb : Nat} {q qk : Nat → Option Nat} {x : sR} {kk : Nat → UInt64 × UInt64} {tt : sT} {f : Nat → va_E} {H : Heap} {locs : List Loc} {ls : Array Slot} {cells slots : Nat} (j : Nat) (hLC : LC p l s m c meth b Ls xs G dA sa ad L nl nb q qk) (hsi : si + 5 ≤ Ls) (hc1 : cells + 1 ≤ room_1.cells) (hs1 : slots + 6 ≤ room_1.slots) (hLI : LwI ad dA nl nb q qk x kk tt f) (hhr : x.2.2.2.2.2 < 2 ^ 29) (hw : ww G dA (fun z : Nat => s.heap.size ≤ z) s L f H locs) (hl : lv_has ls 10 [(0, .ref b), (1, .ref (ad 0)), (2, .ref (ad 16)), (3, .ref (ad 32)), (4, .ref (ad 33)), (5, .int (nI si))]) (hj : j < nb) (hj1 : xs (si + 1) = nI j) (hbad : ¬ (FP.dcmp (sv (xs (si + 2))) FP.dconst0 = some .gt ∨ FP.dcmp (sv (xs (si + 2))) FP.dconst0 = some .eq))
    (kk9 : ∀ (x2 : sR) (kk2 : Nat → UInt64 × UInt64) (tt2 : sT) (f2 : Nat → va_E) (H : Heap) (locs : List Loc) (ls : Array Slot), LwI ad dA nl nb q qk x2 kk2 tt2 f2 → x2.2.2.2.2.2 ≤ x.2.2.2.2.2 + 100 → ww G dA (fun z : Nat => s.heap.size ≤ z) s L f2 H locs → lv_has ls 10 [(0, .ref b), (1, .ref (ad 0)), (2, .ref (ad 16)), (3, .ref (ad 32)), (4, .ref (ad 33)), (5, .int (nI si))] → W p l e room_1 s m #[Value.ref b] below meth c H locs (cells + 1) (slots + 6) (lw_Z below #[Value.ref b] s) (F0 m 1177 ls [])) : W p l e room_1 s m #[Value.ref b] below meth c H locs cells slots (lw_Z below #[Value.ref b] s) (F0 m 620 ls []) := by
  obtain ⟨hx, hb, hml, hown, hts, hXs, hbl, hlt, hE, hC, hLs, hret, hlocks⟩ := hLC
  have hA : ∀ z : Nat, s.heap.size ≤ z → (fun z : Nat => s.heap.size ≤ z) z := fun _ h => h
  have hbA : ¬ (fun z : Nat => s.heap.size ≤ z) b := Nat.not_le.mpr hbl
  obtain ⟨hR, ⟨thr, hM⟩, ⟨o, ho⟩, ⟨od, hd⟩, hG, htt, hTT⟩ := hLI
  obtain ⟨pa, bad, num, RA, RB, TH, DE, KI, WE, NX, LI, LM, KE, TX, BW, TI, KV, DM, hX, hMk, hMb, hMw, hMt, hMp⟩ := hM
  refine lv_aload_n hx hb dL_law_620 rfl (lv_at hl 1 rfl) ?_
  refine lv_aload_n hx hb dL_law_621 rfl (lv_at hl 0 rfl) ?_
  refine lv_iload hx hb dL_law_622 (lv_at hl 5 rfl) ?_
  refine lv_iconst (v := 1) hx hb dL_law_624 (by decide) ?_
  refine lv_iadd hx hb dL_law_625 ?_
  rw [show nI si + 1 = nI (si + 1) from nI_add si 1]
  refine va_sld hx hb hXs hbl hbA hw.2.2.2 (vp_in_nI (show si + 1 < Ls by omega) (by omega)) dL_law_626 ?_
  rw [nI_clamp (show si + 1 < 2 ^ 31 by omega)]
  rw [hj1]
  refine lv_aload_n hx hb dL_law_627 rfl (lv_at hl 0 rfl) ?_
  refine lv_iload hx hb dL_law_628 (lv_at hl 5 rfl) ?_
  refine lv_iconst (v := 2) hx hb dL_law_630 (by decide) ?_
  refine lv_iadd hx hb dL_law_631 ?_
  rw [show nI si + 2 = nI (si + 2) from nI_add si 2]
  refine va_sld hx hb hXs hbl hbA hw.2.2.2 (vp_in_nI (show si + 2 < Ls by omega) (by omega)) dL_law_632 ?_
  rw [nI_clamp (show si + 2 < 2 ^ 31 by omega)]
  refine lv_i2d hx hb dL_law_633 ?_
  refine lv_ldc2d (v := 4593671619917905920) hx hb hown (hts (.constantDouble RL 75 (4593671619917905920)) (by decide +kernel)) dL_law_634 ?_
  refine lv_dmul hx hb dL_law_637 (sv_fin (xs (si + 2))).2 ?_
  refine kH (As := [.ref (ad 0), .int (nI j), .double (sv (xs (si + 2)))]) (rest := []) ⟨hx, hb, hml, hown, hts⟩ (h_x2_X6_limit l hlt G dA sa L f ad (nl + 1) nb q qk x.1 x.2.1 x.2.2.1 x.2.2.2.1 kk tt x.2.2.2.2.1 x.2.2.2.2.2 j (sv (xs (si + 2))) hC hR hj hbad) (vx_cwSW 3 hts gL_law_L_limit rfl rfl rfl (by decide +kernel) ⟨Nat.le_of_ble_eq_true rfl, Nat.le_of_ble_eq_true rfl⟩) hw hE hA rfl hl.1 rfl (Nat.le_of_ble_eq_true rfl) dL_law_638 ⟨hc1, hs1⟩ (fun r2 f1 H locs hp hw => ?_)
  obtain ⟨e1, e2⟩ := hp
  rw [e2] at hw
  rw [e1]
  refine lv_istore (lv' := [(6, .int 2), (0, .ref b), (1, .ref (ad 0)), (2, .ref (ad 16)), (3, .ref (ad 32)), (4, .ref (ad 33)), (5, .int (nI si))]) hx hb dL_law_641 hl (by decide) rfl (fun ls hl => ?_)
  refine lv_aload_n hx hb dL_law_643 rfl (lv_at hl 3 rfl) ?_
  refine lv_aload_n hx hb dL_law_644 rfl (lv_at hl 1 rfl) ?_
  refine lv_iload hx hb dL_law_645 (lv_at hl 6 rfl) ?_
  refine lv_iconst (v := 1) hx hb dL_law_647 (by decide) ?_
  refine lv_iadd hx hb dL_law_648 ?_
  rw [show nI si + 1 = nI (si + 1) from nI_add si 1]
  refine va_sld hx hb hXs hbl hbA hw.2.2.2 (vp_in_nI (show si + 1 < Ls by omega) (by omega)) dL_law_649 ?_
  rw [nI_clamp (show si + 1 < 2 ^ 31 by omega)]
  rw [hj1]
  refine lv_aload_n hx hb dL_law_650 rfl (lv_at hl 1 rfl) ?_
  refine lv_iload hx hb dL_law_651 (lv_at hl 6 rfl) ?_
  refine lv_iconst (v := 2) hx hb dL_law_653 (by decide) ?_
  refine lv_iadd hx hb dL_law_654 ?_
  rw [show nI si + 2 = nI (si + 2) from nI_add si 2]
  refine va_sld hx hb hXs hbl hbA hw.2.2.2 (vp_in_nI (show si + 2 < Ls by omega) (by omega)) dL_law_655 ?_
  rw [nI_clamp (show si + 2 < 2 ^ 31 by omega)]
  refine lv_i2d hx hb dL_law_656 ?_
  refine lv_ldc2d (v := 4593671619917905920) hx hb hown (hts (.constantDouble RL 75 (4593671619917905920)) (by decide +kernel)) dL_law_657 ?_
  refine lv_dmul hx hb dL_law_660 (sv_fin (xs (si + 2))).2 ?_
  refine kV_V (C := RX7) (T := TX7) (N := 31) (As := [.int (nI j), .double (sv (xs (si + 2)))]) (rest := []) ⟨hx, hb, hml, hown, hts⟩ (t2_X7_limit l G dA L f ad (nl + 1) nb q qk ((x.1).1) ((x.1).2.1) ((x.1).2.2.1) ((x.1).2.2.2) ((x.2.1).1) ((x.2.1).2) x.2.2.2.2.2 tt.1 ((x.2.2.2.2.1).1) ((x.2.2.2.2.1).2.1) thr pa bad num RA RB TH DE KI WE NX LI LM KE TX BW TI KV DM f (nI j) (sv (xs (si + 2))) hC hX (noB_f hC.nb31 hj) hbad) (cwV 2 hts gL_law_X7_limit rfl rfl rfl (by decide +kernel) ⟨Nat.le_of_ble_eq_true rfl, Nat.le_of_ble_eq_true rfl⟩) hw hA (hC.m (by decide)) hX.o rfl rfl hl.1 rfl (Nat.le_of_ble_eq_true rfl) dL_law_661 ⟨hc1, hs1⟩ (fun f3 H locs hp hw => ?_)
  have hX2 : MX ad dA (nl + 1) nb ((x.1).1) ((x.1).2.1) ((x.1).2.2.1) ((x.1).2.2.2) ((x.2.1).1) ((x.2.1).2) x.2.2.2.2.2 tt.1 ((x.2.2.2.2.1).1) ((x.2.2.2.2.1).2.1) 2 pa bad num RA RB TH DE KI WE NX LI LM KE TX BW TI KV DM f f3 := hp
  refine lv_aload_n hx hb dL_law_664 rfl (lv_at hl 3 rfl) ?_
  refine kV_I (C := RX7) (T := TX7) (N := 31) (As := []) (rest := []) ⟨hx, hb, hml, hown, hts⟩ (c_X7_thrown l G dA L f3 ad (nl + 1) nb q qk ((x.1).1) ((x.1).2.1) ((x.1).2.2.1) ((x.1).2.2.2) ((x.2.1).1) ((x.2.1).2) x.2.2.2.2.2 tt.1 ((x.2.2.2.2.1).1) ((x.2.2.2.2.1).2.1) 2 pa bad num RA RB TH DE KI WE NX LI LM KE TX BW TI KV DM f hC hX2) (cwV 0 hts gL_law_X7_thrown rfl rfl rfl (by decide +kernel) ⟨Nat.le_of_ble_eq_true rfl, Nat.le_of_ble_eq_true rfl⟩) hw hA (hC.m (by decide)) hX2.o rfl rfl hl.1 rfl (Nat.le_of_ble_eq_true rfl) dL_law_665 ⟨hc1, hs1⟩ (fun r5 f6 H locs hp hw => ?_)
  obtain ⟨e1, e2⟩ := hp
  rw [e2] at hw
  rw [e1]
  refine lv_iload hx hb dL_law_668 (lv_at hl 0 rfl) ?_
  refine lv_icmp_eq (tgt := 675) hx hb dL_law_670 (by decide) (fun _ => ?_) (fun c9 => absurd rfl c9)
  refine lv_goto (tgt := 1177) hx hb dL_law_675 (by decide) ?_
  exact kk9 x kk tt f3 _ _ ls (LwI.of (x := x) (kk := kk) (tt := tt) hR ⟨_, _, _, _, _, _, _, _, _, _, _, _, _, _, _, _, _, _, hX2, hMk, hMb, hMw, hMt, hMp⟩ ⟨_, ho⟩ ⟨_, hd⟩ hG htt hTT) (Nat.le_add_right _ _) hw (lv_sub hl [1, 2, 3, 4, 5, 6] rfl)

set_option maxHeartbeats 4000000 in
set_option maxRecDepth 100000 in
theorem k_limit_3 {p : Program} {l : Launch} {e : Env} {s : State} {m : MethodId} {below : List Frame} {meth : Method} {c : Code} {G : va_G} {dA : Nat → ClassId} {b Ls si : Nat} {xs : Nat → Int32} {sa ad : Nat → Nat} {L : List Nat} {nl nb : Nat} {q qk : Nat → Option Nat} {x : sR} {kk : Nat → UInt64 × UInt64} {tt : sT} {f : Nat → va_E} {H : Heap} {locs : List Loc} {ls : Array Slot} {cells slots : Nat} (j : Nat) (hLC : LC p l s m c meth b Ls xs G dA sa ad L nl nb q qk) (hsi : si + 5 ≤ Ls) (hc1 : cells + 1 ≤ room_1.cells) (hs1 : slots + 6 ≤ room_1.slots) (hLI : LwI ad dA nl nb q qk x kk tt f) (hhr : x.2.2.2.2.2 < 2 ^ 29) (hw : ww G dA (fun z : Nat => s.heap.size ≤ z) s L f H locs) (hl : lv_has ls 10 [(0, .ref b), (1, .ref (ad 0)), (2, .ref (ad 16)), (3, .ref (ad 32)), (4, .ref (ad 33)), (5, .int (nI si))]) (hj : j < nb) (hj1 : xs (si + 1) = nI j) (h1 : (FP.dcmp (sv (xs (si + 2))) FP.dconst0 = some .gt ∨ FP.dcmp (sv (xs (si + 2))) FP.dconst0 = some .eq)) (hbad : (x.2.2.1 j).1 = 0)
    (kk9 : ∀ (x2 : sR) (kk2 : Nat → UInt64 × UInt64) (tt2 : sT) (f2 : Nat → va_E) (H : Heap) (locs : List Loc) (ls : Array Slot), LwI ad dA nl nb q qk x2 kk2 tt2 f2 → x2.2.2.2.2.2 ≤ x.2.2.2.2.2 + 100 → ww G dA (fun z : Nat => s.heap.size ≤ z) s L f2 H locs → lv_has ls 10 [(0, .ref b), (1, .ref (ad 0)), (2, .ref (ad 16)), (3, .ref (ad 32)), (4, .ref (ad 33)), (5, .int (nI si))] → W p l e room_1 s m #[Value.ref b] below meth c H locs (cells + 1) (slots + 6) (lw_Z below #[Value.ref b] s) (F0 m 1177 ls [])) : W p l e room_1 s m #[Value.ref b] below meth c H locs cells slots (lw_Z below #[Value.ref b] s) (F0 m 620 ls []) := by
  obtain ⟨hx, hb, hml, hown, hts, hXs, hbl, hlt, hE, hC, hLs, hret, hlocks⟩ := hLC
  have hA : ∀ z : Nat, s.heap.size ≤ z → (fun z : Nat => s.heap.size ≤ z) z := fun _ h => h
  have hbA : ¬ (fun z : Nat => s.heap.size ≤ z) b := Nat.not_le.mpr hbl
  obtain ⟨hR, ⟨thr, hM⟩, ⟨o, ho⟩, ⟨od, hd⟩, hG, htt, hTT⟩ := hLI
  obtain ⟨pa, bad, num, RA, RB, TH, DE, KI, WE, NX, LI, LM, KE, TX, BW, TI, KV, DM, hX, hMk, hMb, hMw, hMt, hMp⟩ := hM
  refine lv_aload_n hx hb dL_law_620 rfl (lv_at hl 1 rfl) ?_
  refine lv_aload_n hx hb dL_law_621 rfl (lv_at hl 0 rfl) ?_
  refine lv_iload hx hb dL_law_622 (lv_at hl 5 rfl) ?_
  refine lv_iconst (v := 1) hx hb dL_law_624 (by decide) ?_
  refine lv_iadd hx hb dL_law_625 ?_
  rw [show nI si + 1 = nI (si + 1) from nI_add si 1]
  refine va_sld hx hb hXs hbl hbA hw.2.2.2 (vp_in_nI (show si + 1 < Ls by omega) (by omega)) dL_law_626 ?_
  rw [nI_clamp (show si + 1 < 2 ^ 31 by omega)]
  rw [hj1]
  refine lv_aload_n hx hb dL_law_627 rfl (lv_at hl 0 rfl) ?_
  refine lv_iload hx hb dL_law_628 (lv_at hl 5 rfl) ?_
  refine lv_iconst (v := 2) hx hb dL_law_630 (by decide) ?_
  refine lv_iadd hx hb dL_law_631 ?_
  rw [show nI si + 2 = nI (si + 2) from nI_add si 2]
  refine va_sld hx hb hXs hbl hbA hw.2.2.2 (vp_in_nI (show si + 2 < Ls by omega) (by omega)) dL_law_632 ?_
  rw [nI_clamp (show si + 2 < 2 ^ 31 by omega)]
  refine lv_i2d hx hb dL_law_633 ?_
  refine lv_ldc2d (v := 4593671619917905920) hx hb hown (hts (.constantDouble RL 75 (4593671619917905920)) (by decide +kernel)) dL_law_634 ?_
  refine lv_dmul hx hb dL_law_637 (sv_fin (xs (si + 2))).2 ?_
  refine kH (As := [.ref (ad 0), .int (nI j), .double (sv (xs (si + 2)))]) (rest := []) ⟨hx, hb, hml, hown, hts⟩ (h_x3_X6_limit l hlt G dA sa L f ad (nl + 1) nb q qk x.1 x.2.1 x.2.2.1 x.2.2.2.1 kk tt x.2.2.2.2.1 x.2.2.2.2.2 j (sv (xs (si + 2))) hC hR hj h1 hbad) (vx_cwSW 3 hts gL_law_L_limit rfl rfl rfl (by decide +kernel) ⟨Nat.le_of_ble_eq_true rfl, Nat.le_of_ble_eq_true rfl⟩) hw hE hA rfl hl.1 rfl (Nat.le_of_ble_eq_true rfl) dL_law_638 ⟨hc1, hs1⟩ (fun r2 f1 H locs hp hw => ?_)
  obtain ⟨e1, e2⟩ := hp
  rw [e2] at hw
  rw [e1]
  refine lv_istore (lv' := [(6, .int 3), (0, .ref b), (1, .ref (ad 0)), (2, .ref (ad 16)), (3, .ref (ad 32)), (4, .ref (ad 33)), (5, .int (nI si))]) hx hb dL_law_641 hl (by decide) rfl (fun ls hl => ?_)
  refine lv_aload_n hx hb dL_law_643 rfl (lv_at hl 3 rfl) ?_
  refine lv_aload_n hx hb dL_law_644 rfl (lv_at hl 1 rfl) ?_
  refine lv_iload hx hb dL_law_645 (lv_at hl 6 rfl) ?_
  refine lv_iconst (v := 1) hx hb dL_law_647 (by decide) ?_
  refine lv_iadd hx hb dL_law_648 ?_
  rw [show nI si + 1 = nI (si + 1) from nI_add si 1]
  refine va_sld hx hb hXs hbl hbA hw.2.2.2 (vp_in_nI (show si + 1 < Ls by omega) (by omega)) dL_law_649 ?_
  rw [nI_clamp (show si + 1 < 2 ^ 31 by omega)]
  rw [hj1]
  refine lv_aload_n hx hb dL_law_650 rfl (lv_at hl 1 rfl) ?_
  refine lv_iload hx hb dL_law_651 (lv_at hl 6 rfl) ?_
  refine lv_iconst (v := 2) hx hb dL_law_653 (by decide) ?_
  refine lv_iadd hx hb dL_law_654 ?_
  rw [show nI si + 2 = nI (si + 2) from nI_add si 2]
  refine va_sld hx hb hXs hbl hbA hw.2.2.2 (vp_in_nI (show si + 2 < Ls by omega) (by omega)) dL_law_655 ?_
  rw [nI_clamp (show si + 2 < 2 ^ 31 by omega)]
  refine lv_i2d hx hb dL_law_656 ?_
  refine lv_ldc2d (v := 4593671619917905920) hx hb hown (hts (.constantDouble RL 75 (4593671619917905920)) (by decide +kernel)) dL_law_657 ?_
  refine lv_dmul hx hb dL_law_660 (sv_fin (xs (si + 2))).2 ?_
  refine kV_V (C := RX7) (T := TX7) (N := 31) (As := [.int (nI j), .double (sv (xs (si + 2)))]) (rest := []) ⟨hx, hb, hml, hown, hts⟩ (t3_X7_limit l G dA L f ad (nl + 1) nb q qk ((x.1).1) ((x.1).2.1) ((x.1).2.2.1) ((x.1).2.2.2) ((x.2.1).1) ((x.2.1).2) x.2.2.2.2.2 tt.1 ((x.2.2.2.2.1).1) ((x.2.2.2.2.1).2.1) thr pa bad num RA RB TH DE KI WE NX LI LM KE TX BW TI KV DM f j (sv (xs (si + 2))) hC hX hj h1 ((hMb j hj).1.trans hbad)) (cwV 2 hts gL_law_X7_limit rfl rfl rfl (by decide +kernel) ⟨Nat.le_of_ble_eq_true rfl, Nat.le_of_ble_eq_true rfl⟩) hw hA (hC.m (by decide)) hX.o rfl rfl hl.1 rfl (Nat.le_of_ble_eq_true rfl) dL_law_661 ⟨hc1, hs1⟩ (fun f3 H locs hp hw => ?_)
  have hX2 : MX ad dA (nl + 1) nb ((x.1).1) ((x.1).2.1) ((x.1).2.2.1) ((x.1).2.2.2) ((x.2.1).1) ((x.2.1).2) x.2.2.2.2.2 tt.1 ((x.2.2.2.2.1).1) ((x.2.2.2.2.1).2.1) 3 pa bad num RA RB TH DE KI WE NX LI LM KE TX BW TI KV DM f f3 := hp
  refine lv_aload_n hx hb dL_law_664 rfl (lv_at hl 3 rfl) ?_
  refine kV_I (C := RX7) (T := TX7) (N := 31) (As := []) (rest := []) ⟨hx, hb, hml, hown, hts⟩ (c_X7_thrown l G dA L f3 ad (nl + 1) nb q qk ((x.1).1) ((x.1).2.1) ((x.1).2.2.1) ((x.1).2.2.2) ((x.2.1).1) ((x.2.1).2) x.2.2.2.2.2 tt.1 ((x.2.2.2.2.1).1) ((x.2.2.2.2.1).2.1) 3 pa bad num RA RB TH DE KI WE NX LI LM KE TX BW TI KV DM f hC hX2) (cwV 0 hts gL_law_X7_thrown rfl rfl rfl (by decide +kernel) ⟨Nat.le_of_ble_eq_true rfl, Nat.le_of_ble_eq_true rfl⟩) hw hA (hC.m (by decide)) hX2.o rfl rfl hl.1 rfl (Nat.le_of_ble_eq_true rfl) dL_law_665 ⟨hc1, hs1⟩ (fun r5 f6 H locs hp hw => ?_)
  obtain ⟨e1, e2⟩ := hp
  rw [e2] at hw
  rw [e1]
  refine lv_iload hx hb dL_law_668 (lv_at hl 0 rfl) ?_
  refine lv_icmp_eq (tgt := 675) hx hb dL_law_670 (by decide) (fun _ => ?_) (fun c9 => absurd rfl c9)
  refine lv_goto (tgt := 1177) hx hb dL_law_675 (by decide) ?_
  exact kk9 x kk tt f3 _ _ ls (LwI.of (x := x) (kk := kk) (tt := tt) hR ⟨_, _, _, _, _, _, _, _, _, _, _, _, _, _, _, _, _, _, hX2, hMk, hMb, hMw, hMt, hMp⟩ ⟨_, ho⟩ ⟨_, hd⟩ hG htt hTT) (Nat.le_add_right _ _) hw (lv_sub hl [1, 2, 3, 4, 5, 6] rfl)

set_option maxHeartbeats 4000000 in
set_option maxRecDepth 100000 in
theorem k_limit_0 {p : Program} {l : Launch} {e : Env} {s : State} {m : MethodId} {below : List Frame} {meth : Method} {c : Code} {G : va_G} {dA : Nat → ClassId} {b Ls si : Nat} {xs : Nat → Int32} {sa ad : Nat → Nat} {L : List Nat} {nl nb : Nat} {q qk : Nat → Option Nat} {x : sR} {kk : Nat → UInt64 × UInt64} {tt : sT} {f : Nat → va_E} {H : Heap} {locs : List Loc} {ls : Array Slot} {cells slots : Nat} (j : Nat) (hLC : LC p l s m c meth b Ls xs G dA sa ad L nl nb q qk) (hsi : si + 5 ≤ Ls) (hc1 : cells + 1 ≤ room_1.cells) (hs1 : slots + 6 ≤ room_1.slots) (hLI : LwI ad dA nl nb q qk x kk tt f) (hhr : x.2.2.2.2.2 < 2 ^ 29) (hw : ww G dA (fun z : Nat => s.heap.size ≤ z) s L f H locs) (hl : lv_has ls 10 [(0, .ref b), (1, .ref (ad 0)), (2, .ref (ad 16)), (3, .ref (ad 32)), (4, .ref (ad 33)), (5, .int (nI si))]) (hj : j < nb) (hj1 : xs (si + 1) = nI j) (h1 : (FP.dcmp (sv (xs (si + 2))) FP.dconst0 = some .gt ∨ FP.dcmp (sv (xs (si + 2))) FP.dconst0 = some .eq)) (hth : ¬ (x.2.2.1 j).1 = 0)
    (kk9 : ∀ (x2 : sR) (kk2 : Nat → UInt64 × UInt64) (tt2 : sT) (f2 : Nat → va_E) (H : Heap) (locs : List Loc) (ls : Array Slot), LwI ad dA nl nb q qk x2 kk2 tt2 f2 → x2.2.2.2.2.2 ≤ x.2.2.2.2.2 + 100 → ww G dA (fun z : Nat => s.heap.size ≤ z) s L f2 H locs → lv_has ls 10 [(0, .ref b), (1, .ref (ad 0)), (2, .ref (ad 16)), (3, .ref (ad 32)), (4, .ref (ad 33)), (5, .int (nI si))] → W p l e room_1 s m #[Value.ref b] below meth c H locs (cells + 1) (slots + 6) (lw_Z below #[Value.ref b] s) (F0 m 1177 ls [])) : W p l e room_1 s m #[Value.ref b] below meth c H locs cells slots (lw_Z below #[Value.ref b] s) (F0 m 620 ls []) := by
  obtain ⟨hx, hb, hml, hown, hts, hXs, hbl, hlt, hE, hC, hLs, hret, hlocks⟩ := hLC
  have hA : ∀ z : Nat, s.heap.size ≤ z → (fun z : Nat => s.heap.size ≤ z) z := fun _ h => h
  have hbA : ¬ (fun z : Nat => s.heap.size ≤ z) b := Nat.not_le.mpr hbl
  obtain ⟨hR, ⟨thr, hM⟩, ⟨o, ho⟩, ⟨od, hd⟩, hG, htt, hTT⟩ := hLI
  obtain ⟨pa, bad, num, RA, RB, TH, DE, KI, WE, NX, LI, LM, KE, TX, BW, TI, KV, DM, hX, hMk, hMb, hMw, hMt, hMp⟩ := hM
  refine lv_aload_n hx hb dL_law_620 rfl (lv_at hl 1 rfl) ?_
  refine lv_aload_n hx hb dL_law_621 rfl (lv_at hl 0 rfl) ?_
  refine lv_iload hx hb dL_law_622 (lv_at hl 5 rfl) ?_
  refine lv_iconst (v := 1) hx hb dL_law_624 (by decide) ?_
  refine lv_iadd hx hb dL_law_625 ?_
  rw [show nI si + 1 = nI (si + 1) from nI_add si 1]
  refine va_sld hx hb hXs hbl hbA hw.2.2.2 (vp_in_nI (show si + 1 < Ls by omega) (by omega)) dL_law_626 ?_
  rw [nI_clamp (show si + 1 < 2 ^ 31 by omega)]
  rw [hj1]
  refine lv_aload_n hx hb dL_law_627 rfl (lv_at hl 0 rfl) ?_
  refine lv_iload hx hb dL_law_628 (lv_at hl 5 rfl) ?_
  refine lv_iconst (v := 2) hx hb dL_law_630 (by decide) ?_
  refine lv_iadd hx hb dL_law_631 ?_
  rw [show nI si + 2 = nI (si + 2) from nI_add si 2]
  refine va_sld hx hb hXs hbl hbA hw.2.2.2 (vp_in_nI (show si + 2 < Ls by omega) (by omega)) dL_law_632 ?_
  rw [nI_clamp (show si + 2 < 2 ^ 31 by omega)]
  refine lv_i2d hx hb dL_law_633 ?_
  refine lv_ldc2d (v := 4593671619917905920) hx hb hown (hts (.constantDouble RL 75 (4593671619917905920)) (by decide +kernel)) dL_law_634 ?_
  refine lv_dmul hx hb dL_law_637 (sv_fin (xs (si + 2))).2 ?_
  refine kH (As := [.ref (ad 0), .int (nI j), .double (sv (xs (si + 2)))]) (rest := []) ⟨hx, hb, hml, hown, hts⟩ (h_c_X6_limit l hlt G dA sa L f ad (nl + 1) nb q qk x.1 x.2.1 x.2.2.1 x.2.2.2.1 kk tt x.2.2.2.2.1 x.2.2.2.2.2 j (sv (xs (si + 2))) hC hR hj h1 hth) (vx_cwSW 3 hts gL_law_L_limit rfl rfl rfl (by decide +kernel) ⟨Nat.le_of_ble_eq_true rfl, Nat.le_of_ble_eq_true rfl⟩) hw hE hA rfl hl.1 rfl (Nat.le_of_ble_eq_true rfl) dL_law_638 ⟨hc1, hs1⟩ (fun r2 f1 H locs hp hw => ?_)
  obtain ⟨e1, hp⟩ := hp
  rw [e1]
  have hR1 : RC ad dA (nl + 1) nb q qk x.1 x.2.1 (va_up x.2.2.1 j ((x.2.2.1 j).1, (x.2.2.1 j).2.1, 1, sv (xs (si + 2)), -1, (x.2.2.1 j).2.2.2.2.2)) x.2.2.2.1 kk tt x.2.2.2.2.1 x.2.2.2.2.2 f f1 := hp
  have hX3 : MX ad dA (nl + 1) nb ((x.1).1) ((x.1).2.1) ((x.1).2.2.1) ((x.1).2.2.2) ((x.2.1).1) ((x.2.1).2) x.2.2.2.2.2 tt.1 ((x.2.2.2.2.1).1) ((x.2.2.2.2.1).2.1) thr pa bad num RA RB TH DE KI WE NX LI LM KE TX BW TI KV DM f1 f1 := hX.mv (fun i h1 h2 => hR1.fr h1 (by omega)) (fun _ _ _ => rfl)
  have ho1 : f1 (ad 32) = aL (dA 4) 1 o := (hR1.fr (by omega) (by omega)).trans ho
  have hd1 : f1 (ad 33) = aD (dA 1) 1 od := (hR1.fr (by omega) (by omega)).trans hd
  refine lv_istore (lv' := [(6, .int 0), (0, .ref b), (1, .ref (ad 0)), (2, .ref (ad 16)), (3, .ref (ad 32)), (4, .ref (ad 33)), (5, .int (nI si))]) hx hb dL_law_641 hl (by decide) rfl (fun ls hl => ?_)
  refine lv_aload_n hx hb dL_law_643 rfl (lv_at hl 3 rfl) ?_
  refine lv_aload_n hx hb dL_law_644 rfl (lv_at hl 1 rfl) ?_
  refine lv_iload hx hb dL_law_645 (lv_at hl 6 rfl) ?_
  refine lv_iconst (v := 1) hx hb dL_law_647 (by decide) ?_
  refine lv_iadd hx hb dL_law_648 ?_
  rw [show nI si + 1 = nI (si + 1) from nI_add si 1]
  refine va_sld hx hb hXs hbl hbA hw.2.2.2 (vp_in_nI (show si + 1 < Ls by omega) (by omega)) dL_law_649 ?_
  rw [nI_clamp (show si + 1 < 2 ^ 31 by omega)]
  rw [hj1]
  refine lv_aload_n hx hb dL_law_650 rfl (lv_at hl 1 rfl) ?_
  refine lv_iload hx hb dL_law_651 (lv_at hl 6 rfl) ?_
  refine lv_iconst (v := 2) hx hb dL_law_653 (by decide) ?_
  refine lv_iadd hx hb dL_law_654 ?_
  rw [show nI si + 2 = nI (si + 2) from nI_add si 2]
  refine va_sld hx hb hXs hbl hbA hw.2.2.2 (vp_in_nI (show si + 2 < Ls by omega) (by omega)) dL_law_655 ?_
  rw [nI_clamp (show si + 2 < 2 ^ 31 by omega)]
  refine lv_i2d hx hb dL_law_656 ?_
  refine lv_ldc2d (v := 4593671619917905920) hx hb hown (hts (.constantDouble RL 75 (4593671619917905920)) (by decide +kernel)) dL_law_657 ?_
  refine lv_dmul hx hb dL_law_660 (sv_fin (xs (si + 2))).2 ?_
  refine kV_V (C := RX7) (T := TX7) (N := 31) (As := [.int (nI j), .double (sv (xs (si + 2)))]) (rest := []) ⟨hx, hb, hml, hown, hts⟩ (c_X7_limit l G dA L f1 ad (nl + 1) nb q qk ((x.1).1) ((x.1).2.1) ((x.1).2.2.1) ((x.1).2.2.2) ((x.2.1).1) ((x.2.1).2) x.2.2.2.2.2 tt.1 ((x.2.2.2.2.1).1) ((x.2.2.2.2.1).2.1) thr pa bad num RA RB TH DE KI WE NX LI LM KE TX BW TI KV DM f1 j (sv (xs (si + 2))) hC hX3 hj h1 (fun h => hth ((hMb j hj).1.symm.trans h))) (cwV 2 hts gL_law_X7_limit rfl rfl rfl (by decide +kernel) ⟨Nat.le_of_ble_eq_true rfl, Nat.le_of_ble_eq_true rfl⟩) hw hA (hC.m (by decide)) hX3.o rfl rfl hl.1 rfl (Nat.le_of_ble_eq_true rfl) dL_law_661 ⟨hc1, hs1⟩ (fun f4 H locs hp hw => ?_)
  have hX2 : MX ad dA (nl + 1) nb ((x.1).1) ((x.1).2.1) ((x.1).2.2.1) ((x.1).2.2.2) ((x.2.1).1) ((x.2.1).2) x.2.2.2.2.2 tt.1 ((x.2.2.2.2.1).1) ((x.2.2.2.2.1).2.1) 0 pa bad num RA RB TH DE KI WE NX (upd LI j 1) (vf_upd LM j (sv (xs (si + 2)))) (upd KE j (-1)) TX BW TI KV DM f1 f4 := hp
  refine lv_aload_n hx hb dL_law_664 rfl (lv_at hl 3 rfl) ?_
  refine kV_I (C := RX7) (T := TX7) (N := 31) (As := []) (rest := []) ⟨hx, hb, hml, hown, hts⟩ (c_X7_thrown l G dA L f4 ad (nl + 1) nb q qk ((x.1).1) ((x.1).2.1) ((x.1).2.2.1) ((x.1).2.2.2) ((x.2.1).1) ((x.2.1).2) x.2.2.2.2.2 tt.1 ((x.2.2.2.2.1).1) ((x.2.2.2.2.1).2.1) 0 pa bad num RA RB TH DE KI WE NX (upd LI j 1) (vf_upd LM j (sv (xs (si + 2)))) (upd KE j (-1)) TX BW TI KV DM f1 hC hX2) (cwV 0 hts gL_law_X7_thrown rfl rfl rfl (by decide +kernel) ⟨Nat.le_of_ble_eq_true rfl, Nat.le_of_ble_eq_true rfl⟩) hw hA (hC.m (by decide)) hX2.o rfl rfl hl.1 rfl (Nat.le_of_ble_eq_true rfl) dL_law_665 ⟨hc1, hs1⟩ (fun r6 f7 H locs hp hw => ?_)
  obtain ⟨e1, e2⟩ := hp
  rw [e2] at hw
  rw [e1]
  refine lv_iload hx hb dL_law_668 (lv_at hl 0 rfl) ?_
  refine lv_icmp_eq (tgt := 675) hx hb dL_law_670 (by decide) (fun _ => ?_) (fun c9 => absurd rfl c9)
  refine lv_goto (tgt := 1177) hx hb dL_law_675 (by decide) ?_
  exact kk9 ((x.1, x.2.1, va_up x.2.2.1 j ((x.2.2.1 j).1, (x.2.2.1 j).2.1, 1, sv (xs (si + 2)), -1, (x.2.2.1 j).2.2.2.2.2), x.2.2.2.1, x.2.2.2.2.1, x.2.2.2.2.2)) kk tt f4 _ _ ls (LwI.of (x := (x.1, x.2.1, va_up x.2.2.1 j ((x.2.2.1 j).1, (x.2.2.1 j).2.1, 1, sv (xs (si + 2)), -1, (x.2.2.1 j).2.2.2.2.2), x.2.2.2.1, x.2.2.2.2.1, x.2.2.2.2.2)) (kk := kk) (tt := tt) hR1 ⟨_, _, _, _, _, _, _, _, _, _, _, _, _, _, _, _, _, _, hX2, hMk, hMb.lim hj _, hMw, hMt, hMp⟩ ⟨_, ho1⟩ ⟨_, hd1⟩ hG.limit htt hTT) (Nat.le_add_right _ _) hw (lv_sub hl [1, 2, 3, 4, 5, 6] rfl)
