set_option maxHeartbeats 4000000 in
set_option maxRecDepth 100000 in
theorem c_X6_slotOf (l : Launch) (G : va_G) (dA : Nat → ClassId) (L : List Nat) (f : Nat → va_E) (x bs ks ar le t pl n hr : Nat) (nb j v : Nat) (q : Nat → Option Nat) (hLx : x ∈ L) (hfx : f x = .inr (7, [.int (nI n), .ref bs, .ref ks, .ref ar, .ref le, .ref t, .ref pl, .int (nI hr)])) (hLs : bs ∈ L) (hfs : f bs = aQ (dA 5) nb q) (hnb : nb < 2 ^ 31) (hj : j < nb) (hv : q j = some v) : mR l yX6_slotOf wsX6_slotOf ({ frames := 0, cells := 0, slots := 0, locals := 0 }) G dA [.ref x, .int (nI j)] L f v := by
  refine mR_of (cc := cX6_slotOf) (maxL := 2) (by decide) rfl (Nat.le_of_ble_eq_true rfl) ?_
  intro p e s m below meth c A ls Q hx hb hml hown hts hlocks hA hin0 hw hl hret
  have hown : s.vm.findClass RX6 = some m.cls := hown
  have hl : lv_has ls 2 [(0, .ref x), (1, .int (nI j))] := hl
  have hi6 : ∀ w ∈ u_ws RX6 TX6 8, w ∈ wsX6_slotOf := by decide +kernel
  refine lv_iload_n hx hb dX6_slotOf_0 rfl (lv_at hl 1 rfl) ?_
  refine lv_if_lt (tgt := 13) hx hb dX6_slotOf_1 (by decide) (fun c9 => absurd c9 (nI_pos (by omega))) (fun _ => ?_)
  refine lv_iload_n hx hb dX6_slotOf_4 rfl (lv_at hl 1 rfl) ?_
  refine lv_aload_n hx hb dX6_slotOf_5 rfl (lv_at hl 0 rfl) ?_
  refine wg (C := RX6) (T := TX6) (N := 8) hx hb hts hi6 hown hw hLx hfx rfl 1 (by decide) (hts (.fieldLink RX6 31 "LayerMoisture" "boards" "[LLayerMoisture$Board;") (by decide +kernel)) (fun _ h9 => h9) (v := .ref bs) rfl dX6_slotOf_6 ?_
  refine wlen hx hb 5 hw hLs hfs rfl dX6_slotOf_9 ?_
  refine lv_icmp_lt (tgt := 23) hx hb dX6_slotOf_10 (by decide) (fun _ => ?_) (fun c9 => absurd (nI_lt hj hnb) c9)
  refine lv_aload_n hx hb dX6_slotOf_23 rfl (lv_at hl 0 rfl) ?_
  refine wg (C := RX6) (T := TX6) (N := 8) hx hb hts hi6 hown hw hLx hfx rfl 1 (by decide) (hts (.fieldLink RX6 31 "LayerMoisture" "boards" "[LLayerMoisture$Board;") (by decide +kernel)) (fun _ h9 => h9) (v := .ref bs) rfl dX6_slotOf_24 ?_
  refine lv_iload_n hx hb dX6_slotOf_27 rfl (lv_at hl 1 rfl) ?_
  refine wld_q5 hx hb hw hLs hfs j hj hnb rfl dX6_slotOf_28 hv ?_
  exact hret _ _ _ _ hw dX6_slotOf_29

set_option maxHeartbeats 4000000 in
set_option maxRecDepth 100000 in
theorem c_X6_kindOf (l : Launch) (G : va_G) (dA : Nat → ClassId) (L : List Nat) (f : Nat → va_E) (x bs ks ar le t pl n hr : Nat) (j v : Nat) (qk : Nat → Option Nat) (hLx : x ∈ L) (hfx : f x = .inr (7, [.int (nI n), .ref bs, .ref ks, .ref ar, .ref le, .ref t, .ref pl, .int (nI hr)])) (hLq : ks ∈ L) (hfq : f ks = aQ (dA 6) 4 qk) (hj : j < 4) (hv : qk j = some v) : mR l yX6_kindOf wsX6_kindOf ({ frames := 0, cells := 0, slots := 0, locals := 0 }) G dA [.ref x, .int (nI j)] L f v := by
  refine mR_of (cc := cX6_kindOf) (maxL := 2) (by decide) rfl (Nat.le_of_ble_eq_true rfl) ?_
  intro p e s m below meth c A ls Q hx hb hml hown hts hlocks hA hin0 hw hl hret
  have hown : s.vm.findClass RX6 = some m.cls := hown
  have hl : lv_has ls 2 [(0, .ref x), (1, .int (nI j))] := hl
  have hi6 : ∀ w ∈ u_ws RX6 TX6 8, w ∈ wsX6_kindOf := by decide +kernel
  refine lv_iload_n hx hb dX6_kindOf_0 rfl (lv_at hl 1 rfl) ?_
  refine lv_if_lt (tgt := 13) hx hb dX6_kindOf_1 (by decide) (fun c9 => absurd c9 (nI_pos (by omega))) (fun _ => ?_)
  refine lv_iload_n hx hb dX6_kindOf_4 rfl (lv_at hl 1 rfl) ?_
  refine lv_aload_n hx hb dX6_kindOf_5 rfl (lv_at hl 0 rfl) ?_
  refine wg (C := RX6) (T := TX6) (N := 8) hx hb hts hi6 hown hw hLx hfx rfl 2 (by decide) (hts (.fieldLink RX6 24 "LayerMoisture" "kinds" "[LLayerMoisture$Kind;") (by decide +kernel)) (fun _ h9 => h9) (v := .ref ks) rfl dX6_kindOf_6 ?_
  refine wlen hx hb 6 hw hLq hfq rfl dX6_kindOf_9 ?_
  refine lv_icmp_lt (tgt := 23) hx hb dX6_kindOf_10 (by decide) (fun _ => ?_) (fun c9 => absurd (show nI j < nI 4 from nI_lt hj (by decide)) c9)
  refine lv_aload_n hx hb dX6_kindOf_23 rfl (lv_at hl 0 rfl) ?_
  refine wg (C := RX6) (T := TX6) (N := 8) hx hb hts hi6 hown hw hLx hfx rfl 2 (by decide) (hts (.fieldLink RX6 24 "LayerMoisture" "kinds" "[LLayerMoisture$Kind;") (by decide +kernel)) (fun _ h9 => h9) (v := .ref ks) rfl dX6_kindOf_24 ?_
  refine lv_iload_n hx hb dX6_kindOf_27 rfl (lv_at hl 1 rfl) ?_
  refine wld_q6 hx hb hw hLq hfq j hj (by decide) rfl dX6_kindOf_28 hv ?_
  exact hret _ _ _ _ hw dX6_kindOf_29

set_option maxHeartbeats 4000000 in
set_option maxRecDepth 100000 in
theorem x_X6_slotOf (l : Launch) (hlt : l.stackTraces = false) (G : va_G) (dA : Nat → ClassId) (sa : Nat → Nat) (L : List Nat) (f : Nat → va_E) (x bs ks ar le t pl n hr : Nat) (nb : Nat) (q : Nat → Option Nat) (i : Int32) (hLx : x ∈ L) (hfx : f x = .inr (7, [.int (nI n), .ref bs, .ref ks, .ref ar, .ref le, .ref t, .ref pl, .int (nI hr)])) (hLs : bs ∈ L) (hfs : f bs = aQ (dA 5) nb q) (hnb : nb < 2 ^ 31) (hbad : i < 0 ∨ nI nb ≤ i)  : mX l yX6_slotOf wsX6_slotOf ({ frames := 7, cells := 1, slots := 6, locals := 95 }) G dA [.ref x, .int i] L f sa 0 := by
  refine mX_of (cc := cX6_slotOf) (maxL := 2) (by decide) rfl (Nat.le_of_ble_eq_true rfl) ?_
  intro p e s m below meth c A ls hx hb hml hown hts hlocks hA ht hE hw hl
  have hown : s.vm.findClass RX6 = some m.cls := hown
  have hl : lv_has ls 2 [(0, .ref x), (1, .int i)] := hl
  have hi6 : ∀ w ∈ u_ws RX6 TX6 8, w ∈ wsX6_slotOf := by decide +kernel
  refine lv_iload_n hx hb dX6_slotOf_0 rfl (lv_at hl 1 rfl) ?_
  refine lv_if_lt (tgt := 13) hx hb dX6_slotOf_1 (by decide) (fun c1 => ?_) (fun c1 => ?_)
  · exact mX_throw (k := 0) (is := 195) (text := "no such board") hx hb hlt (by decide) hown hE hw ht (List.mem_of_getElem? (i := 4) (by decide)) (by rw [hml]; exact hl.1) dX6_slotOf_13 dX6_slotOf_16 dX6_slotOf_17 dX6_slotOf_19 dX6_slotOf_22 (by decide) (Nat.le_of_ble_eq_true rfl) (by decide) (by decide) hlocks
  · refine lv_iload_n hx hb dX6_slotOf_4 rfl (lv_at hl 1 rfl) ?_
    refine lv_aload_n hx hb dX6_slotOf_5 rfl (lv_at hl 0 rfl) ?_
    refine wg (C := RX6) (T := TX6) (N := 8) hx hb hts hi6 hown hw hLx hfx rfl 1 (by decide) (hts (.fieldLink RX6 31 "LayerMoisture" "boards" "[LLayerMoisture$Board;") (by decide +kernel)) (fun _ h9 => h9) (v := .ref bs) rfl dX6_slotOf_6 ?_
    refine wlen hx hb 5 hw hLs hfs rfl dX6_slotOf_9 ?_
    refine lv_icmp_lt (tgt := 23) hx hb dX6_slotOf_10 (by decide) (fun c9 => absurd c9 (fun h7 => hbad.elim c1 (fun h8 => absurd h7 (Int32.not_lt.mpr h8)))) (fun _ => ?_)
    exact mX_throw (k := 0) (is := 195) (text := "no such board") hx hb hlt (by decide) hown hE hw ht (List.mem_of_getElem? (i := 4) (by decide)) (by rw [hml]; exact hl.1) dX6_slotOf_13 dX6_slotOf_16 dX6_slotOf_17 dX6_slotOf_19 dX6_slotOf_22 (by decide) (Nat.le_of_ble_eq_true rfl) (by decide) (by decide) hlocks

set_option maxHeartbeats 4000000 in
set_option maxRecDepth 100000 in
theorem x_X6_kindOf (l : Launch) (hlt : l.stackTraces = false) (G : va_G) (dA : Nat → ClassId) (sa : Nat → Nat) (L : List Nat) (f : Nat → va_E) (x bs ks ar le t pl n hr : Nat) (qk : Nat → Option Nat) (i : Int32) (hLx : x ∈ L) (hfx : f x = .inr (7, [.int (nI n), .ref bs, .ref ks, .ref ar, .ref le, .ref t, .ref pl, .int (nI hr)])) (hLq : ks ∈ L) (hfq : f ks = aQ (dA 6) 4 qk) (hbad : i < 0 ∨ nI 4 ≤ i)  : mX l yX6_kindOf wsX6_kindOf ({ frames := 7, cells := 1, slots := 6, locals := 95 }) G dA [.ref x, .int i] L f sa 0 := by
  refine mX_of (cc := cX6_kindOf) (maxL := 2) (by decide) rfl (Nat.le_of_ble_eq_true rfl) ?_
  intro p e s m below meth c A ls hx hb hml hown hts hlocks hA ht hE hw hl
  have hown : s.vm.findClass RX6 = some m.cls := hown
  have hl : lv_has ls 2 [(0, .ref x), (1, .int i)] := hl
  have hi6 : ∀ w ∈ u_ws RX6 TX6 8, w ∈ wsX6_kindOf := by decide +kernel
  refine lv_iload_n hx hb dX6_kindOf_0 rfl (lv_at hl 1 rfl) ?_
  refine lv_if_lt (tgt := 13) hx hb dX6_kindOf_1 (by decide) (fun c1 => ?_) (fun c1 => ?_)
  · exact mX_throw (k := 0) (is := 197) (text := "no such kind") hx hb hlt (by decide) hown hE hw ht (List.mem_of_getElem? (i := 5) (by decide)) (by rw [hml]; exact hl.1) dX6_kindOf_13 dX6_kindOf_16 dX6_kindOf_17 dX6_kindOf_19 dX6_kindOf_22 (by decide) (Nat.le_of_ble_eq_true rfl) (by decide) (by decide) hlocks
  · refine lv_iload_n hx hb dX6_kindOf_4 rfl (lv_at hl 1 rfl) ?_
    refine lv_aload_n hx hb dX6_kindOf_5 rfl (lv_at hl 0 rfl) ?_
    refine wg (C := RX6) (T := TX6) (N := 8) hx hb hts hi6 hown hw hLx hfx rfl 2 (by decide) (hts (.fieldLink RX6 24 "LayerMoisture" "kinds" "[LLayerMoisture$Kind;") (by decide +kernel)) (fun _ h9 => h9) (v := .ref ks) rfl dX6_kindOf_6 ?_
    refine wlen hx hb 6 hw hLq hfq rfl dX6_kindOf_9 ?_
    refine lv_icmp_lt (tgt := 23) hx hb dX6_kindOf_10 (by decide) (fun c9 => absurd c9 (fun h7 => hbad.elim c1 (fun h8 => absurd h7 (Int32.not_lt.mpr h8)))) (fun _ => ?_)
    exact mX_throw (k := 0) (is := 197) (text := "no such kind") hx hb hlt (by decide) hown hE hw ht (List.mem_of_getElem? (i := 5) (by decide)) (by rw [hml]; exact hl.1) dX6_kindOf_13 dX6_kindOf_16 dX6_kindOf_17 dX6_kindOf_19 dX6_kindOf_22 (by decide) (Nat.le_of_ble_eq_true rfl) (by decide) (by decide) hlocks

set_option maxHeartbeats 4000000 in
set_option maxRecDepth 100000 in
theorem c_X6_requireLayer (l : Launch) (G : va_G) (dA : Nat → ClassId) (L : List Nat) (f : Nat → va_E) (x bs ks ar le t pl n hr : Nat) (j : Nat) (hLx : x ∈ L) (hfx : f x = .inr (7, [.int (nI n), .ref bs, .ref ks, .ref ar, .ref le, .ref t, .ref pl, .int (nI hr)])) (hn31 : n < 2 ^ 31) (hj : j < n)  : mV l yX6_requireLayer wsX6_requireLayer ({ frames := 0, cells := 0, slots := 0, locals := 0 }) G dA [.ref x, .int (nI j)] L f (fun f2 => f2 = f) := by
  refine mV_of (cc := cX6_requireLayer) (maxL := 2) (by decide) rfl (Nat.le_of_ble_eq_true rfl) ?_
  intro p e s m below meth c A ls Q hx hb hml hown hts hlocks hA hin0 hw hl hret
  have hown : s.vm.findClass RX6 = some m.cls := hown
  have hl : lv_has ls 2 [(0, .ref x), (1, .int (nI j))] := hl
  have hi6 : ∀ w ∈ u_ws RX6 TX6 8, w ∈ wsX6_requireLayer := by decide +kernel
  refine lv_iload_n hx hb dX6_requireLayer_0 rfl (lv_at hl 1 rfl) ?_
  refine lv_if_lt (tgt := 12) hx hb dX6_requireLayer_1 (by decide) (fun c9 => absurd c9 (nI_pos (by omega))) (fun _ => ?_)
  refine lv_iload_n hx hb dX6_requireLayer_4 rfl (lv_at hl 1 rfl) ?_
  refine lv_aload_n hx hb dX6_requireLayer_5 rfl (lv_at hl 0 rfl) ?_
  refine wg (C := RX6) (T := TX6) (N := 8) hx hb hts hi6 hown hw hLx hfx rfl 0 (by decide) (hts (.fieldLink RX6 18 "LayerMoisture" "layerCount" "I") (by decide +kernel)) (fun _ h9 => h9) (v := .int (nI n)) rfl dX6_requireLayer_6 ?_
  refine lv_icmp_lt (tgt := 22) hx hb dX6_requireLayer_9 (by decide) (fun _ => ?_) (fun c9 => absurd (nI_lt hj hn31) c9)
  exact hret _ _ _ _ _ hw rfl dX6_requireLayer_22

set_option maxHeartbeats 4000000 in
set_option maxRecDepth 100000 in
theorem x_X6_requireLayer (l : Launch) (hlt : l.stackTraces = false) (G : va_G) (dA : Nat → ClassId) (sa : Nat → Nat) (L : List Nat) (f : Nat → va_E) (x bs ks ar le t pl n hr : Nat) (i : Int32) (hLx : x ∈ L) (hfx : f x = .inr (7, [.int (nI n), .ref bs, .ref ks, .ref ar, .ref le, .ref t, .ref pl, .int (nI hr)])) (hbad : i < 0 ∨ nI n ≤ i)  : mX l yX6_requireLayer wsX6_requireLayer ({ frames := 7, cells := 1, slots := 6, locals := 95 }) G dA [.ref x, .int i] L f sa 0 := by
  refine mX_of (cc := cX6_requireLayer) (maxL := 2) (by decide) rfl (Nat.le_of_ble_eq_true rfl) ?_
  intro p e s m below meth c A ls hx hb hml hown hts hlocks hA ht hE hw hl
  have hown : s.vm.findClass RX6 = some m.cls := hown
  have hl : lv_has ls 2 [(0, .ref x), (1, .int i)] := hl
  have hi6 : ∀ w ∈ u_ws RX6 TX6 8, w ∈ wsX6_requireLayer := by decide +kernel
  refine lv_iload_n hx hb dX6_requireLayer_0 rfl (lv_at hl 1 rfl) ?_
  refine lv_if_lt (tgt := 12) hx hb dX6_requireLayer_1 (by decide) (fun c1 => ?_) (fun c1 => ?_)
  · exact mX_throw (k := 0) (is := 199) (text := "no such layer") hx hb hlt (by decide) hown hE hw ht (List.mem_of_getElem? (i := 6) (by decide)) (by rw [hml]; exact hl.1) dX6_requireLayer_12 dX6_requireLayer_15 dX6_requireLayer_16 dX6_requireLayer_18 dX6_requireLayer_21 (by decide) (Nat.le_of_ble_eq_true rfl) (by decide) (by decide) hlocks
  · refine lv_iload_n hx hb dX6_requireLayer_4 rfl (lv_at hl 1 rfl) ?_
    refine lv_aload_n hx hb dX6_requireLayer_5 rfl (lv_at hl 0 rfl) ?_
    refine wg (C := RX6) (T := TX6) (N := 8) hx hb hts hi6 hown hw hLx hfx rfl 0 (by decide) (hts (.fieldLink RX6 18 "LayerMoisture" "layerCount" "I") (by decide +kernel)) (fun _ h9 => h9) (v := .int (nI n)) rfl dX6_requireLayer_6 ?_
    refine lv_icmp_lt (tgt := 22) hx hb dX6_requireLayer_9 (by decide) (fun c9 => absurd c9 (fun h7 => hbad.elim c1 (fun h8 => absurd h7 (Int32.not_lt.mpr h8)))) (fun _ => ?_)
    exact mX_throw (k := 0) (is := 199) (text := "no such layer") hx hb hlt (by decide) hown hE hw ht (List.mem_of_getElem? (i := 6) (by decide)) (by rw [hml]; exact hl.1) dX6_requireLayer_12 dX6_requireLayer_15 dX6_requireLayer_16 dX6_requireLayer_18 dX6_requireLayer_21 (by decide) (Nat.le_of_ble_eq_true rfl) (by decide) (by decide) hlocks

set_option maxHeartbeats 4000000 in
set_option maxRecDepth 100000 in
theorem c_X6_requireThere (l : Launch) (G : va_G) (dA : Nat → ClassId) (L : List Nat) (f : Nat → va_E) (b w k : Nat) (th lim kept : Int32) (dep load : UInt64) (hLb : b ∈ L) (hfb : f b = .inr (2, [.ref w, .ref k, .int th, .double dep, .int lim, .double load, .int kept])) (hth : ¬ th = 0)  : mV l yX6_requireThere wsX6_requireThere ({ frames := 0, cells := 0, slots := 0, locals := 0 }) G dA [.ref b] L f (fun f2 => f2 = f) := by
  refine mV_of (cc := cX6_requireThere) (maxL := 1) (by decide) rfl (Nat.le_of_ble_eq_true rfl) ?_
  intro p e s m below meth c A ls Q hx hb hml hown hts hlocks hA hin0 hw hl hret
  have hown : s.vm.findClass RX6 = some m.cls := hown
  have hl : lv_has ls 1 [(0, .ref b)] := hl
  have hi1 : ∀ w ∈ u_ws RX1 TX1 7, w ∈ wsX6_requireThere := by decide +kernel
  refine lv_aload_n hx hb dX6_requireThere_0 rfl (lv_at hl 0 rfl) ?_
  refine wg (C := RX1) (T := TX1) (N := 7) hx hb hts hi1 hown hw hLb hfb rfl 2 (by decide) (hts (.fieldLink RX6 201 "LayerMoisture$Board" "there" "Z") (by decide +kernel)) (fun _ h9 => h9) (v := .int th) rfl dX6_requireThere_1 ?_
  refine lv_if_ne (tgt := 17) hx hb dX6_requireThere_4 (by decide) (fun _ => ?_) (fun c9 => absurd c9 hth)
  exact hret _ _ _ _ _ hw rfl dX6_requireThere_17

set_option maxHeartbeats 4000000 in
set_option maxRecDepth 100000 in
theorem x_X6_requireThere (l : Launch) (hlt : l.stackTraces = false) (G : va_G) (dA : Nat → ClassId) (sa : Nat → Nat) (L : List Nat) (f : Nat → va_E) (b w k : Nat) (th lim kept : Int32) (dep load : UInt64) (hLb : b ∈ L) (hfb : f b = .inr (2, [.ref w, .ref k, .int th, .double dep, .int lim, .double load, .int kept])) (hth : th = 0)  : mX l yX6_requireThere wsX6_requireThere ({ frames := 7, cells := 1, slots := 6, locals := 95 }) G dA [.ref b] L f sa 2 := by
  refine mX_of (cc := cX6_requireThere) (maxL := 1) (by decide) rfl (Nat.le_of_ble_eq_true rfl) ?_
  intro p e s m below meth c A ls hx hb hml hown hts hlocks hA ht hE hw hl
  have hown : s.vm.findClass RX6 = some m.cls := hown
  have hl : lv_has ls 1 [(0, .ref b)] := hl
  have hi1 : ∀ w ∈ u_ws RX1 TX1 7, w ∈ wsX6_requireThere := by decide +kernel
  refine lv_aload_n hx hb dX6_requireThere_0 rfl (lv_at hl 0 rfl) ?_
  refine wg (C := RX1) (T := TX1) (N := 7) hx hb hts hi1 hown hw hLb hfb rfl 2 (by decide) (hts (.fieldLink RX6 201 "LayerMoisture$Board" "there" "Z") (by decide +kernel)) (fun _ h9 => h9) (v := .int th) rfl dX6_requireThere_1 ?_
  refine lv_if_ne (tgt := 17) hx hb dX6_requireThere_4 (by decide) (fun c9 => absurd c9 (fun h7 => h7 hth)) (fun _ => ?_)
  exact mX_throw (k := 2) (is := 207) (text := "that board is not there") hx hb hlt (by decide) hown hE hw ht (List.mem_of_getElem? (i := 7) (by decide)) (by rw [hml]; exact hl.1) dX6_requireThere_7 dX6_requireThere_10 dX6_requireThere_11 dX6_requireThere_13 dX6_requireThere_16 (by decide) (Nat.le_of_ble_eq_true rfl) (by decide) (by decide) hlocks

set_option maxHeartbeats 4000000 in
set_option maxRecDepth 100000 in
theorem c_X6_requireWithin (l : Launch) (G : va_G) (dA : Nat → ClassId) (L : List Nat) (f : Nat → va_E) (x lo hi : UInt64)  (hin : inR x lo hi)  : mV l yX6_requireWithin wsX6_requireWithin ({ frames := 0, cells := 0, slots := 0, locals := 0 }) G dA [.double x, .double lo, .double hi] L f (fun f2 => f2 = f) := by
  refine mV_of (cc := cX6_requireWithin) (maxL := 6) (by decide) rfl (Nat.le_of_ble_eq_true rfl) ?_
  intro p e s m below meth c A ls Q hx hb hml hown hts hlocks hA hin0 hw hl hret
  have hown : s.vm.findClass RX6 = some m.cls := hown
  have hl : lv_has ls 6 [(0, .double x), (2, .double lo), (4, .double hi)] := hl
  refine lv_dload_n hx hb dX6_requireWithin_0 rfl (lv_at hl 0 rfl) ?_
  refine lv_dload_n hx hb dX6_requireWithin_1 rfl (lv_at hl 1 rfl) ?_
  refine lv_dcmp hx hb dX6_requireWithin_2 ?_
  refine lv_if_lt (tgt := 13) hx hb dX6_requireWithin_3 (by decide) (fun c9 => absurd c9 (fun h7 => cmp_lt0 h7 hin.1)) (fun _ => ?_)
  refine lv_dload_n hx hb dX6_requireWithin_6 rfl (lv_at hl 0 rfl) ?_
  refine lv_dload hx hb dX6_requireWithin_7 (lv_at hl 2 rfl) ?_
  refine lv_dcmp hx hb dX6_requireWithin_9 ?_
  refine lv_if_le (tgt := 23) hx hb dX6_requireWithin_10 (by decide) (fun _ => ?_) (fun c9 => absurd (Classical.byContradiction fun h7 => cmp_ngle h7 hin.2) c9)
  exact hret _ _ _ _ _ hw rfl dX6_requireWithin_23

set_option maxHeartbeats 4000000 in
set_option maxRecDepth 100000 in
theorem x_X6_requireWithin (l : Launch) (hlt : l.stackTraces = false) (G : va_G) (dA : Nat → ClassId) (sa : Nat → Nat) (L : List Nat) (f : Nat → va_E) (x lo hi : UInt64)  (hbad : ¬ inR x lo hi)  : mX l yX6_requireWithin wsX6_requireWithin ({ frames := 7, cells := 1, slots := 6, locals := 95 }) G dA [.double x, .double lo, .double hi] L f sa 1 := by
  refine mX_of (cc := cX6_requireWithin) (maxL := 6) (by decide) rfl (Nat.le_of_ble_eq_true rfl) ?_
  intro p e s m below meth c A ls hx hb hml hown hts hlocks hA ht hE hw hl
  have hown : s.vm.findClass RX6 = some m.cls := hown
  have hl : lv_has ls 6 [(0, .double x), (2, .double lo), (4, .double hi)] := hl
  refine lv_dload_n hx hb dX6_requireWithin_0 rfl (lv_at hl 0 rfl) ?_
  refine lv_dload_n hx hb dX6_requireWithin_1 rfl (lv_at hl 1 rfl) ?_
  refine lv_dcmp hx hb dX6_requireWithin_2 ?_
  refine lv_if_lt (tgt := 13) hx hb dX6_requireWithin_3 (by decide) (fun c3 => ?_) (fun c3 => ?_)
  · exact mX_throw (k := 1) (is := 210) (text := "a number is beyond its bounds") hx hb hlt (by decide) hown hE hw ht (List.mem_of_getElem? (i := 8) (by decide)) (by rw [hml]; exact hl.1) dX6_requireWithin_13 dX6_requireWithin_16 dX6_requireWithin_17 dX6_requireWithin_19 dX6_requireWithin_22 (by decide) (Nat.le_of_ble_eq_true rfl) (by decide) (by decide) hlocks
  · refine lv_dload_n hx hb dX6_requireWithin_6 rfl (lv_at hl 0 rfl) ?_
    refine lv_dload hx hb dX6_requireWithin_7 (lv_at hl 2 rfl) ?_
    refine lv_dcmp hx hb dX6_requireWithin_9 ?_
    refine lv_if_le (tgt := 23) hx hb dX6_requireWithin_10 (by decide) (fun c9 => absurd c9 (fun h7 => hbad ⟨cmp_nlt0 c3, cmp_gle h7⟩)) (fun _ => ?_)
    exact mX_throw (k := 1) (is := 210) (text := "a number is beyond its bounds") hx hb hlt (by decide) hown hE hw ht (List.mem_of_getElem? (i := 8) (by decide)) (by rw [hml]; exact hl.1) dX6_requireWithin_13 dX6_requireWithin_16 dX6_requireWithin_17 dX6_requireWithin_19 dX6_requireWithin_22 (by decide) (Nat.le_of_ble_eq_true rfl) (by decide) (by decide) hlocks
