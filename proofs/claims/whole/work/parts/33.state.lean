/-! ===== the component's state, and its cells by code ===== -/
abbrev sA : Type := UInt64 × UInt64 × UInt64 × UInt64
abbrev sL : Type := UInt64 × Int64
abbrev sB : Type := Int32 × UInt64 × Int32 × UInt64 × Int32 × Nat
abbrev sT : Type := Nat × (Nat → Int32)
abbrev sP : Type := Nat × Nat × (Nat → Int32) × (Nat → Int32) × (Nat → Int32) × (Nat → Int32)
def Cx (ad : Nat → Nat) (L : List Nat) (n nb : Nat) (q qk : Nat → Option Nat) : Prop :=
  (∀ i j, i < 34 + 2 * nb → j < 34 + 2 * nb → ad i = ad j → i = j) ∧ (∀ i, i < 34 + 2 * nb → ad i ∈ L) ∧ (1 ≤ n ∧ n ≤ 16) ∧ (1 ≤ nb ∧ nb ≤ 8) ∧ (∀ j, j < nb → q j = some (ad (34 + 2 * j))) ∧ (∀ j, j < 4 → qk j = some (ad (12 + j)))
section CXL
variable {ad : Nat → Nat} {L : List Nat} {n nb : Nat} {q qk : Nat → Option Nat}
theorem Cx.ne (hC : Cx ad L n nb q qk) {i j : Nat} (hi : i < 34 + 2 * nb) (hj : j < 34 + 2 * nb) (h : i ≠ j) : ad i ≠ ad j := fun e => h (hC.1 i j hi hj e)
theorem Cx.m (hC : Cx ad L n nb q qk) {i : Nat} (hi : i < 34) : ad i ∈ L := hC.2.1 i (by omega)
theorem Cx.mb (hC : Cx ad L n nb q qk) {k : Nat} (hk : k < nb) : ad (34 + 2 * k) ∈ L := hC.2.1 _ (by omega)
theorem Cx.mw (hC : Cx ad L n nb q qk) {k : Nat} (hk : k < nb) : ad (35 + 2 * k) ∈ L := hC.2.1 _ (by omega)
theorem Cx.mk (hC : Cx ad L n nb q qk) {k : Nat} (hk : k < 4) : ad (12 + k) ∈ L := hC.2.1 _ (by omega)
theorem Cx.n31 (hC : Cx ad L n nb q qk) : n < 2 ^ 31 := by have := hC.2.2.1; omega
theorem Cx.nb31 (hC : Cx ad L n nb q qk) : nb < 2 ^ 31 := by have := hC.2.2.2.1; omega
theorem Cx.wb (hC : Cx ad L n nb q qk) {k : Nat} (hk : k < nb) : ad (35 + 2 * k) ≠ ad (34 + 2 * k) := hC.ne (by omega) (by omega) (by omega)
theorem Cx.bw (hC : Cx ad L n nb q qk) {k : Nat} (hk : k < nb) : ad (34 + 2 * k) ≠ ad (35 + 2 * k) := hC.ne (by omega) (by omega) (by omega)
theorem Cx.kw (hC : Cx ad L n nb q qk) {k j : Nat} (hk : k < nb) (hj : j < 4) : ad (12 + j) ≠ ad (35 + 2 * k) := hC.ne (by omega) (by omega) (by omega)
end CXL
def RC (ad : Nat → Nat) (dA : Nat → ClassId) (n nb : Nat) (q qk : Nat → Option Nat) (ai : sA) (le : sL) (bd : Nat → sB) (wt : Nat → Nat → UInt64) (kk : Nat → UInt64 × UInt64) (tt : sT) (pn : sP) (hr : Nat) (f0 f : Nat → va_E) : Prop :=
  f (ad 0) = .inr (7, [.int (nI n), .ref (ad 1), .ref (ad 2), .ref (ad 3), .ref (ad 4), .ref (ad 5), .ref (ad 7), .int (nI hr)]) ∧
  f (ad 1) = aQ (dA 5) nb q ∧
  f (ad 2) = aQ (dA 6) 4 qk ∧
  f (ad 3) = .inr (1, [.double ai.1, .double ai.2.1, .double ai.2.2.1, .double ai.2.2.2]) ∧
  f (ad 4) = .inr (4, [.double le.1, .long le.2]) ∧
  f (ad 5) = .inr (6, [.ref (ad 6), .int (nI tt.1), .int (nI 0)]) ∧
  f (ad 6) = aI (dA 0) 200 tt.2 ∧
  f (ad 7) = .inr (5, [.ref (ad 8), .ref (ad 9), .ref (ad 10), .ref (ad 11), .int (nI pn.1), .int (nI pn.2.1)]) ∧
  f (ad 8) = aI (dA 3) 12 pn.2.2.1 ∧
  f (ad 9) = aI (dA 2) 12 pn.2.2.2.1 ∧
  f (ad 10) = aI (dA 2) 12 pn.2.2.2.2.1 ∧
  f (ad 11) = aI (dA 2) 12 pn.2.2.2.2.2 ∧
  (∀ j, j < 4 → f (ad (12 + j)) = .inr (3, [.double (kk j).1, .double (kk j).2])) ∧
  (∀ j, j < nb → f (ad (34 + 2 * j)) = .inr (2, [.ref (ad (35 + 2 * j)), .ref (ad (12 + (bd j).2.2.2.2.2)), .int (bd j).1, .double (bd j).2.1, .int (bd j).2.2.1, .double (bd j).2.2.2.1, .int (bd j).2.2.2.2.1])) ∧
  (∀ j, j < nb → f (ad (35 + 2 * j)) = aD (dA 1) n (wt j)) ∧
  (∀ i, 16 ≤ i → i < 34 → f (ad i) = f0 (ad i))
section RCL
variable {ad : Nat → Nat} {dA : Nat → ClassId} {n nb : Nat} {q qk : Nat → Option Nat} {ai : sA} {le : sL} {bd : Nat → sB} {wt : Nat → Nat → UInt64} {kk : Nat → UInt64 × UInt64} {tt : sT} {pn : sP} {hr : Nat} {f0 f : Nat → va_E} {L : List Nat}
theorem RC.x (h : RC ad dA n nb q qk ai le bd wt kk tt pn hr f0 f) : f (ad 0) = .inr (7, [.int (nI n), .ref (ad 1), .ref (ad 2), .ref (ad 3), .ref (ad 4), .ref (ad 5), .ref (ad 7), .int (nI hr)]) := h.1
theorem RC.bs (h : RC ad dA n nb q qk ai le bd wt kk tt pn hr f0 f) : f (ad 1) = aQ (dA 5) nb q := h.2.1
theorem RC.ks (h : RC ad dA n nb q qk ai le bd wt kk tt pn hr f0 f) : f (ad 2) = aQ (dA 6) 4 qk := h.2.2.1
theorem RC.air (h : RC ad dA n nb q qk ai le bd wt kk tt pn hr f0 f) : f (ad 3) = .inr (1, [.double ai.1, .double ai.2.1, .double ai.2.2.1, .double ai.2.2.2]) := h.2.2.2.1
theorem RC.led (h : RC ad dA n nb q qk ai le bd wt kk tt pn hr f0 f) : f (ad 4) = .inr (4, [.double le.1, .long le.2]) := h.2.2.2.2.1
theorem RC.txt (h : RC ad dA n nb q qk ai le bd wt kk tt pn hr f0 f) : f (ad 5) = .inr (6, [.ref (ad 6), .int (nI tt.1), .int (nI 0)]) := h.2.2.2.2.2.1
theorem RC.chr (h : RC ad dA n nb q qk ai le bd wt kk tt pn hr f0 f) : f (ad 6) = aI (dA 0) 200 tt.2 := h.2.2.2.2.2.2.1
theorem RC.pln (h : RC ad dA n nb q qk ai le bd wt kk tt pn hr f0 f) : f (ad 7) = .inr (5, [.ref (ad 8), .ref (ad 9), .ref (ad 10), .ref (ad 11), .int (nI pn.1), .int (nI pn.2.1)]) := h.2.2.2.2.2.2.2.1
theorem RC.pB (h : RC ad dA n nb q qk ai le bd wt kk tt pn hr f0 f) : f (ad 8) = aI (dA 3) 12 pn.2.2.1 := h.2.2.2.2.2.2.2.2.1
theorem RC.pT (h : RC ad dA n nb q qk ai le bd wt kk tt pn hr f0 f) : f (ad 9) = aI (dA 2) 12 pn.2.2.2.1 := h.2.2.2.2.2.2.2.2.2.1
theorem RC.pK (h : RC ad dA n nb q qk ai le bd wt kk tt pn hr f0 f) : f (ad 10) = aI (dA 2) 12 pn.2.2.2.2.1 := h.2.2.2.2.2.2.2.2.2.2.1
theorem RC.pD (h : RC ad dA n nb q qk ai le bd wt kk tt pn hr f0 f) : f (ad 11) = aI (dA 2) 12 pn.2.2.2.2.2 := h.2.2.2.2.2.2.2.2.2.2.2.1
theorem RC.kd (h : RC ad dA n nb q qk ai le bd wt kk tt pn hr f0 f) {j : Nat} (hj : j < 4) : f (ad (12 + j)) = .inr (3, [.double (kk j).1, .double (kk j).2]) := h.2.2.2.2.2.2.2.2.2.2.2.2.1 j hj
theorem RC.brd (h : RC ad dA n nb q qk ai le bd wt kk tt pn hr f0 f) {j : Nat} (hj : j < nb) : f (ad (34 + 2 * j)) = .inr (2, [.ref (ad (35 + 2 * j)), .ref (ad (12 + (bd j).2.2.2.2.2)), .int (bd j).1, .double (bd j).2.1, .int (bd j).2.2.1, .double (bd j).2.2.2.1, .int (bd j).2.2.2.2.1]) := h.2.2.2.2.2.2.2.2.2.2.2.2.2.1 j hj
theorem RC.wet (h : RC ad dA n nb q qk ai le bd wt kk tt pn hr f0 f) {j : Nat} (hj : j < nb) : f (ad (35 + 2 * j)) = aD (dA 1) n (wt j) := h.2.2.2.2.2.2.2.2.2.2.2.2.2.2.1 j hj
theorem RC.fr (h : RC ad dA n nb q qk ai le bd wt kk tt pn hr f0 f) {i : Nat} (h1 : 16 ≤ i) (h2 : i < 34) : f (ad i) = f0 (ad i) := h.2.2.2.2.2.2.2.2.2.2.2.2.2.2.2 i h1 h2
theorem RC.sHr (hC : Cx ad L n nb q qk) (h : RC ad dA n nb q qk ai le bd wt kk tt pn hr f0 f) (h2 : Nat) : RC ad dA n nb q qk ai le bd wt kk tt pn h2 f0 (va_up f (ad 0) (.inr (7, [.int (nI n), .ref (ad 1), .ref (ad 2), .ref (ad 3), .ref (ad 4), .ref (ad 5), .ref (ad 7), .int (nI h2)]))) :=
  ⟨va_up_self _ _ _,
   (va_up_ne _ _ (hC.ne (by omega) (by omega) (by omega))).trans h.bs,
   (va_up_ne _ _ (hC.ne (by omega) (by omega) (by omega))).trans h.ks,
   (va_up_ne _ _ (hC.ne (by omega) (by omega) (by omega))).trans h.air,
   (va_up_ne _ _ (hC.ne (by omega) (by omega) (by omega))).trans h.led,
   (va_up_ne _ _ (hC.ne (by omega) (by omega) (by omega))).trans h.txt,
   (va_up_ne _ _ (hC.ne (by omega) (by omega) (by omega))).trans h.chr,
   (va_up_ne _ _ (hC.ne (by omega) (by omega) (by omega))).trans h.pln,
   (va_up_ne _ _ (hC.ne (by omega) (by omega) (by omega))).trans h.pB,
   (va_up_ne _ _ (hC.ne (by omega) (by omega) (by omega))).trans h.pT,
   (va_up_ne _ _ (hC.ne (by omega) (by omega) (by omega))).trans h.pK,
   (va_up_ne _ _ (hC.ne (by omega) (by omega) (by omega))).trans h.pD,
   (fun j hj => (va_up_ne _ _ (hC.ne (by omega) (by omega) (by omega))).trans (h.kd hj)),
   (fun j hj => (va_up_ne _ _ (hC.ne (by omega) (by omega) (by omega))).trans (h.brd hj)),
   (fun j hj => (va_up_ne _ _ (hC.ne (by omega) (by omega) (by omega))).trans (h.wet hj)),
   (fun i h1 h2 => (va_up_ne _ _ (hC.ne (by omega) (by omega) (by omega))).trans (h.fr h1 h2))⟩
theorem RC.sAir (hC : Cx ad L n nb q qk) (h : RC ad dA n nb q qk ai le bd wt kk tt pn hr f0 f) (a2 : sA) : RC ad dA n nb q qk a2 le bd wt kk tt pn hr f0 (va_up f (ad 3) (.inr (1, [.double a2.1, .double a2.2.1, .double a2.2.2.1, .double a2.2.2.2]))) :=
  ⟨(va_up_ne _ _ (hC.ne (by omega) (by omega) (by omega))).trans h.x,
   (va_up_ne _ _ (hC.ne (by omega) (by omega) (by omega))).trans h.bs,
   (va_up_ne _ _ (hC.ne (by omega) (by omega) (by omega))).trans h.ks,
   va_up_self _ _ _,
   (va_up_ne _ _ (hC.ne (by omega) (by omega) (by omega))).trans h.led,
   (va_up_ne _ _ (hC.ne (by omega) (by omega) (by omega))).trans h.txt,
   (va_up_ne _ _ (hC.ne (by omega) (by omega) (by omega))).trans h.chr,
   (va_up_ne _ _ (hC.ne (by omega) (by omega) (by omega))).trans h.pln,
   (va_up_ne _ _ (hC.ne (by omega) (by omega) (by omega))).trans h.pB,
   (va_up_ne _ _ (hC.ne (by omega) (by omega) (by omega))).trans h.pT,
   (va_up_ne _ _ (hC.ne (by omega) (by omega) (by omega))).trans h.pK,
   (va_up_ne _ _ (hC.ne (by omega) (by omega) (by omega))).trans h.pD,
   (fun j hj => (va_up_ne _ _ (hC.ne (by omega) (by omega) (by omega))).trans (h.kd hj)),
   (fun j hj => (va_up_ne _ _ (hC.ne (by omega) (by omega) (by omega))).trans (h.brd hj)),
   (fun j hj => (va_up_ne _ _ (hC.ne (by omega) (by omega) (by omega))).trans (h.wet hj)),
   (fun i h1 h2 => (va_up_ne _ _ (hC.ne (by omega) (by omega) (by omega))).trans (h.fr h1 h2))⟩
theorem RC.sLed (hC : Cx ad L n nb q qk) (h : RC ad dA n nb q qk ai le bd wt kk tt pn hr f0 f) (l2 : sL) : RC ad dA n nb q qk ai l2 bd wt kk tt pn hr f0 (va_up f (ad 4) (.inr (4, [.double l2.1, .long l2.2]))) :=
  ⟨(va_up_ne _ _ (hC.ne (by omega) (by omega) (by omega))).trans h.x,
   (va_up_ne _ _ (hC.ne (by omega) (by omega) (by omega))).trans h.bs,
   (va_up_ne _ _ (hC.ne (by omega) (by omega) (by omega))).trans h.ks,
   (va_up_ne _ _ (hC.ne (by omega) (by omega) (by omega))).trans h.air,
   va_up_self _ _ _,
   (va_up_ne _ _ (hC.ne (by omega) (by omega) (by omega))).trans h.txt,
   (va_up_ne _ _ (hC.ne (by omega) (by omega) (by omega))).trans h.chr,
   (va_up_ne _ _ (hC.ne (by omega) (by omega) (by omega))).trans h.pln,
   (va_up_ne _ _ (hC.ne (by omega) (by omega) (by omega))).trans h.pB,
   (va_up_ne _ _ (hC.ne (by omega) (by omega) (by omega))).trans h.pT,
   (va_up_ne _ _ (hC.ne (by omega) (by omega) (by omega))).trans h.pK,
   (va_up_ne _ _ (hC.ne (by omega) (by omega) (by omega))).trans h.pD,
   (fun j hj => (va_up_ne _ _ (hC.ne (by omega) (by omega) (by omega))).trans (h.kd hj)),
   (fun j hj => (va_up_ne _ _ (hC.ne (by omega) (by omega) (by omega))).trans (h.brd hj)),
   (fun j hj => (va_up_ne _ _ (hC.ne (by omega) (by omega) (by omega))).trans (h.wet hj)),
   (fun i h1 h2 => (va_up_ne _ _ (hC.ne (by omega) (by omega) (by omega))).trans (h.fr h1 h2))⟩
theorem RC.sPln (hC : Cx ad L n nb q qk) (h : RC ad dA n nb q qk ai le bd wt kk tt pn hr f0 f) (s2 d2 : Nat) : RC ad dA n nb q qk ai le bd wt kk tt ((s2, d2, pn.2.2)) hr f0 (va_up f (ad 7) (.inr (5, [.ref (ad 8), .ref (ad 9), .ref (ad 10), .ref (ad 11), .int (nI s2), .int (nI d2)]))) :=
  ⟨(va_up_ne _ _ (hC.ne (by omega) (by omega) (by omega))).trans h.x,
   (va_up_ne _ _ (hC.ne (by omega) (by omega) (by omega))).trans h.bs,
   (va_up_ne _ _ (hC.ne (by omega) (by omega) (by omega))).trans h.ks,
   (va_up_ne _ _ (hC.ne (by omega) (by omega) (by omega))).trans h.air,
   (va_up_ne _ _ (hC.ne (by omega) (by omega) (by omega))).trans h.led,
   (va_up_ne _ _ (hC.ne (by omega) (by omega) (by omega))).trans h.txt,
   (va_up_ne _ _ (hC.ne (by omega) (by omega) (by omega))).trans h.chr,
   va_up_self _ _ _,
   (va_up_ne _ _ (hC.ne (by omega) (by omega) (by omega))).trans h.pB,
   (va_up_ne _ _ (hC.ne (by omega) (by omega) (by omega))).trans h.pT,
   (va_up_ne _ _ (hC.ne (by omega) (by omega) (by omega))).trans h.pK,
   (va_up_ne _ _ (hC.ne (by omega) (by omega) (by omega))).trans h.pD,
   (fun j hj => (va_up_ne _ _ (hC.ne (by omega) (by omega) (by omega))).trans (h.kd hj)),
   (fun j hj => (va_up_ne _ _ (hC.ne (by omega) (by omega) (by omega))).trans (h.brd hj)),
   (fun j hj => (va_up_ne _ _ (hC.ne (by omega) (by omega) (by omega))).trans (h.wet hj)),
   (fun i h1 h2 => (va_up_ne _ _ (hC.ne (by omega) (by omega) (by omega))).trans (h.fr h1 h2))⟩
theorem RC.sTxt (hC : Cx ad L n nb q qk) (h : RC ad dA n nb q qk ai le bd wt kk tt pn hr f0 f) (t2 : Nat) : RC ad dA n nb q qk ai le bd wt kk ((t2, tt.2)) pn hr f0 (va_up f (ad 5) (.inr (6, [.ref (ad 6), .int (nI t2), .int (nI 0)]))) :=
  ⟨(va_up_ne _ _ (hC.ne (by omega) (by omega) (by omega))).trans h.x,
   (va_up_ne _ _ (hC.ne (by omega) (by omega) (by omega))).trans h.bs,
   (va_up_ne _ _ (hC.ne (by omega) (by omega) (by omega))).trans h.ks,
   (va_up_ne _ _ (hC.ne (by omega) (by omega) (by omega))).trans h.air,
   (va_up_ne _ _ (hC.ne (by omega) (by omega) (by omega))).trans h.led,
   va_up_self _ _ _,
   (va_up_ne _ _ (hC.ne (by omega) (by omega) (by omega))).trans h.chr,
   (va_up_ne _ _ (hC.ne (by omega) (by omega) (by omega))).trans h.pln,
   (va_up_ne _ _ (hC.ne (by omega) (by omega) (by omega))).trans h.pB,
   (va_up_ne _ _ (hC.ne (by omega) (by omega) (by omega))).trans h.pT,
   (va_up_ne _ _ (hC.ne (by omega) (by omega) (by omega))).trans h.pK,
   (va_up_ne _ _ (hC.ne (by omega) (by omega) (by omega))).trans h.pD,
   (fun j hj => (va_up_ne _ _ (hC.ne (by omega) (by omega) (by omega))).trans (h.kd hj)),
   (fun j hj => (va_up_ne _ _ (hC.ne (by omega) (by omega) (by omega))).trans (h.brd hj)),
   (fun j hj => (va_up_ne _ _ (hC.ne (by omega) (by omega) (by omega))).trans (h.wet hj)),
   (fun i h1 h2 => (va_up_ne _ _ (hC.ne (by omega) (by omega) (by omega))).trans (h.fr h1 h2))⟩
theorem RC.sChr (hC : Cx ad L n nb q qk) (h : RC ad dA n nb q qk ai le bd wt kk tt pn hr f0 f) (c2 : Nat → Int32) : RC ad dA n nb q qk ai le bd wt kk ((tt.1, c2)) pn hr f0 (va_up f (ad 6) (aI (dA 0) 200 c2)) :=
  ⟨(va_up_ne _ _ (hC.ne (by omega) (by omega) (by omega))).trans h.x,
   (va_up_ne _ _ (hC.ne (by omega) (by omega) (by omega))).trans h.bs,
   (va_up_ne _ _ (hC.ne (by omega) (by omega) (by omega))).trans h.ks,
   (va_up_ne _ _ (hC.ne (by omega) (by omega) (by omega))).trans h.air,
   (va_up_ne _ _ (hC.ne (by omega) (by omega) (by omega))).trans h.led,
   (va_up_ne _ _ (hC.ne (by omega) (by omega) (by omega))).trans h.txt,
   va_up_self _ _ _,
   (va_up_ne _ _ (hC.ne (by omega) (by omega) (by omega))).trans h.pln,
   (va_up_ne _ _ (hC.ne (by omega) (by omega) (by omega))).trans h.pB,
   (va_up_ne _ _ (hC.ne (by omega) (by omega) (by omega))).trans h.pT,
   (va_up_ne _ _ (hC.ne (by omega) (by omega) (by omega))).trans h.pK,
   (va_up_ne _ _ (hC.ne (by omega) (by omega) (by omega))).trans h.pD,
   (fun j hj => (va_up_ne _ _ (hC.ne (by omega) (by omega) (by omega))).trans (h.kd hj)),
   (fun j hj => (va_up_ne _ _ (hC.ne (by omega) (by omega) (by omega))).trans (h.brd hj)),
   (fun j hj => (va_up_ne _ _ (hC.ne (by omega) (by omega) (by omega))).trans (h.wet hj)),
   (fun i h1 h2 => (va_up_ne _ _ (hC.ne (by omega) (by omega) (by omega))).trans (h.fr h1 h2))⟩
theorem RC.sPB (hC : Cx ad L n nb q qk) (h : RC ad dA n nb q qk ai le bd wt kk tt pn hr f0 f) (c2 : Nat → Int32) : RC ad dA n nb q qk ai le bd wt kk tt ((pn.1, pn.2.1, c2, pn.2.2.2)) hr f0 (va_up f (ad 8) (aI (dA 3) 12 c2)) :=
  ⟨(va_up_ne _ _ (hC.ne (by omega) (by omega) (by omega))).trans h.x,
   (va_up_ne _ _ (hC.ne (by omega) (by omega) (by omega))).trans h.bs,
   (va_up_ne _ _ (hC.ne (by omega) (by omega) (by omega))).trans h.ks,
   (va_up_ne _ _ (hC.ne (by omega) (by omega) (by omega))).trans h.air,
   (va_up_ne _ _ (hC.ne (by omega) (by omega) (by omega))).trans h.led,
   (va_up_ne _ _ (hC.ne (by omega) (by omega) (by omega))).trans h.txt,
   (va_up_ne _ _ (hC.ne (by omega) (by omega) (by omega))).trans h.chr,
   (va_up_ne _ _ (hC.ne (by omega) (by omega) (by omega))).trans h.pln,
   va_up_self _ _ _,
   (va_up_ne _ _ (hC.ne (by omega) (by omega) (by omega))).trans h.pT,
   (va_up_ne _ _ (hC.ne (by omega) (by omega) (by omega))).trans h.pK,
   (va_up_ne _ _ (hC.ne (by omega) (by omega) (by omega))).trans h.pD,
   (fun j hj => (va_up_ne _ _ (hC.ne (by omega) (by omega) (by omega))).trans (h.kd hj)),
   (fun j hj => (va_up_ne _ _ (hC.ne (by omega) (by omega) (by omega))).trans (h.brd hj)),
   (fun j hj => (va_up_ne _ _ (hC.ne (by omega) (by omega) (by omega))).trans (h.wet hj)),
   (fun i h1 h2 => (va_up_ne _ _ (hC.ne (by omega) (by omega) (by omega))).trans (h.fr h1 h2))⟩
theorem RC.sPT (hC : Cx ad L n nb q qk) (h : RC ad dA n nb q qk ai le bd wt kk tt pn hr f0 f) (c2 : Nat → Int32) : RC ad dA n nb q qk ai le bd wt kk tt ((pn.1, pn.2.1, pn.2.2.1, c2, pn.2.2.2.2)) hr f0 (va_up f (ad 9) (aI (dA 2) 12 c2)) :=
  ⟨(va_up_ne _ _ (hC.ne (by omega) (by omega) (by omega))).trans h.x,
   (va_up_ne _ _ (hC.ne (by omega) (by omega) (by omega))).trans h.bs,
   (va_up_ne _ _ (hC.ne (by omega) (by omega) (by omega))).trans h.ks,
   (va_up_ne _ _ (hC.ne (by omega) (by omega) (by omega))).trans h.air,
   (va_up_ne _ _ (hC.ne (by omega) (by omega) (by omega))).trans h.led,
   (va_up_ne _ _ (hC.ne (by omega) (by omega) (by omega))).trans h.txt,
   (va_up_ne _ _ (hC.ne (by omega) (by omega) (by omega))).trans h.chr,
   (va_up_ne _ _ (hC.ne (by omega) (by omega) (by omega))).trans h.pln,
   (va_up_ne _ _ (hC.ne (by omega) (by omega) (by omega))).trans h.pB,
   va_up_self _ _ _,
   (va_up_ne _ _ (hC.ne (by omega) (by omega) (by omega))).trans h.pK,
   (va_up_ne _ _ (hC.ne (by omega) (by omega) (by omega))).trans h.pD,
   (fun j hj => (va_up_ne _ _ (hC.ne (by omega) (by omega) (by omega))).trans (h.kd hj)),
   (fun j hj => (va_up_ne _ _ (hC.ne (by omega) (by omega) (by omega))).trans (h.brd hj)),
   (fun j hj => (va_up_ne _ _ (hC.ne (by omega) (by omega) (by omega))).trans (h.wet hj)),
   (fun i h1 h2 => (va_up_ne _ _ (hC.ne (by omega) (by omega) (by omega))).trans (h.fr h1 h2))⟩
theorem RC.sPK (hC : Cx ad L n nb q qk) (h : RC ad dA n nb q qk ai le bd wt kk tt pn hr f0 f) (c2 : Nat → Int32) : RC ad dA n nb q qk ai le bd wt kk tt ((pn.1, pn.2.1, pn.2.2.1, pn.2.2.2.1, c2, pn.2.2.2.2.2)) hr f0 (va_up f (ad 10) (aI (dA 2) 12 c2)) :=
  ⟨(va_up_ne _ _ (hC.ne (by omega) (by omega) (by omega))).trans h.x,
   (va_up_ne _ _ (hC.ne (by omega) (by omega) (by omega))).trans h.bs,
   (va_up_ne _ _ (hC.ne (by omega) (by omega) (by omega))).trans h.ks,
   (va_up_ne _ _ (hC.ne (by omega) (by omega) (by omega))).trans h.air,
   (va_up_ne _ _ (hC.ne (by omega) (by omega) (by omega))).trans h.led,
   (va_up_ne _ _ (hC.ne (by omega) (by omega) (by omega))).trans h.txt,
   (va_up_ne _ _ (hC.ne (by omega) (by omega) (by omega))).trans h.chr,
   (va_up_ne _ _ (hC.ne (by omega) (by omega) (by omega))).trans h.pln,
   (va_up_ne _ _ (hC.ne (by omega) (by omega) (by omega))).trans h.pB,
   (va_up_ne _ _ (hC.ne (by omega) (by omega) (by omega))).trans h.pT,
   va_up_self _ _ _,
   (va_up_ne _ _ (hC.ne (by omega) (by omega) (by omega))).trans h.pD,
   (fun j hj => (va_up_ne _ _ (hC.ne (by omega) (by omega) (by omega))).trans (h.kd hj)),
   (fun j hj => (va_up_ne _ _ (hC.ne (by omega) (by omega) (by omega))).trans (h.brd hj)),
   (fun j hj => (va_up_ne _ _ (hC.ne (by omega) (by omega) (by omega))).trans (h.wet hj)),
   (fun i h1 h2 => (va_up_ne _ _ (hC.ne (by omega) (by omega) (by omega))).trans (h.fr h1 h2))⟩
theorem RC.sPD (hC : Cx ad L n nb q qk) (h : RC ad dA n nb q qk ai le bd wt kk tt pn hr f0 f) (c2 : Nat → Int32) : RC ad dA n nb q qk ai le bd wt kk tt ((pn.1, pn.2.1, pn.2.2.1, pn.2.2.2.1, pn.2.2.2.2.1, c2)) hr f0 (va_up f (ad 11) (aI (dA 2) 12 c2)) :=
  ⟨(va_up_ne _ _ (hC.ne (by omega) (by omega) (by omega))).trans h.x,
   (va_up_ne _ _ (hC.ne (by omega) (by omega) (by omega))).trans h.bs,
   (va_up_ne _ _ (hC.ne (by omega) (by omega) (by omega))).trans h.ks,
   (va_up_ne _ _ (hC.ne (by omega) (by omega) (by omega))).trans h.air,
   (va_up_ne _ _ (hC.ne (by omega) (by omega) (by omega))).trans h.led,
   (va_up_ne _ _ (hC.ne (by omega) (by omega) (by omega))).trans h.txt,
   (va_up_ne _ _ (hC.ne (by omega) (by omega) (by omega))).trans h.chr,
   (va_up_ne _ _ (hC.ne (by omega) (by omega) (by omega))).trans h.pln,
   (va_up_ne _ _ (hC.ne (by omega) (by omega) (by omega))).trans h.pB,
   (va_up_ne _ _ (hC.ne (by omega) (by omega) (by omega))).trans h.pT,
   (va_up_ne _ _ (hC.ne (by omega) (by omega) (by omega))).trans h.pK,
   va_up_self _ _ _,
   (fun j hj => (va_up_ne _ _ (hC.ne (by omega) (by omega) (by omega))).trans (h.kd hj)),
   (fun j hj => (va_up_ne _ _ (hC.ne (by omega) (by omega) (by omega))).trans (h.brd hj)),
   (fun j hj => (va_up_ne _ _ (hC.ne (by omega) (by omega) (by omega))).trans (h.wet hj)),
   (fun i h1 h2 => (va_up_ne _ _ (hC.ne (by omega) (by omega) (by omega))).trans (h.fr h1 h2))⟩
theorem RC.sKd (hC : Cx ad L n nb q qk) (h : RC ad dA n nb q qk ai le bd wt kk tt pn hr f0 f) {k : Nat} (hk : k < 4) (v : UInt64 × UInt64) : RC ad dA n nb q qk ai le bd wt (va_up kk k v) tt pn hr f0 (va_up f (ad (12 + k)) (.inr (3, [.double v.1, .double v.2]))) :=
  ⟨(va_up_ne _ _ (hC.ne (by omega) (by omega) (by omega))).trans h.x,
   (va_up_ne _ _ (hC.ne (by omega) (by omega) (by omega))).trans h.bs,
   (va_up_ne _ _ (hC.ne (by omega) (by omega) (by omega))).trans h.ks,
   (va_up_ne _ _ (hC.ne (by omega) (by omega) (by omega))).trans h.air,
   (va_up_ne _ _ (hC.ne (by omega) (by omega) (by omega))).trans h.led,
   (va_up_ne _ _ (hC.ne (by omega) (by omega) (by omega))).trans h.txt,
   (va_up_ne _ _ (hC.ne (by omega) (by omega) (by omega))).trans h.chr,
   (va_up_ne _ _ (hC.ne (by omega) (by omega) (by omega))).trans h.pln,
   (va_up_ne _ _ (hC.ne (by omega) (by omega) (by omega))).trans h.pB,
   (va_up_ne _ _ (hC.ne (by omega) (by omega) (by omega))).trans h.pT,
   (va_up_ne _ _ (hC.ne (by omega) (by omega) (by omega))).trans h.pK,
   (va_up_ne _ _ (hC.ne (by omega) (by omega) (by omega))).trans h.pD,
   (fun j hj => (Decidable.em (j = k)).elim (fun e => by subst e; rw [va_up_self, va_up_self]) (fun e => by rw [va_up_ne _ _ (hC.ne (by omega) (by omega) (by omega)), va_up_ne _ _ e]; exact h.kd hj)),
   (fun j hj => (va_up_ne _ _ (hC.ne (by omega) (by omega) (by omega))).trans (h.brd hj)),
   (fun j hj => (va_up_ne _ _ (hC.ne (by omega) (by omega) (by omega))).trans (h.wet hj)),
   (fun i h1 h2 => (va_up_ne _ _ (hC.ne (by omega) (by omega) (by omega))).trans (h.fr h1 h2))⟩
theorem RC.sBrd (hC : Cx ad L n nb q qk) (h : RC ad dA n nb q qk ai le bd wt kk tt pn hr f0 f) {k : Nat} (hk : k < nb) (v : sB) : RC ad dA n nb q qk ai le (va_up bd k v) wt kk tt pn hr f0 (va_up f (ad (34 + 2 * k)) (.inr (2, [.ref (ad (35 + 2 * k)), .ref (ad (12 + v.2.2.2.2.2)), .int v.1, .double v.2.1, .int v.2.2.1, .double v.2.2.2.1, .int v.2.2.2.2.1]))) :=
  ⟨(va_up_ne _ _ (hC.ne (by omega) (by omega) (by omega))).trans h.x,
   (va_up_ne _ _ (hC.ne (by omega) (by omega) (by omega))).trans h.bs,
   (va_up_ne _ _ (hC.ne (by omega) (by omega) (by omega))).trans h.ks,
   (va_up_ne _ _ (hC.ne (by omega) (by omega) (by omega))).trans h.air,
   (va_up_ne _ _ (hC.ne (by omega) (by omega) (by omega))).trans h.led,
   (va_up_ne _ _ (hC.ne (by omega) (by omega) (by omega))).trans h.txt,
   (va_up_ne _ _ (hC.ne (by omega) (by omega) (by omega))).trans h.chr,
   (va_up_ne _ _ (hC.ne (by omega) (by omega) (by omega))).trans h.pln,
   (va_up_ne _ _ (hC.ne (by omega) (by omega) (by omega))).trans h.pB,
   (va_up_ne _ _ (hC.ne (by omega) (by omega) (by omega))).trans h.pT,
   (va_up_ne _ _ (hC.ne (by omega) (by omega) (by omega))).trans h.pK,
   (va_up_ne _ _ (hC.ne (by omega) (by omega) (by omega))).trans h.pD,
   (fun j hj => (va_up_ne _ _ (hC.ne (by omega) (by omega) (by omega))).trans (h.kd hj)),
   (fun j hj => (Decidable.em (j = k)).elim (fun e => by subst e; rw [va_up_self, va_up_self]) (fun e => by rw [va_up_ne _ _ (hC.ne (by omega) (by omega) (by omega)), va_up_ne _ _ e]; exact h.brd hj)),
   (fun j hj => (va_up_ne _ _ (hC.ne (by omega) (by omega) (by omega))).trans (h.wet hj)),
   (fun i h1 h2 => (va_up_ne _ _ (hC.ne (by omega) (by omega) (by omega))).trans (h.fr h1 h2))⟩
theorem RC.sWet (hC : Cx ad L n nb q qk) (h : RC ad dA n nb q qk ai le bd wt kk tt pn hr f0 f) {k : Nat} (hk : k < nb) (v : Nat → UInt64) : RC ad dA n nb q qk ai le bd (va_up wt k v) kk tt pn hr f0 (va_up f (ad (35 + 2 * k)) (aD (dA 1) n v)) :=
  ⟨(va_up_ne _ _ (hC.ne (by omega) (by omega) (by omega))).trans h.x,
   (va_up_ne _ _ (hC.ne (by omega) (by omega) (by omega))).trans h.bs,
   (va_up_ne _ _ (hC.ne (by omega) (by omega) (by omega))).trans h.ks,
   (va_up_ne _ _ (hC.ne (by omega) (by omega) (by omega))).trans h.air,
   (va_up_ne _ _ (hC.ne (by omega) (by omega) (by omega))).trans h.led,
   (va_up_ne _ _ (hC.ne (by omega) (by omega) (by omega))).trans h.txt,
   (va_up_ne _ _ (hC.ne (by omega) (by omega) (by omega))).trans h.chr,
   (va_up_ne _ _ (hC.ne (by omega) (by omega) (by omega))).trans h.pln,
   (va_up_ne _ _ (hC.ne (by omega) (by omega) (by omega))).trans h.pB,
   (va_up_ne _ _ (hC.ne (by omega) (by omega) (by omega))).trans h.pT,
   (va_up_ne _ _ (hC.ne (by omega) (by omega) (by omega))).trans h.pK,
   (va_up_ne _ _ (hC.ne (by omega) (by omega) (by omega))).trans h.pD,
   (fun j hj => (va_up_ne _ _ (hC.ne (by omega) (by omega) (by omega))).trans (h.kd hj)),
   (fun j hj => (va_up_ne _ _ (hC.ne (by omega) (by omega) (by omega))).trans (h.brd hj)),
   (fun j hj => (Decidable.em (j = k)).elim (fun e => by subst e; rw [va_up_self, va_up_self]) (fun e => by rw [va_up_ne _ _ (hC.ne (by omega) (by omega) (by omega)), va_up_ne _ _ e]; exact h.wet hj)),
   (fun i h1 h2 => (va_up_ne _ _ (hC.ne (by omega) (by omega) (by omega))).trans (h.fr h1 h2))⟩
theorem RC.re {f1 : Nat → va_E} (h : RC ad dA n nb q qk ai le bd wt kk tt pn hr f0 f) (h1 : ∀ i, 16 ≤ i → i < 34 → f0 (ad i) = f1 (ad i)) : RC ad dA n nb q qk ai le bd wt kk tt pn hr f1 f := by
  obtain ⟨a0, a1, a2, a3, a4, a5, a6, a7, a8, a9, a10, a11, a12, a13, a14, e⟩ := h
  exact ⟨a0, a1, a2, a3, a4, a5, a6, a7, a8, a9, a10, a11, a12, a13, a14, fun i a b => (e i a b).trans (h1 i a b)⟩
theorem RC.mv {f1 f2 : Nat → va_E} (h : RC ad dA n nb q qk ai le bd wt kk tt pn hr f0 f) (h1 : ∀ i, i < 34 + 2 * nb → (i < 16 ∨ 34 ≤ i) → f2 (ad i) = f (ad i)) (h2 : ∀ i, 16 ≤ i → i < 34 → f2 (ad i) = f1 (ad i)) : RC ad dA n nb q qk ai le bd wt kk tt pn hr f1 f2 :=
  ⟨(h1 0 (by omega) (by omega)).trans h.x, (h1 1 (by omega) (by omega)).trans h.bs, (h1 2 (by omega) (by omega)).trans h.ks, (h1 3 (by omega) (by omega)).trans h.air, (h1 4 (by omega) (by omega)).trans h.led, (h1 5 (by omega) (by omega)).trans h.txt, (h1 6 (by omega) (by omega)).trans h.chr, (h1 7 (by omega) (by omega)).trans h.pln, (h1 8 (by omega) (by omega)).trans h.pB, (h1 9 (by omega) (by omega)).trans h.pT, (h1 10 (by omega) (by omega)).trans h.pK, (h1 11 (by omega) (by omega)).trans h.pD, fun j hj => (h1 _ (by omega) (by omega)).trans (h.kd hj), fun j hj => (h1 _ (by omega) (by omega)).trans (h.brd hj), fun j hj => (h1 _ (by omega) (by omega)).trans (h.wet hj), h2⟩
end RCL
