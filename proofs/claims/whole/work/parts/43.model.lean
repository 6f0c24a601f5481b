/-! ===== the reference's cells by code ===== -/
def MX (ad : Nat → Nat) (dA : Nat → ClassId) (n nb : Nat) (kel : UInt64) (dmp : UInt64) (spd : UInt64) (ven : UInt64) (lef : UInt64) (gon : Int64) (hr : Nat) (tl : Nat) (st : Nat) (dn : Nat) (thr : Int32) (pa : Nat) (bad : Int32) (num : Int32) (RA : Nat → UInt64) (RB : Nat → UInt64) (TH : Nat → Int32) (DE : Nat → UInt64) (KI : Nat → Int32) (WE : Nat → UInt64) (NX : Nat → UInt64) (LI : Nat → Int32) (LM : Nat → UInt64) (KE : Nat → Int32) (TX : Nat → Int32) (BW : Nat → Int32) (TI : Nat → Int32) (KV : Nat → Int32) (DM : Nat → Int32) (f0 f : Nat → va_E) : Prop :=
  f (ad 16) = .inr (8, [.int thr, .int (nI n), .int (nI nb), .ref (ad 17), .ref (ad 18), .double kel, .double dmp, .double spd, .double ven, .double lef, .long gon, .int (nI hr), .ref (ad 19), .ref (ad 20), .ref (ad 21), .ref (ad 22), .ref (ad 23), .ref (ad 24), .ref (ad 25), .ref (ad 26), .ref (ad 27), .int (nI tl), .int (nI pa), .int bad, .int num, .ref (ad 28), .ref (ad 29), .ref (ad 30), .ref (ad 31), .int (nI st), .int (nI dn)]) ∧
  f (ad 17) = aD (dA 1) 4 RA ∧
  f (ad 18) = aD (dA 1) 4 RB ∧
  f (ad 19) = aI (dA 3) 8 TH ∧
  f (ad 20) = aD (dA 1) 8 DE ∧
  f (ad 21) = aI (dA 2) 8 KI ∧
  f (ad 22) = aD (dA 1) 128 WE ∧
  f (ad 23) = aD (dA 1) 16 NX ∧
  f (ad 24) = aI (dA 3) 8 LI ∧
  f (ad 25) = aD (dA 1) 8 LM ∧
  f (ad 26) = aI (dA 2) 8 KE ∧
  f (ad 27) = aI (dA 2) 200 TX ∧
  f (ad 28) = aI (dA 3) 12 BW ∧
  f (ad 29) = aI (dA 2) 12 TI ∧
  f (ad 30) = aI (dA 2) 12 KV ∧
  f (ad 31) = aI (dA 2) 12 DM ∧
  (∀ i, i < 34 + 2 * nb → (i < 16 ∨ 32 ≤ i) → f (ad i) = f0 (ad i))
section MXL
variable {ad : Nat → Nat} {dA : Nat → ClassId} {n nb : Nat} {q qk : Nat → Option Nat} {L : List Nat} {kel : UInt64} {dmp : UInt64} {spd : UInt64} {ven : UInt64} {lef : UInt64} {gon : Int64} {hr : Nat} {tl : Nat} {st : Nat} {dn : Nat} {thr : Int32} {pa : Nat} {bad : Int32} {num : Int32} {RA : Nat → UInt64} {RB : Nat → UInt64} {TH : Nat → Int32} {DE : Nat → UInt64} {KI : Nat → Int32} {WE : Nat → UInt64} {NX : Nat → UInt64} {LI : Nat → Int32} {LM : Nat → UInt64} {KE : Nat → Int32} {TX : Nat → Int32} {BW : Nat → Int32} {TI : Nat → Int32} {KV : Nat → Int32} {DM : Nat → Int32} {f0 f : Nat → va_E}
theorem MX.o (h : MX ad dA n nb kel dmp spd ven lef gon hr tl st dn thr pa bad num RA RB TH DE KI WE NX LI LM KE TX BW TI KV DM f0 f) : f (ad 16) = .inr (8, [.int thr, .int (nI n), .int (nI nb), .ref (ad 17), .ref (ad 18), .double kel, .double dmp, .double spd, .double ven, .double lef, .long gon, .int (nI hr), .ref (ad 19), .ref (ad 20), .ref (ad 21), .ref (ad 22), .ref (ad 23), .ref (ad 24), .ref (ad 25), .ref (ad 26), .ref (ad 27), .int (nI tl), .int (nI pa), .int bad, .int num, .ref (ad 28), .ref (ad 29), .ref (ad 30), .ref (ad 31), .int (nI st), .int (nI dn)]) := h.1
theorem MX.aRA (h : MX ad dA n nb kel dmp spd ven lef gon hr tl st dn thr pa bad num RA RB TH DE KI WE NX LI LM KE TX BW TI KV DM f0 f) : f (ad 17) = aD (dA 1) 4 RA := h.2.1
theorem MX.aRB (h : MX ad dA n nb kel dmp spd ven lef gon hr tl st dn thr pa bad num RA RB TH DE KI WE NX LI LM KE TX BW TI KV DM f0 f) : f (ad 18) = aD (dA 1) 4 RB := h.2.2.1
theorem MX.aTH (h : MX ad dA n nb kel dmp spd ven lef gon hr tl st dn thr pa bad num RA RB TH DE KI WE NX LI LM KE TX BW TI KV DM f0 f) : f (ad 19) = aI (dA 3) 8 TH := h.2.2.2.1
theorem MX.aDE (h : MX ad dA n nb kel dmp spd ven lef gon hr tl st dn thr pa bad num RA RB TH DE KI WE NX LI LM KE TX BW TI KV DM f0 f) : f (ad 20) = aD (dA 1) 8 DE := h.2.2.2.2.1
theorem MX.aKI (h : MX ad dA n nb kel dmp spd ven lef gon hr tl st dn thr pa bad num RA RB TH DE KI WE NX LI LM KE TX BW TI KV DM f0 f) : f (ad 21) = aI (dA 2) 8 KI := h.2.2.2.2.2.1
theorem MX.aWE (h : MX ad dA n nb kel dmp spd ven lef gon hr tl st dn thr pa bad num RA RB TH DE KI WE NX LI LM KE TX BW TI KV DM f0 f) : f (ad 22) = aD (dA 1) 128 WE := h.2.2.2.2.2.2.1
theorem MX.aNX (h : MX ad dA n nb kel dmp spd ven lef gon hr tl st dn thr pa bad num RA RB TH DE KI WE NX LI LM KE TX BW TI KV DM f0 f) : f (ad 23) = aD (dA 1) 16 NX := h.2.2.2.2.2.2.2.1
theorem MX.aLI (h : MX ad dA n nb kel dmp spd ven lef gon hr tl st dn thr pa bad num RA RB TH DE KI WE NX LI LM KE TX BW TI KV DM f0 f) : f (ad 24) = aI (dA 3) 8 LI := h.2.2.2.2.2.2.2.2.1
theorem MX.aLM (h : MX ad dA n nb kel dmp spd ven lef gon hr tl st dn thr pa bad num RA RB TH DE KI WE NX LI LM KE TX BW TI KV DM f0 f) : f (ad 25) = aD (dA 1) 8 LM := h.2.2.2.2.2.2.2.2.2.1
theorem MX.aKE (h : MX ad dA n nb kel dmp spd ven lef gon hr tl st dn thr pa bad num RA RB TH DE KI WE NX LI LM KE TX BW TI KV DM f0 f) : f (ad 26) = aI (dA 2) 8 KE := h.2.2.2.2.2.2.2.2.2.2.1
theorem MX.aTX (h : MX ad dA n nb kel dmp spd ven lef gon hr tl st dn thr pa bad num RA RB TH DE KI WE NX LI LM KE TX BW TI KV DM f0 f) : f (ad 27) = aI (dA 2) 200 TX := h.2.2.2.2.2.2.2.2.2.2.2.1
theorem MX.aBW (h : MX ad dA n nb kel dmp spd ven lef gon hr tl st dn thr pa bad num RA RB TH DE KI WE NX LI LM KE TX BW TI KV DM f0 f) : f (ad 28) = aI (dA 3) 12 BW := h.2.2.2.2.2.2.2.2.2.2.2.2.1
theorem MX.aTI (h : MX ad dA n nb kel dmp spd ven lef gon hr tl st dn thr pa bad num RA RB TH DE KI WE NX LI LM KE TX BW TI KV DM f0 f) : f (ad 29) = aI (dA 2) 12 TI := h.2.2.2.2.2.2.2.2.2.2.2.2.2.1
theorem MX.aKV (h : MX ad dA n nb kel dmp spd ven lef gon hr tl st dn thr pa bad num RA RB TH DE KI WE NX LI LM KE TX BW TI KV DM f0 f) : f (ad 30) = aI (dA 2) 12 KV := h.2.2.2.2.2.2.2.2.2.2.2.2.2.2.1
theorem MX.aDM (h : MX ad dA n nb kel dmp spd ven lef gon hr tl st dn thr pa bad num RA RB TH DE KI WE NX LI LM KE TX BW TI KV DM f0 f) : f (ad 31) = aI (dA 2) 12 DM := h.2.2.2.2.2.2.2.2.2.2.2.2.2.2.2.1
theorem MX.fr (h : MX ad dA n nb kel dmp spd ven lef gon hr tl st dn thr pa bad num RA RB TH DE KI WE NX LI LM KE TX BW TI KV DM f0 f) {i : Nat} (hi : i < 34 + 2 * nb) (h2 : i < 16 ∨ 32 ≤ i) : f (ad i) = f0 (ad i) := h.2.2.2.2.2.2.2.2.2.2.2.2.2.2.2.2 i hi h2
theorem MX.sO (hC : Cx ad L n nb q qk) (h : MX ad dA n nb kel dmp spd ven lef gon hr tl st dn thr pa bad num RA RB TH DE KI WE NX LI LM KE TX BW TI KV DM f0 f) (kel2 : UInt64) (dmp2 : UInt64) (spd2 : UInt64) (ven2 : UInt64) (lef2 : UInt64) (gon2 : Int64) (hr2 : Nat) (tl2 : Nat) (st2 : Nat) (dn2 : Nat) (thr2 : Int32) (pa2 : Nat) (bad2 : Int32) (num2 : Int32) : MX ad dA n nb kel2 dmp2 spd2 ven2 lef2 gon2 hr2 tl2 st2 dn2 thr2 pa2 bad2 num2 RA RB TH DE KI WE NX LI LM KE TX BW TI KV DM f0 (va_up f (ad 16) (.inr (8, [.int thr2, .int (nI n), .int (nI nb), .ref (ad 17), .ref (ad 18), .double kel2, .double dmp2, .double spd2, .double ven2, .double lef2, .long gon2, .int (nI hr2), .ref (ad 19), .ref (ad 20), .ref (ad 21), .ref (ad 22), .ref (ad 23), .ref (ad 24), .ref (ad 25), .ref (ad 26), .ref (ad 27), .int (nI tl2), .int (nI pa2), .int bad2, .int num2, .ref (ad 28), .ref (ad 29), .ref (ad 30), .ref (ad 31), .int (nI st2), .int (nI dn2)]))) :=
  ⟨va_up_self _ _ _,
   (va_up_ne _ _ (hC.ne (by omega) (by omega) (by omega))).trans h.aRA,
   (va_up_ne _ _ (hC.ne (by omega) (by omega) (by omega))).trans h.aRB,
   (va_up_ne _ _ (hC.ne (by omega) (by omega) (by omega))).trans h.aTH,
   (va_up_ne _ _ (hC.ne (by omega) (by omega) (by omega))).trans h.aDE,
   (va_up_ne _ _ (hC.ne (by omega) (by omega) (by omega))).trans h.aKI,
   (va_up_ne _ _ (hC.ne (by omega) (by omega) (by omega))).trans h.aWE,
   (va_up_ne _ _ (hC.ne (by omega) (by omega) (by omega))).trans h.aNX,
   (va_up_ne _ _ (hC.ne (by omega) (by omega) (by omega))).trans h.aLI,
   (va_up_ne _ _ (hC.ne (by omega) (by omega) (by omega))).trans h.aLM,
   (va_up_ne _ _ (hC.ne (by omega) (by omega) (by omega))).trans h.aKE,
   (va_up_ne _ _ (hC.ne (by omega) (by omega) (by omega))).trans h.aTX,
   (va_up_ne _ _ (hC.ne (by omega) (by omega) (by omega))).trans h.aBW,
   (va_up_ne _ _ (hC.ne (by omega) (by omega) (by omega))).trans h.aTI,
   (va_up_ne _ _ (hC.ne (by omega) (by omega) (by omega))).trans h.aKV,
   (va_up_ne _ _ (hC.ne (by omega) (by omega) (by omega))).trans h.aDM,
   (fun i hi h2 => (va_up_ne _ _ (hC.ne (by omega) (by omega) (by omega))).trans (h.fr hi h2))⟩
theorem MX.sRA (hC : Cx ad L n nb q qk) (h : MX ad dA n nb kel dmp spd ven lef gon hr tl st dn thr pa bad num RA RB TH DE KI WE NX LI LM KE TX BW TI KV DM f0 f) (v2 : Nat → UInt64) : MX ad dA n nb kel dmp spd ven lef gon hr tl st dn thr pa bad num v2 RB TH DE KI WE NX LI LM KE TX BW TI KV DM f0 (va_up f (ad 17) (aD (dA 1) 4 v2)) :=
  ⟨(va_up_ne _ _ (hC.ne (by omega) (by omega) (by omega))).trans h.o,
   va_up_self _ _ _,
   (va_up_ne _ _ (hC.ne (by omega) (by omega) (by omega))).trans h.aRB,
   (va_up_ne _ _ (hC.ne (by omega) (by omega) (by omega))).trans h.aTH,
   (va_up_ne _ _ (hC.ne (by omega) (by omega) (by omega))).trans h.aDE,
   (va_up_ne _ _ (hC.ne (by omega) (by omega) (by omega))).trans h.aKI,
   (va_up_ne _ _ (hC.ne (by omega) (by omega) (by omega))).trans h.aWE,
   (va_up_ne _ _ (hC.ne (by omega) (by omega) (by omega))).trans h.aNX,
   (va_up_ne _ _ (hC.ne (by omega) (by omega) (by omega))).trans h.aLI,
   (va_up_ne _ _ (hC.ne (by omega) (by omega) (by omega))).trans h.aLM,
   (va_up_ne _ _ (hC.ne (by omega) (by omega) (by omega))).trans h.aKE,
   (va_up_ne _ _ (hC.ne (by omega) (by omega) (by omega))).trans h.aTX,
   (va_up_ne _ _ (hC.ne (by omega) (by omega) (by omega))).trans h.aBW,
   (va_up_ne _ _ (hC.ne (by omega) (by omega) (by omega))).trans h.aTI,
   (va_up_ne _ _ (hC.ne (by omega) (by omega) (by omega))).trans h.aKV,
   (va_up_ne _ _ (hC.ne (by omega) (by omega) (by omega))).trans h.aDM,
   (fun i hi h2 => (va_up_ne _ _ (hC.ne (by omega) (by omega) (by omega))).trans (h.fr hi h2))⟩
theorem MX.sRB (hC : Cx ad L n nb q qk) (h : MX ad dA n nb kel dmp spd ven lef gon hr tl st dn thr pa bad num RA RB TH DE KI WE NX LI LM KE TX BW TI KV DM f0 f) (v2 : Nat → UInt64) : MX ad dA n nb kel dmp spd ven lef gon hr tl st dn thr pa bad num RA v2 TH DE KI WE NX LI LM KE TX BW TI KV DM f0 (va_up f (ad 18) (aD (dA 1) 4 v2)) :=
  ⟨(va_up_ne _ _ (hC.ne (by omega) (by omega) (by omega))).trans h.o,
   (va_up_ne _ _ (hC.ne (by omega) (by omega) (by omega))).trans h.aRA,
   va_up_self _ _ _,
   (va_up_ne _ _ (hC.ne (by omega) (by omega) (by omega))).trans h.aTH,
   (va_up_ne _ _ (hC.ne (by omega) (by omega) (by omega))).trans h.aDE,
   (va_up_ne _ _ (hC.ne (by omega) (by omega) (by omega))).trans h.aKI,
   (va_up_ne _ _ (hC.ne (by omega) (by omega) (by omega))).trans h.aWE,
   (va_up_ne _ _ (hC.ne (by omega) (by omega) (by omega))).trans h.aNX,
   (va_up_ne _ _ (hC.ne (by omega) (by omega) (by omega))).trans h.aLI,
   (va_up_ne _ _ (hC.ne (by omega) (by omega) (by omega))).trans h.aLM,
   (va_up_ne _ _ (hC.ne (by omega) (by omega) (by omega))).trans h.aKE,
   (va_up_ne _ _ (hC.ne (by omega) (by omega) (by omega))).trans h.aTX,
   (va_up_ne _ _ (hC.ne (by omega) (by omega) (by omega))).trans h.aBW,
   (va_up_ne _ _ (hC.ne (by omega) (by omega) (by omega))).trans h.aTI,
   (va_up_ne _ _ (hC.ne (by omega) (by omega) (by omega))).trans h.aKV,
   (va_up_ne _ _ (hC.ne (by omega) (by omega) (by omega))).trans h.aDM,
   (fun i hi h2 => (va_up_ne _ _ (hC.ne (by omega) (by omega) (by omega))).trans (h.fr hi h2))⟩
theorem MX.sTH (hC : Cx ad L n nb q qk) (h : MX ad dA n nb kel dmp spd ven lef gon hr tl st dn thr pa bad num RA RB TH DE KI WE NX LI LM KE TX BW TI KV DM f0 f) (v2 : Nat → Int32) : MX ad dA n nb kel dmp spd ven lef gon hr tl st dn thr pa bad num RA RB v2 DE KI WE NX LI LM KE TX BW TI KV DM f0 (va_up f (ad 19) (aI (dA 3) 8 v2)) :=
  ⟨(va_up_ne _ _ (hC.ne (by omega) (by omega) (by omega))).trans h.o,
   (va_up_ne _ _ (hC.ne (by omega) (by omega) (by omega))).trans h.aRA,
   (va_up_ne _ _ (hC.ne (by omega) (by omega) (by omega))).trans h.aRB,
   va_up_self _ _ _,
   (va_up_ne _ _ (hC.ne (by omega) (by omega) (by omega))).trans h.aDE,
   (va_up_ne _ _ (hC.ne (by omega) (by omega) (by omega))).trans h.aKI,
   (va_up_ne _ _ (hC.ne (by omega) (by omega) (by omega))).trans h.aWE,
   (va_up_ne _ _ (hC.ne (by omega) (by omega) (by omega))).trans h.aNX,
   (va_up_ne _ _ (hC.ne (by omega) (by omega) (by omega))).trans h.aLI,
   (va_up_ne _ _ (hC.ne (by omega) (by omega) (by omega))).trans h.aLM,
   (va_up_ne _ _ (hC.ne (by omega) (by omega) (by omega))).trans h.aKE,
   (va_up_ne _ _ (hC.ne (by omega) (by omega) (by omega))).trans h.aTX,
   (va_up_ne _ _ (hC.ne (by omega) (by omega) (by omega))).trans h.aBW,
   (va_up_ne _ _ (hC.ne (by omega) (by omega) (by omega))).trans h.aTI,
   (va_up_ne _ _ (hC.ne (by omega) (by omega) (by omega))).trans h.aKV,
   (va_up_ne _ _ (hC.ne (by omega) (by omega) (by omega))).trans h.aDM,
   (fun i hi h2 => (va_up_ne _ _ (hC.ne (by omega) (by omega) (by omega))).trans (h.fr hi h2))⟩
theorem MX.sDE (hC : Cx ad L n nb q qk) (h : MX ad dA n nb kel dmp spd ven lef gon hr tl st dn thr pa bad num RA RB TH DE KI WE NX LI LM KE TX BW TI KV DM f0 f) (v2 : Nat → UInt64) : MX ad dA n nb kel dmp spd ven lef gon hr tl st dn thr pa bad num RA RB TH v2 KI WE NX LI LM KE TX BW TI KV DM f0 (va_up f (ad 20) (aD (dA 1) 8 v2)) :=
  ⟨(va_up_ne _ _ (hC.ne (by omega) (by omega) (by omega))).trans h.o,
   (va_up_ne _ _ (hC.ne (by omega) (by omega) (by omega))).trans h.aRA,
   (va_up_ne _ _ (hC.ne (by omega) (by omega) (by omega))).trans h.aRB,
   (va_up_ne _ _ (hC.ne (by omega) (by omega) (by omega))).trans h.aTH,
   va_up_self _ _ _,
   (va_up_ne _ _ (hC.ne (by omega) (by omega) (by omega))).trans h.aKI,
   (va_up_ne _ _ (hC.ne (by omega) (by omega) (by omega))).trans h.aWE,
   (va_up_ne _ _ (hC.ne (by omega) (by omega) (by omega))).trans h.aNX,
   (va_up_ne _ _ (hC.ne (by omega) (by omega) (by omega))).trans h.aLI,
   (va_up_ne _ _ (hC.ne (by omega) (by omega) (by omega))).trans h.aLM,
   (va_up_ne _ _ (hC.ne (by omega) (by omega) (by omega))).trans h.aKE,
   (va_up_ne _ _ (hC.ne (by omega) (by omega) (by omega))).trans h.aTX,
   (va_up_ne _ _ (hC.ne (by omega) (by omega) (by omega))).trans h.aBW,
   (va_up_ne _ _ (hC.ne (by omega) (by omega) (by omega))).trans h.aTI,
   (va_up_ne _ _ (hC.ne (by omega) (by omega) (by omega))).trans h.aKV,
   (va_up_ne _ _ (hC.ne (by omega) (by omega) (by omega))).trans h.aDM,
   (fun i hi h2 => (va_up_ne _ _ (hC.ne (by omega) (by omega) (by omega))).trans (h.fr hi h2))⟩
theorem MX.sKI (hC : Cx ad L n nb q qk) (h : MX ad dA n nb kel dmp spd ven lef gon hr tl st dn thr pa bad num RA RB TH DE KI WE NX LI LM KE TX BW TI KV DM f0 f) (v2 : Nat → Int32) : MX ad dA n nb kel dmp spd ven lef gon hr tl st dn thr pa bad num RA RB TH DE v2 WE NX LI LM KE TX BW TI KV DM f0 (va_up f (ad 21) (aI (dA 2) 8 v2)) :=
  ⟨(va_up_ne _ _ (hC.ne (by omega) (by omega) (by omega))).trans h.o,
   (va_up_ne _ _ (hC.ne (by omega) (by omega) (by omega))).trans h.aRA,
   (va_up_ne _ _ (hC.ne (by omega) (by omega) (by omega))).trans h.aRB,
   (va_up_ne _ _ (hC.ne (by omega) (by omega) (by omega))).trans h.aTH,
   (va_up_ne _ _ (hC.ne (by omega) (by omega) (by omega))).trans h.aDE,
   va_up_self _ _ _,
   (va_up_ne _ _ (hC.ne (by omega) (by omega) (by omega))).trans h.aWE,
   (va_up_ne _ _ (hC.ne (by omega) (by omega) (by omega))).trans h.aNX,
   (va_up_ne _ _ (hC.ne (by omega) (by omega) (by omega))).trans h.aLI,
   (va_up_ne _ _ (hC.ne (by omega) (by omega) (by omega))).trans h.aLM,
   (va_up_ne _ _ (hC.ne (by omega) (by omega) (by omega))).trans h.aKE,
   (va_up_ne _ _ (hC.ne (by omega) (by omega) (by omega))).trans h.aTX,
   (va_up_ne _ _ (hC.ne (by omega) (by omega) (by omega))).trans h.aBW,
   (va_up_ne _ _ (hC.ne (by omega) (by omega) (by omega))).trans h.aTI,
   (va_up_ne _ _ (hC.ne (by omega) (by omega) (by omega))).trans h.aKV,
   (va_up_ne _ _ (hC.ne (by omega) (by omega) (by omega))).trans h.aDM,
   (fun i hi h2 => (va_up_ne _ _ (hC.ne (by omega) (by omega) (by omega))).trans (h.fr hi h2))⟩
theorem MX.sWE (hC : Cx ad L n nb q qk) (h : MX ad dA n nb kel dmp spd ven lef gon hr tl st dn thr pa bad num RA RB TH DE KI WE NX LI LM KE TX BW TI KV DM f0 f) (v2 : Nat → UInt64) : MX ad dA n nb kel dmp spd ven lef gon hr tl st dn thr pa bad num RA RB TH DE KI v2 NX LI LM KE TX BW TI KV DM f0 (va_up f (ad 22) (aD (dA 1) 128 v2)) :=
  ⟨(va_up_ne _ _ (hC.ne (by omega) (by omega) (by omega))).trans h.o,
   (va_up_ne _ _ (hC.ne (by omega) (by omega) (by omega))).trans h.aRA,
   (va_up_ne _ _ (hC.ne (by omega) (by omega) (by omega))).trans h.aRB,
   (va_up_ne _ _ (hC.ne (by omega) (by omega) (by omega))).trans h.aTH,
   (va_up_ne _ _ (hC.ne (by omega) (by omega) (by omega))).trans h.aDE,
   (va_up_ne _ _ (hC.ne (by omega) (by omega) (by omega))).trans h.aKI,
   va_up_self _ _ _,
   (va_up_ne _ _ (hC.ne (by omega) (by omega) (by omega))).trans h.aNX,
   (va_up_ne _ _ (hC.ne (by omega) (by omega) (by omega))).trans h.aLI,
   (va_up_ne _ _ (hC.ne (by omega) (by omega) (by omega))).trans h.aLM,
   (va_up_ne _ _ (hC.ne (by omega) (by omega) (by omega))).trans h.aKE,
   (va_up_ne _ _ (hC.ne (by omega) (by omega) (by omega))).trans h.aTX,
   (va_up_ne _ _ (hC.ne (by omega) (by omega) (by omega))).trans h.aBW,
   (va_up_ne _ _ (hC.ne (by omega) (by omega) (by omega))).trans h.aTI,
   (va_up_ne _ _ (hC.ne (by omega) (by omega) (by omega))).trans h.aKV,
   (va_up_ne _ _ (hC.ne (by omega) (by omega) (by omega))).trans h.aDM,
   (fun i hi h2 => (va_up_ne _ _ (hC.ne (by omega) (by omega) (by omega))).trans (h.fr hi h2))⟩
theorem MX.sNX (hC : Cx ad L n nb q qk) (h : MX ad dA n nb kel dmp spd ven lef gon hr tl st dn thr pa bad num RA RB TH DE KI WE NX LI LM KE TX BW TI KV DM f0 f) (v2 : Nat → UInt64) : MX ad dA n nb kel dmp spd ven lef gon hr tl st dn thr pa bad num RA RB TH DE KI WE v2 LI LM KE TX BW TI KV DM f0 (va_up f (ad 23) (aD (dA 1) 16 v2)) :=
  ⟨(va_up_ne _ _ (hC.ne (by omega) (by omega) (by omega))).trans h.o,
   (va_up_ne _ _ (hC.ne (by omega) (by omega) (by omega))).trans h.aRA,
   (va_up_ne _ _ (hC.ne (by omega) (by omega) (by omega))).trans h.aRB,
   (va_up_ne _ _ (hC.ne (by omega) (by omega) (by omega))).trans h.aTH,
   (va_up_ne _ _ (hC.ne (by omega) (by omega) (by omega))).trans h.aDE,
   (va_up_ne _ _ (hC.ne (by omega) (by omega) (by omega))).trans h.aKI,
   (va_up_ne _ _ (hC.ne (by omega) (by omega) (by omega))).trans h.aWE,
   va_up_self _ _ _,
   (va_up_ne _ _ (hC.ne (by omega) (by omega) (by omega))).trans h.aLI,
   (va_up_ne _ _ (hC.ne (by omega) (by omega) (by omega))).trans h.aLM,
   (va_up_ne _ _ (hC.ne (by omega) (by omega) (by omega))).trans h.aKE,
   (va_up_ne _ _ (hC.ne (by omega) (by omega) (by omega))).trans h.aTX,
   (va_up_ne _ _ (hC.ne (by omega) (by omega) (by omega))).trans h.aBW,
   (va_up_ne _ _ (hC.ne (by omega) (by omega) (by omega))).trans h.aTI,
   (va_up_ne _ _ (hC.ne (by omega) (by omega) (by omega))).trans h.aKV,
   (va_up_ne _ _ (hC.ne (by omega) (by omega) (by omega))).trans h.aDM,
   (fun i hi h2 => (va_up_ne _ _ (hC.ne (by omega) (by omega) (by omega))).trans (h.fr hi h2))⟩
theorem MX.sLI (hC : Cx ad L n nb q qk) (h : MX ad dA n nb kel dmp spd ven lef gon hr tl st dn thr pa bad num RA RB TH DE KI WE NX LI LM KE TX BW TI KV DM f0 f) (v2 : Nat → Int32) : MX ad dA n nb kel dmp spd ven lef gon hr tl st dn thr pa bad num RA RB TH DE KI WE NX v2 LM KE TX BW TI KV DM f0 (va_up f (ad 24) (aI (dA 3) 8 v2)) :=
  ⟨(va_up_ne _ _ (hC.ne (by omega) (by omega) (by omega))).trans h.o,
   (va_up_ne _ _ (hC.ne (by omega) (by omega) (by omega))).trans h.aRA,
   (va_up_ne _ _ (hC.ne (by omega) (by omega) (by omega))).trans h.aRB,
   (va_up_ne _ _ (hC.ne (by omega) (by omega) (by omega))).trans h.aTH,
   (va_up_ne _ _ (hC.ne (by omega) (by omega) (by omega))).trans h.aDE,
   (va_up_ne _ _ (hC.ne (by omega) (by omega) (by omega))).trans h.aKI,
   (va_up_ne _ _ (hC.ne (by omega) (by omega) (by omega))).trans h.aWE,
   (va_up_ne _ _ (hC.ne (by omega) (by omega) (by omega))).trans h.aNX,
   va_up_self _ _ _,
   (va_up_ne _ _ (hC.ne (by omega) (by omega) (by omega))).trans h.aLM,
   (va_up_ne _ _ (hC.ne (by omega) (by omega) (by omega))).trans h.aKE,
   (va_up_ne _ _ (hC.ne (by omega) (by omega) (by omega))).trans h.aTX,
   (va_up_ne _ _ (hC.ne (by omega) (by omega) (by omega))).trans h.aBW,
   (va_up_ne _ _ (hC.ne (by omega) (by omega) (by omega))).trans h.aTI,
   (va_up_ne _ _ (hC.ne (by omega) (by omega) (by omega))).trans h.aKV,
   (va_up_ne _ _ (hC.ne (by omega) (by omega) (by omega))).trans h.aDM,
   (fun i hi h2 => (va_up_ne _ _ (hC.ne (by omega) (by omega) (by omega))).trans (h.fr hi h2))⟩
theorem MX.sLM (hC : Cx ad L n nb q qk) (h : MX ad dA n nb kel dmp spd ven lef gon hr tl st dn thr pa bad num RA RB TH DE KI WE NX LI LM KE TX BW TI KV DM f0 f) (v2 : Nat → UInt64) : MX ad dA n nb kel dmp spd ven lef gon hr tl st dn thr pa bad num RA RB TH DE KI WE NX LI v2 KE TX BW TI KV DM f0 (va_up f (ad 25) (aD (dA 1) 8 v2)) :=
  ⟨(va_up_ne _ _ (hC.ne (by omega) (by omega) (by omega))).trans h.o,
   (va_up_ne _ _ (hC.ne (by omega) (by omega) (by omega))).trans h.aRA,
   (va_up_ne _ _ (hC.ne (by omega) (by omega) (by omega))).trans h.aRB,
   (va_up_ne _ _ (hC.ne (by omega) (by omega) (by omega))).trans h.aTH,
   (va_up_ne _ _ (hC.ne (by omega) (by omega) (by omega))).trans h.aDE,
   (va_up_ne _ _ (hC.ne (by omega) (by omega) (by omega))).trans h.aKI,
   (va_up_ne _ _ (hC.ne (by omega) (by omega) (by omega))).trans h.aWE,
   (va_up_ne _ _ (hC.ne (by omega) (by omega) (by omega))).trans h.aNX,
   (va_up_ne _ _ (hC.ne (by omega) (by omega) (by omega))).trans h.aLI,
   va_up_self _ _ _,
   (va_up_ne _ _ (hC.ne (by omega) (by omega) (by omega))).trans h.aKE,
   (va_up_ne _ _ (hC.ne (by omega) (by omega) (by omega))).trans h.aTX,
   (va_up_ne _ _ (hC.ne (by omega) (by omega) (by omega))).trans h.aBW,
   (va_up_ne _ _ (hC.ne (by omega) (by omega) (by omega))).trans h.aTI,
   (va_up_ne _ _ (hC.ne (by omega) (by omega) (by omega))).trans h.aKV,
   (va_up_ne _ _ (hC.ne (by omega) (by omega) (by omega))).trans h.aDM,
   (fun i hi h2 => (va_up_ne _ _ (hC.ne (by omega) (by omega) (by omega))).trans (h.fr hi h2))⟩
theorem MX.sKE (hC : Cx ad L n nb q qk) (h : MX ad dA n nb kel dmp spd ven lef gon hr tl st dn thr pa bad num RA RB TH DE KI WE NX LI LM KE TX BW TI KV DM f0 f) (v2 : Nat → Int32) : MX ad dA n nb kel dmp spd ven lef gon hr tl st dn thr pa bad num RA RB TH DE KI WE NX LI LM v2 TX BW TI KV DM f0 (va_up f (ad 26) (aI (dA 2) 8 v2)) :=
  ⟨(va_up_ne _ _ (hC.ne (by omega) (by omega) (by omega))).trans h.o,
   (va_up_ne _ _ (hC.ne (by omega) (by omega) (by omega))).trans h.aRA,
   (va_up_ne _ _ (hC.ne (by omega) (by omega) (by omega))).trans h.aRB,
   (va_up_ne _ _ (hC.ne (by omega) (by omega) (by omega))).trans h.aTH,
   (va_up_ne _ _ (hC.ne (by omega) (by omega) (by omega))).trans h.aDE,
   (va_up_ne _ _ (hC.ne (by omega) (by omega) (by omega))).trans h.aKI,
   (va_up_ne _ _ (hC.ne (by omega) (by omega) (by omega))).trans h.aWE,
   (va_up_ne _ _ (hC.ne (by omega) (by omega) (by omega))).trans h.aNX,
   (va_up_ne _ _ (hC.ne (by omega) (by omega) (by omega))).trans h.aLI,
   (va_up_ne _ _ (hC.ne (by omega) (by omega) (by omega))).trans h.aLM,
   va_up_self _ _ _,
   (va_up_ne _ _ (hC.ne (by omega) (by omega) (by omega))).trans h.aTX,
   (va_up_ne _ _ (hC.ne (by omega) (by omega) (by omega))).trans h.aBW,
   (va_up_ne _ _ (hC.ne (by omega) (by omega) (by omega))).trans h.aTI,
   (va_up_ne _ _ (hC.ne (by omega) (by omega) (by omega))).trans h.aKV,
   (va_up_ne _ _ (hC.ne (by omega) (by omega) (by omega))).trans h.aDM,
   (fun i hi h2 => (va_up_ne _ _ (hC.ne (by omega) (by omega) (by omega))).trans (h.fr hi h2))⟩
theorem MX.sTX (hC : Cx ad L n nb q qk) (h : MX ad dA n nb kel dmp spd ven lef gon hr tl st dn thr pa bad num RA RB TH DE KI WE NX LI LM KE TX BW TI KV DM f0 f) (v2 : Nat → Int32) : MX ad dA n nb kel dmp spd ven lef gon hr tl st dn thr pa bad num RA RB TH DE KI WE NX LI LM KE v2 BW TI KV DM f0 (va_up f (ad 27) (aI (dA 2) 200 v2)) :=
  ⟨(va_up_ne _ _ (hC.ne (by omega) (by omega) (by omega))).trans h.o,
   (va_up_ne _ _ (hC.ne (by omega) (by omega) (by omega))).trans h.aRA,
   (va_up_ne _ _ (hC.ne (by omega) (by omega) (by omega))).trans h.aRB,
   (va_up_ne _ _ (hC.ne (by omega) (by omega) (by omega))).trans h.aTH,
   (va_up_ne _ _ (hC.ne (by omega) (by omega) (by omega))).trans h.aDE,
   (va_up_ne _ _ (hC.ne (by omega) (by omega) (by omega))).trans h.aKI,
   (va_up_ne _ _ (hC.ne (by omega) (by omega) (by omega))).trans h.aWE,
   (va_up_ne _ _ (hC.ne (by omega) (by omega) (by omega))).trans h.aNX,
   (va_up_ne _ _ (hC.ne (by omega) (by omega) (by omega))).trans h.aLI,
   (va_up_ne _ _ (hC.ne (by omega) (by omega) (by omega))).trans h.aLM,
   (va_up_ne _ _ (hC.ne (by omega) (by omega) (by omega))).trans h.aKE,
   va_up_self _ _ _,
   (va_up_ne _ _ (hC.ne (by omega) (by omega) (by omega))).trans h.aBW,
   (va_up_ne _ _ (hC.ne (by omega) (by omega) (by omega))).trans h.aTI,
   (va_up_ne _ _ (hC.ne (by omega) (by omega) (by omega))).trans h.aKV,
   (va_up_ne _ _ (hC.ne (by omega) (by omega) (by omega))).trans h.aDM,
   (fun i hi h2 => (va_up_ne _ _ (hC.ne (by omega) (by omega) (by omega))).trans (h.fr hi h2))⟩
theorem MX.sBW (hC : Cx ad L n nb q qk) (h : MX ad dA n nb kel dmp spd ven lef gon hr tl st dn thr pa bad num RA RB TH DE KI WE NX LI LM KE TX BW TI KV DM f0 f) (v2 : Nat → Int32) : MX ad dA n nb kel dmp spd ven lef gon hr tl st dn thr pa bad num RA RB TH DE KI WE NX LI LM KE TX v2 TI KV DM f0 (va_up f (ad 28) (aI (dA 3) 12 v2)) :=
  ⟨(va_up_ne _ _ (hC.ne (by omega) (by omega) (by omega))).trans h.o,
   (va_up_ne _ _ (hC.ne (by omega) (by omega) (by omega))).trans h.aRA,
   (va_up_ne _ _ (hC.ne (by omega) (by omega) (by omega))).trans h.aRB,
   (va_up_ne _ _ (hC.ne (by omega) (by omega) (by omega))).trans h.aTH,
   (va_up_ne _ _ (hC.ne (by omega) (by omega) (by omega))).trans h.aDE,
   (va_up_ne _ _ (hC.ne (by omega) (by omega) (by omega))).trans h.aKI,
   (va_up_ne _ _ (hC.ne (by omega) (by omega) (by omega))).trans h.aWE,
   (va_up_ne _ _ (hC.ne (by omega) (by omega) (by omega))).trans h.aNX,
   (va_up_ne _ _ (hC.ne (by omega) (by omega) (by omega))).trans h.aLI,
   (va_up_ne _ _ (hC.ne (by omega) (by omega) (by omega))).trans h.aLM,
   (va_up_ne _ _ (hC.ne (by omega) (by omega) (by omega))).trans h.aKE,
   (va_up_ne _ _ (hC.ne (by omega) (by omega) (by omega))).trans h.aTX,
   va_up_self _ _ _,
   (va_up_ne _ _ (hC.ne (by omega) (by omega) (by omega))).trans h.aTI,
   (va_up_ne _ _ (hC.ne (by omega) (by omega) (by omega))).trans h.aKV,
   (va_up_ne _ _ (hC.ne (by omega) (by omega) (by omega))).trans h.aDM,
   (fun i hi h2 => (va_up_ne _ _ (hC.ne (by omega) (by omega) (by omega))).trans (h.fr hi h2))⟩
theorem MX.sTI (hC : Cx ad L n nb q qk) (h : MX ad dA n nb kel dmp spd ven lef gon hr tl st dn thr pa bad num RA RB TH DE KI WE NX LI LM KE TX BW TI KV DM f0 f) (v2 : Nat → Int32) : MX ad dA n nb kel dmp spd ven lef gon hr tl st dn thr pa bad num RA RB TH DE KI WE NX LI LM KE TX BW v2 KV DM f0 (va_up f (ad 29) (aI (dA 2) 12 v2)) :=
  ⟨(va_up_ne _ _ (hC.ne (by omega) (by omega) (by omega))).trans h.o,
   (va_up_ne _ _ (hC.ne (by omega) (by omega) (by omega))).trans h.aRA,
   (va_up_ne _ _ (hC.ne (by omega) (by omega) (by omega))).trans h.aRB,
   (va_up_ne _ _ (hC.ne (by omega) (by omega) (by omega))).trans h.aTH,
   (va_up_ne _ _ (hC.ne (by omega) (by omega) (by omega))).trans h.aDE,
   (va_up_ne _ _ (hC.ne (by omega) (by omega) (by omega))).trans h.aKI,
   (va_up_ne _ _ (hC.ne (by omega) (by omega) (by omega))).trans h.aWE,
   (va_up_ne _ _ (hC.ne (by omega) (by omega) (by omega))).trans h.aNX,
   (va_up_ne _ _ (hC.ne (by omega) (by omega) (by omega))).trans h.aLI,
   (va_up_ne _ _ (hC.ne (by omega) (by omega) (by omega))).trans h.aLM,
   (va_up_ne _ _ (hC.ne (by omega) (by omega) (by omega))).trans h.aKE,
   (va_up_ne _ _ (hC.ne (by omega) (by omega) (by omega))).trans h.aTX,
   (va_up_ne _ _ (hC.ne (by omega) (by omega) (by omega))).trans h.aBW,
   va_up_self _ _ _,
   (va_up_ne _ _ (hC.ne (by omega) (by omega) (by omega))).trans h.aKV,
   (va_up_ne _ _ (hC.ne (by omega) (by omega) (by omega))).trans h.aDM,
   (fun i hi h2 => (va_up_ne _ _ (hC.ne (by omega) (by omega) (by omega))).trans (h.fr hi h2))⟩
theorem MX.sKV (hC : Cx ad L n nb q qk) (h : MX ad dA n nb kel dmp spd ven lef gon hr tl st dn thr pa bad num RA RB TH DE KI WE NX LI LM KE TX BW TI KV DM f0 f) (v2 : Nat → Int32) : MX ad dA n nb kel dmp spd ven lef gon hr tl st dn thr pa bad num RA RB TH DE KI WE NX LI LM KE TX BW TI v2 DM f0 (va_up f (ad 30) (aI (dA 2) 12 v2)) :=
  ⟨(va_up_ne _ _ (hC.ne (by omega) (by omega) (by omega))).trans h.o,
   (va_up_ne _ _ (hC.ne (by omega) (by omega) (by omega))).trans h.aRA,
   (va_up_ne _ _ (hC.ne (by omega) (by omega) (by omega))).trans h.aRB,
   (va_up_ne _ _ (hC.ne (by omega) (by omega) (by omega))).trans h.aTH,
   (va_up_ne _ _ (hC.ne (by omega) (by omega) (by omega))).trans h.aDE,
   (va_up_ne _ _ (hC.ne (by omega) (by omega) (by omega))).trans h.aKI,
   (va_up_ne _ _ (hC.ne (by omega) (by omega) (by omega))).trans h.aWE,
   (va_up_ne _ _ (hC.ne (by omega) (by omega) (by omega))).trans h.aNX,
   (va_up_ne _ _ (hC.ne (by omega) (by omega) (by omega))).trans h.aLI,
   (va_up_ne _ _ (hC.ne (by omega) (by omega) (by omega))).trans h.aLM,
   (va_up_ne _ _ (hC.ne (by omega) (by omega) (by omega))).trans h.aKE,
   (va_up_ne _ _ (hC.ne (by omega) (by omega) (by omega))).trans h.aTX,
   (va_up_ne _ _ (hC.ne (by omega) (by omega) (by omega))).trans h.aBW,
   (va_up_ne _ _ (hC.ne (by omega) (by omega) (by omega))).trans h.aTI,
   va_up_self _ _ _,
   (va_up_ne _ _ (hC.ne (by omega) (by omega) (by omega))).trans h.aDM,
   (fun i hi h2 => (va_up_ne _ _ (hC.ne (by omega) (by omega) (by omega))).trans (h.fr hi h2))⟩
theorem MX.sDM (hC : Cx ad L n nb q qk) (h : MX ad dA n nb kel dmp spd ven lef gon hr tl st dn thr pa bad num RA RB TH DE KI WE NX LI LM KE TX BW TI KV DM f0 f) (v2 : Nat → Int32) : MX ad dA n nb kel dmp spd ven lef gon hr tl st dn thr pa bad num RA RB TH DE KI WE NX LI LM KE TX BW TI KV v2 f0 (va_up f (ad 31) (aI (dA 2) 12 v2)) :=
  ⟨(va_up_ne _ _ (hC.ne (by omega) (by omega) (by omega))).trans h.o,
   (va_up_ne _ _ (hC.ne (by omega) (by omega) (by omega))).trans h.aRA,
   (va_up_ne _ _ (hC.ne (by omega) (by omega) (by omega))).trans h.aRB,
   (va_up_ne _ _ (hC.ne (by omega) (by omega) (by omega))).trans h.aTH,
   (va_up_ne _ _ (hC.ne (by omega) (by omega) (by omega))).trans h.aDE,
   (va_up_ne _ _ (hC.ne (by omega) (by omega) (by omega))).trans h.aKI,
   (va_up_ne _ _ (hC.ne (by omega) (by omega) (by omega))).trans h.aWE,
   (va_up_ne _ _ (hC.ne (by omega) (by omega) (by omega))).trans h.aNX,
   (va_up_ne _ _ (hC.ne (by omega) (by omega) (by omega))).trans h.aLI,
   (va_up_ne _ _ (hC.ne (by omega) (by omega) (by omega))).trans h.aLM,
   (va_up_ne _ _ (hC.ne (by omega) (by omega) (by omega))).trans h.aKE,
   (va_up_ne _ _ (hC.ne (by omega) (by omega) (by omega))).trans h.aTX,
   (va_up_ne _ _ (hC.ne (by omega) (by omega) (by omega))).trans h.aBW,
   (va_up_ne _ _ (hC.ne (by omega) (by omega) (by omega))).trans h.aTI,
   (va_up_ne _ _ (hC.ne (by omega) (by omega) (by omega))).trans h.aKV,
   va_up_self _ _ _,
   (fun i hi h2 => (va_up_ne _ _ (hC.ne (by omega) (by omega) (by omega))).trans (h.fr hi h2))⟩
theorem MX.mv {f1 f2 : Nat → va_E} (h : MX ad dA n nb kel dmp spd ven lef gon hr tl st dn thr pa bad num RA RB TH DE KI WE NX LI LM KE TX BW TI KV DM f0 f) (h1 : ∀ i, 16 ≤ i → i < 32 → f2 (ad i) = f (ad i)) (h2 : ∀ i, i < 34 + 2 * nb → (i < 16 ∨ 32 ≤ i) → f2 (ad i) = f1 (ad i)) : MX ad dA n nb kel dmp spd ven lef gon hr tl st dn thr pa bad num RA RB TH DE KI WE NX LI LM KE TX BW TI KV DM f1 f2 :=
  ⟨(h1 16 (by omega) (by omega)).trans h.o, (h1 17 (by omega) (by omega)).trans h.aRA, (h1 18 (by omega) (by omega)).trans h.aRB, (h1 19 (by omega) (by omega)).trans h.aTH, (h1 20 (by omega) (by omega)).trans h.aDE, (h1 21 (by omega) (by omega)).trans h.aKI, (h1 22 (by omega) (by omega)).trans h.aWE, (h1 23 (by omega) (by omega)).trans h.aNX, (h1 24 (by omega) (by omega)).trans h.aLI, (h1 25 (by omega) (by omega)).trans h.aLM, (h1 26 (by omega) (by omega)).trans h.aKE, (h1 27 (by omega) (by omega)).trans h.aTX, (h1 28 (by omega) (by omega)).trans h.aBW, (h1 29 (by omega) (by omega)).trans h.aTI, (h1 30 (by omega) (by omega)).trans h.aKV, (h1 31 (by omega) (by omega)).trans h.aDM, h2⟩
end MXL
theorem nI_m16 (k : Nat) : 16 * nI k = nI (16 * k) := (Int32.ofNat_mul 16 k).symm
theorem nI_10 (k : Nat) : 10 * nI k = nI (10 * k) := (Int32.ofNat_mul 10 k).symm
def inB (x lo hi : UInt64) : Bool := (decide (FP.dcmp x lo = some .gt) || decide (FP.dcmp x lo = some .eq)) && (decide (FP.dcmp x hi = some .lt) || decide (FP.dcmp x hi = some .eq))
theorem inB_iff (x lo hi : UInt64) : inB x lo hi = true ↔ inR x lo hi := by
  unfold inB inR
  rw [Bool.and_eq_true, Bool.or_eq_true, Bool.or_eq_true, decide_eq_true_iff, decide_eq_true_iff, decide_eq_true_iff, decide_eq_true_iff]
theorem inB_t {x lo hi : UInt64} (h : inR x lo hi) : inB x lo hi = true := (inB_iff x lo hi).mpr h
theorem inB_f {x lo hi : UInt64} (h : ¬ inR x lo hi) : inB x lo hi = false := by
  cases e : inB x lo hi with
  | false => rfl
  | true => exact absurd ((inB_iff x lo hi).mp e) h
def noB (nb : Nat) (k : Int32) : Bool := decide (k < 0) || decide (nI nb ≤ k)
def noL (n nb : Nat) (k i : Int32) : Bool := noB nb k || (decide (i < 0) || decide (nI n ≤ i))
theorem noB_f {nb j : Nat} (hb : nb < 2 ^ 31) (h : j < nb) : noB nb (nI j) = false := by
  unfold noB
  rw [decide_eq_false (nI_pos (by omega)), decide_eq_false (nI_ge h hb)]; rfl
theorem noB_t {nb : Nat} {k : Int32} (h : k < 0 ∨ nI nb ≤ k) : noB nb k = true := by
  unfold noB
  rw [Bool.or_eq_true, decide_eq_true_iff, decide_eq_true_iff]; exact h
theorem noL_f {n nb j i : Nat} (hb : nb < 2 ^ 31) (hn : n < 2 ^ 31) (h : j < nb) (hi : i < n) : noL n nb (nI j) (nI i) = false := by
  unfold noL
  rw [noB_f hb h, decide_eq_false (nI_pos (by omega)), decide_eq_false (nI_ge hi hn)]; rfl
theorem noL_t1 {n nb : Nat} {k i : Int32} (h : k < 0 ∨ nI nb ≤ k) : noL n nb k i = true := by
  unfold noL; rw [noB_t h]; rfl
theorem noL_t2 {n nb : Nat} {k i : Int32} (h : i < 0 ∨ nI n ≤ i) : noL n nb k i = true := by
  unfold noL
  rw [Bool.or_eq_true, Bool.or_eq_true, decide_eq_true_iff, decide_eq_true_iff]; exact Or.inr h
theorem sumD_congr {g h : Nat → UInt64} : ∀ (i : Nat), (∀ j, j < i → g j = h j) → sumD g i = sumD h i
  | 0, _ => rfl
  | i + 1, e => by rw [sumD, sumD, sumD_congr i (fun j hj => e j (by omega)), e i (by omega)]
theorem maxD_congr {g h : Nat → UInt64} : ∀ (i : Nat), (∀ j, j < i → g j = h j) → maxD g i = maxD h i
  | 0, _ => rfl
  | i + 1, e => by rw [maxD, maxD, maxD_congr i (fun j hj => e j (by omega)), e i (by omega)]
theorem b2i_t {b : Bool} (h : ¬ b2i b = 0) : b = true := by cases b with | true => rfl | false => exact absurd rfl h
theorem b2i_f {b : Bool} (h : b2i b = 0) : b = false := by cases b with | false => rfl | true => exact absurd h (by decide)
