/-! what each call of the path, the walkers, the steps and the images answers and does, in plain functions of the state (row, kept row, whether one is kept, findings told) -/
abbrev CS : Type := RS × RS × Bool × (Nat → Int32)
def fI (w : Nat) : Int32 := (-1000000001) - nI w
def bnd (R K : RS) (kp : Bool) (tc : Nat → Int32) (w : Nat) : Int32 × CS := (fI w, R, K, kp, upd tc w (tc w + nI 1))
def sR (R : RS) (x : Int32) : RS := ((R.1.1, x, R.1.2.2), R.2)
def sL (R : RS) (x : Int32) : RS := ((R.1.1, R.1.2.1, x, R.1.2.2.2), R.2)
def sB (R : RS) (x : Int32) : RS := ((R.1.1, R.1.2.1, R.1.2.2.1, x, R.1.2.2.2.2), R.2)
def sK (R : RS) (f : Nat → Int32) : RS := (R.1, f, R.2.2)
def sH (R : RS) (f : Nat → Int32) : RS := (R.1, R.2.1, f, R.2.2.2)
def sS (R : RS) (f : Nat → Int32) : RS := (R.1, R.2.1, R.2.2.1, f, R.2.2.2.2)
def sN (R : RS) (f : Nat → Int32) : RS := (R.1, R.2.1, R.2.2.1, R.2.2.2.1, f)
abbrev rT (R : RS) : Int32 := R.1.1
abbrev rR (R : RS) : Int32 := R.1.2.1
abbrev rL (R : RS) : Int32 := R.1.2.2.1
abbrev rB (R : RS) : Int32 := R.1.2.2.2.1
abbrev rK (R : RS) : Nat → Int32 := R.2.1
abbrev rH (R : RS) : Nat → Int32 := R.2.2.1
abbrev rS (R : RS) : Nat → Int32 := R.2.2.2.1
abbrev rN (R : RS) : Nat → Int32 := R.2.2.2.2
def addR (R : RS) (k : Int32) : RS := ((rT R, rR R, rL R, rB R, cnt R + 1), upd (rK R) (cnt R) k, upd (rH R) (cnt R) (nI 0), upd (rS R) (cnt R) (nI 0), upd (rN R) (cnt R) (nI 50))
def swR (R : RS) (p o : Nat) : RS := (R.1, swp (rK R) p o, swp (rH R) p o, swp (rS R) p o, swp (rN R) p o)
def o_roots (R K : RS) (kp : Bool) (tc : Nat → Int32) (x : Int32) : Int32 × CS := match inR x (nI 0) 1073741823 with
  | true => (rR R, sR R x, K, kp, tc)
  | false => bnd R K kp tc 0
def o_lantern (R K : RS) (kp : Bool) (tc : Nat → Int32) (x : Int32) : Int32 × CS := if x = -1 then (rL R, sL R x, K, kp, tc) else match hasB (cnt R) x with
  | true => (rL R, sL R x, K, kp, tc)
  | false => bnd R K kp tc 0
def o_bright (R K : RS) (kp : Bool) (tc : Nat → Int32) (x : Int32) : Int32 × CS := match inR x (nI 0) (nI 9) with
  | true => (rB R, sB R x, K, kp, tc)
  | false => bnd R K kp tc 0
def o_now (R K : RS) (kp : Bool) (tc : Nat → Int32) (w : Int32) : Int32 × CS :=
  if w = nI 0 then (rT R, R, K, kp, tc) else if w = nI 1 then (rR R, R, K, kp, tc) else if w = nI 2 then (rL R, R, K, kp, tc) else if w = nI 3 then (rB R, R, K, kp, tc) else
  if w = nI 4 then (litS (rL R) (rB R) (cnt R) (rK R), R, K, kp, tc) else if w = nI 5 then (setOf (atR (rT R) (rR R)) (cnt R), R, K, kp, tc) else if w = nI 6 then (hrdS (rH R) (cnt R), R, K, kp, tc) else
  if w = nI 7 then (sumF (rS R) (cnt R), R, K, kp, tc) else bnd R K kp tc 0
def o_walker (R K : RS) (kp : Bool) (tc : Nat → Int32) (k : Int32) : Int32 × CS := match inR k (nI 0) (nI 5) with
  | false => bnd R K kp tc 0
  | true => match decide (nI 8 ≤ nI (cnt R)) with
    | true => bnd R K kp tc 1
    | false => (nI (cnt R), addR R k, K, kp, tc)
abbrev tn (x : Int32) : Nat := x.toNatClampNeg
def o_of (R K : RS) (kp : Bool) (tc : Nat → Int32) (x w : Int32) : Int32 × CS := match hasB (cnt R) x with
  | false => bnd R K kp tc 0
  | true => if w = nI 0 then (rK R (tn x), R, K, kp, tc) else if w = nI 1 then (pcO (rT R) x, R, K, kp, tc) else if w = nI 2 then (rH R (tn x), R, K, kp, tc) else if w = nI 3 then (rS R (tn x), R, K, kp, tc) else
    if w = nI 4 then (rN R (tn x), R, K, kp, tc) else if w = nI 5 then (shd (rK R (tn x)), R, K, kp, tc) else if w = nI 6 then (bI (seeP (rT R) (rL R) (rB R) (cnt R) (rK R) (tn x)), R, K, kp, tc) else
    if w = nI 7 then (bI (heedF (rK R (tn x)) (rN R (tn x))), R, K, kp, tc) else bnd R K kp tc 0
def o_set (R K : RS) (kp : Bool) (tc : Nat → Int32) (x w v : Int32) : Int32 × CS := match hasB (cnt R) x with
  | false => bnd R K kp tc 0
  | true => if w = nI 2 then (match inR v (nI 0) (nI 1) with
      | true => (rH R (tn x), sH R (upd (rH R) (tn x) v), K, kp, tc)
      | false => bnd R K kp tc 0) else if w = nI 3 then (match inR v (nI 0) (nI 9999) with
      | true => (rS R (tn x), sS R (upd (rS R) (tn x) v), K, kp, tc)
      | false => bnd R K kp tc 0) else if w = nI 4 then (match inR v (nI 0) (nI 99) with
      | true => (rN R (tn x), sN R (upd (rN R) (tn x) v), K, kp, tc)
      | false => bnd R K kp tc 0) else bnd R K kp tc 0
def o_swap (R K : RS) (kp : Bool) (tc : Nat → Int32) (x y : Int32) : Int32 × CS := match hasB (cnt R) x with
  | false => bnd R K kp tc 0
  | true => match hasB (cnt R) y with
    | false => bnd R K kp tc 0
    | true => if x = y then bnd R K kp tc 0 else (nI 1, swR R (tn x) (tn y), K, kp, tc)
def o_turn (R K : RS) (kp : Bool) (tc : Nat → Int32) (x k : Int32) : Int32 × CS := match hasB (cnt R) x with
  | false => bnd R K kp tc 0
  | true => match inR k (nI 0) (nI 5) with
    | false => bnd R K kp tc 0
    | true => (rK R (tn x), sK R (upd (rK R) (tn x) k), K, kp, tc)
/-- a kind is another one, or under it -/
def undB (k a : Int32) : Bool := decide (a = nI 0) || (decide (k = a) || ((decide (k = nI 4) && decide (a = nI 1)) || (decide (k = nI 5) && decide (a = nI 2))))
def o_as (R K : RS) (kp : Bool) (tc : Nat → Int32) (x k : Int32) : Int32 × CS := match hasB (cnt R) x with
  | false => bnd R K kp tc 0
  | true => match inR k (nI 0) (nI 5) with
    | false => bnd R K kp tc 0
    | true => match undB (rK R (tn x)) k with
      | false => bnd R K kp tc 2
      | true => (rN R (tn x), R, K, kp, tc)
def o_steps (R K : RS) (kp : Bool) (tc : Nat → Int32) (m : Int32) : Int32 × CS := match inR m (nI 1) (nI 200) with
  | false => bnd R K kp tc 0
  | true => if rT R ≤ 99999 - m then (sumF (rS (stpN (tn m) R)) (cnt R), stpN (tn m) R, K, kp, tc) else bnd R K kp tc 4
def o_on (R K : RS) (kp : Bool) (tc : Nat → Int32) (x m w : Int32) : Int32 × CS := match hasB (cnt R) x with
  | false => bnd R K kp tc 0
  | true => match inR m (nI 0) (nI 300) with
    | false => bnd R K kp tc 0
    | true => match inR w (nI 0) (nI 2) with
      | false => bnd R K kp tc 0
      | true => (if w = nI 0 then rH (stpN (tn m) R) (tn x) else if w = nI 1 then rS (stpN (tn m) R) (tn x) else rN (stpN (tn m) R) (tn x), R, K, kp, tc)
/-- STUMBLED of all together, m STEPS AHEAD -/
def fut (m : Nat) (R : RS) : Int32 := sumF (rS (stpN m R)) (cnt R)
def o_falls (R K : RS) (kp : Bool) (tc : Nat → Int32) (m : Int32) : Int32 × CS := match inR m (nI 0) (nI 300) with
  | false => bnd R K kp tc 0
  | true => (fut (tn m) R, R, K, kp, tc)
def trp (p : Nat) : Nat → Nat → RS → Option Nat
  | 0, _, _ => none
  | k + 1, i, R => if isIn (stpF R) (nI p) = true then some i else trp p k (i + 1) (stp R)
def her (p : Nat) : Nat → Nat → RS → Option Nat
  | 0, _, _ => none
  | k + 1, i, R => if rH R p = nI 1 then some i else her p k (i + 1) (stp R)
/-- the number that was found, or NONE -/
def fnd (R K : RS) (kp : Bool) (tc : Nat → Int32) (o : Option Nat) : Int32 × CS := match o with
  | some i => (nI i, R, K, kp, tc)
  | none => bnd R K kp tc 3
def o_trips (R K : RS) (kp : Bool) (tc : Nat → Int32) (x : Int32) : Int32 × CS := match hasB (cnt R) x with
  | false => bnd R K kp tc 0
  | true => fnd R K kp tc (trp (tn x) 300 1 R)
def o_hears (R K : RS) (kp : Bool) (tc : Nat → Int32) (x : Int32) : Int32 × CS := match hasB (cnt R) x with
  | false => bnd R K kp tc 0
  | true => fnd R K kp tc (her (tn x) 301 0 R)
/-- the first below i at which f is least, and how much; from (b0, l0) on -/
def mnB (f : Nat → Int32) (q : Int32 × Int32) : Nat → Int32 × Int32
  | 0 => q
  | i + 1 => if f i < (mnB f q i).2 then (nI i, f i) else mnB f q i
def o_carry (R K : RS) (kp : Bool) (tc : Nat → Int32) (m : Int32) : Int32 × CS := match inR m (nI 1) (nI 100) with
  | false => bnd R K kp tc 0
  | true => if nI (cnt R) = 0 then bnd R K kp tc 3 else ((mnB (fun p => fut (tn m) (sL R (nI p))) (nI 0, 79993) (cnt R)).1, R, K, kp, tc)
def inn (f : Nat → Nat → Int32) (p : Nat) (q : Int32 × Int32) : Nat → Int32 × Int32
  | 0 => q
  | j + 1 => if f p (p + 1 + j) < (inn f p q j).2 then (nI 10 * nI p + nI (p + 1 + j), f p (p + 1 + j)) else inn f p q j
def ord (f : Nat → Nat → Int32) (n : Nat) (q : Int32 × Int32) : Nat → Int32 × Int32
  | 0 => q
  | i + 1 => inn f i (ord f n q i) (n - (i + 1))
def neg (R K : RS) (kp : Bool) (tc : Nat → Int32) (x : Int32) : Int32 × CS := if 0 ≤ x then (x, R, K, kp, tc) else bnd R K kp tc 3
def o_order (R K : RS) (kp : Bool) (tc : Nat → Int32) (m : Int32) : Int32 × CS := match inR m (nI 1) (nI 100) with
  | false => bnd R K kp tc 0
  | true => neg R K kp tc (ord (fun p o => fut (tn m) (swR R p o)) (cnt R) (-1, fut (tn m) R) (cnt R)).1
def o_kind (R K : RS) (kp : Bool) (tc : Nat → Int32) (x m : Int32) : Int32 × CS := match hasB (cnt R) x with
  | false => bnd R K kp tc 0
  | true => match inR m (nI 1) (nI 100) with
    | false => bnd R K kp tc 0
    | true => ((mnB (fun k => rS (stpN (tn m) (sK R (upd (rK R) (tn x) (nI k)))) (tn x)) (nI 0, 79993) 6).1, R, K, kp, tc)
def fst1 (P : Nat → Bool) : Nat → Nat → Option Nat
  | 0, _ => none
  | k + 1, i => match P i with
    | true => some i
    | false => fst1 P k (i + 1)
def o_least (R K : RS) (kp : Bool) (tc : Nat → Int32) (m v : Int32) : Int32 × CS := match inR m (nI 1) (nI 100) with
  | false => bnd R K kp tc 0
  | true => match inR v (nI 0) 99999 with
    | false => bnd R K kp tc 0
    | true => fnd R K kp tc (fst1 (fun b => decide (fut (tn m) (sB R (nI b)) ≤ v)) 10 0)
def mnC (g : Nat → Bool) (f : Nat → Int32) (q : Int32 × Int32) : Nat → Int32 × Int32
  | 0 => q
  | i + 1 => match g i with
    | true => if f i < (mnC g f q i).2 then (nI i, f i) else mnC g f q i
    | false => mnC g f q i
def o_clear (R K : RS) (kp : Bool) (tc : Nat → Int32) (m : Int32) : Int32 × CS := match inR m (nI 1) (nI 60) with
  | false => bnd R K kp tc 0
  | true => neg R K kp tc (mnC (fun c => isIn (rR R) (nI c)) (fun c => fut (tn m) (sR R (setR (rR R) (nI c) false))) (-1, 79993) 30).1
/-- no more stumbles of one than h, in k STEPS -/
def noM (p : Nat) (h : Int32) : Nat → RS → Bool
  | 0, _ => true
  | k + 1, R => if rS (stp R) p ≤ h then noM p h k (stp R) else false
def o_nerve (R K : RS) (kp : Bool) (tc : Nat → Int32) (x m : Int32) : Int32 × CS := match hasB (cnt R) x with
  | false => bnd R K kp tc 0
  | true => match inR m (nI 1) (nI 100) with
    | false => bnd R K kp tc 0
    | true => fnd R K kp tc (fst1 (fun v => noM (tn x) (rS R (tn x)) (tn m) (sN R (upd (rN R) (tn x) (nI v)))) 100 0)
/-- the first of the places up to i at which f is greatest -/
def mxP (f : Nat → Int32) : Nat → Nat
  | 0 => 0
  | i + 1 => if f (i + 1) ≤ f (mxP f i) then mxP f i else i + 1
def o_worst (R K : RS) (kp : Bool) (tc : Nat → Int32) (m : Int32) : Int32 × CS := match inR m (nI 0) (nI 300) with
  | false => bnd R K kp tc 0
  | true => if nI (cnt R) = 0 then bnd R K kp tc 3 else (nI (mxP (rS (stpN (tn m) R)) (cnt R - 1)), R, K, kp, tc)
def o_image (R K : RS) (kp : Bool) (tc : Nat → Int32) : Int32 × CS := (nI 1, R, R, true, tc)
def o_undo (R K : RS) (kp : Bool) (tc : Nat → Int32) : Int32 × CS := match kp with
  | true => (nI (cnt K), K, K, true, tc)
  | false => bnd R K false tc 3
def o_tear (R K : RS) (kp : Bool) (tc : Nat → Int32) : Int32 × CS := (bI kp, R, K, false, tc)
def o_status (R K : RS) (kp : Bool) (tc : Nat → Int32) (w : Int32) : Int32 × CS := match inR w (-1) (nI 6) with
  | false => bnd R K kp tc 0
  | true => if w < 0 then (sumF tc 7, R, K, kp, tc) else (tc (tn w), R, K, kp, tc)
theorem stpN_cnt : ∀ (m : Nat) (R : RS), cnt (stpN m R) = cnt R
  | 0, _ => rfl
  | m + 1, R => stpN_cnt m (stp R)
theorem inR_of {x : Int32} {a b : Nat} (h : inR x (nI a) (nI b) = true) (ha : a < 2 ^ 31) (hb : b < 2 ^ 31) : ∃ m, a ≤ m ∧ m ≤ b ∧ x = nI m := by
  simp only [inR, Bool.and_eq_true, decide_eq_true_eq] at h
  have h0 : ¬ x < 0 := Int32.not_lt.mpr (Int32.le_trans (nI_pos' ha) h.1)
  obtain ⟨m, hm, rfl⟩ := nI_of h0
  exact ⟨m, (nI_leI ha hm).mp h.1, (nI_leI hm hb).mp h.2, rfl⟩
theorem inR_n {v lo hi : Nat} (h1 : lo ≤ v) (h2 : v ≤ hi) (h : hi < 2 ^ 31) : inR (nI v) (nI lo) (nI hi) = true := inR_t (nI_nlt h1 (by omega)) (nI_nlt h2 h)
theorem mnB_t {f : Nat → Int32} {q : Int32 × Int32} {i : Nat} (h : f i < (mnB f q i).2) : mnB f q (i + 1) = (nI i, f i) := by rw [mnB, if_pos h]
theorem mnB_f {f : Nat → Int32} {q : Int32 × Int32} {i : Nat} (h : ¬ f i < (mnB f q i).2) : mnB f q (i + 1) = mnB f q i := by rw [mnB, if_neg h]
theorem mxP_le (f : Nat → Int32) : ∀ i, mxP f i ≤ i
  | 0 => Nat.le_refl 0
  | i + 1 => by
    have ih := mxP_le f i
    rw [mxP]
    split <;> omega

