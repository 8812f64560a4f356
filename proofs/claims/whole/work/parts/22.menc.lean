/-! the reference's row of ints, out of a Row -/
def enc (R : RS) (k : Nat) : Int32 := match k with
  | 0 => rT R
  | 1 => nI (cnt R)
  | 2 => rR R
  | 3 => rL R
  | 4 => rB R
  | k + 5 => match k % 4 with
    | 0 => rK R (k / 4)
    | 1 => rH R (k / 4)
    | 2 => rS R (k / 4)
    | _ => rN R (k / 4)
theorem enc0 {R : RS} : enc R 0 = rT R := rfl
theorem enc1 {R : RS} : enc R 1 = nI (cnt R) := rfl
theorem enc2 {R : RS} : enc R 2 = rR R := rfl
theorem enc3 {R : RS} : enc R 3 = rL R := rfl
theorem enc4 {R : RS} : enc R 4 = rB R := rfl
def enc5 (R : RS) (p w : Nat) : Int32 := match w with
  | 0 => rK R p
  | 1 => rH R p
  | 2 => rS R p
  | _ => rN R p
theorem enc_5 {R : RS} {p w : Nat} (hw : w < 4) : enc R (5 + 4 * p + w) = enc5 R p w := by
  have e1 : 5 + 4 * p + w = (4 * p + w) + 5 := by omega
  have e2 : (4 * p + w) % 4 = w := by omega
  have e3 : (4 * p + w) / 4 = p := by omega
  rw [e1]
  show (match (4 * p + w) % 4 with
    | 0 => rK R ((4 * p + w) / 4)
    | 1 => rH R ((4 * p + w) / 4)
    | 2 => rS R ((4 * p + w) / 4)
    | _ => rN R ((4 * p + w) / 4)) = _
  rw [e2, e3]
  rfl
theorem encK {R : RS} {p : Nat} : enc R (5 + 4 * p + 0) = rK R p := enc_5 (by decide)
theorem encH {R : RS} {p : Nat} : enc R (5 + 4 * p + 1) = rH R p := enc_5 (by decide)
theorem encS {R : RS} {p : Nat} : enc R (5 + 4 * p + 2) = rS R p := enc_5 (by decide)
theorem encN {R : RS} {p : Nat} : enc R (5 + 4 * p + 3) = rN R p := enc_5 (by decide)
theorem enc_cases (k : Nat) : k = 0 ∨ k = 1 ∨ k = 2 ∨ k = 3 ∨ k = 4 ∨ ∃ p w, w < 4 ∧ k = 5 + 4 * p + w := by
  by_cases h : k < 5
  · omega
  · exact Or.inr (Or.inr (Or.inr (Or.inr (Or.inr ⟨(k - 5) / 4, (k - 5) % 4, by omega, by omega⟩))))
/-- two rows of ints are one if their parts are -/
theorem enc_ext {f g : Nat → Int32} (h0 : f 0 = g 0) (h1 : f 1 = g 1) (h2 : f 2 = g 2) (h3 : f 3 = g 3) (h4 : f 4 = g 4) (h : ∀ p w, w < 4 → f (5 + 4 * p + w) = g (5 + 4 * p + w)) : f = g := by
  funext k
  rcases enc_cases k with rfl | rfl | rfl | rfl | rfl | ⟨p, w, hw, rfl⟩
  · exact h0
  · exact h1
  · exact h2
  · exact h3
  · exact h4
  · exact h p w hw
theorem upd_ne {f : Nat → Int32} {k j : Nat} {x : Int32} (h : j ≠ k) : upd f k x j = f j := by simp [upd, h]
theorem upd_eq {f : Nat → Int32} {k : Nat} {x : Int32} : upd f k x k = x := by simp [upd]
theorem upd_at {f : Nat → Int32} {k j : Nat} {x : Int32} : upd f k x j = if j = k then x else f j := rfl
theorem encA0 {R : RS} {v : Int32} : upd (enc R) 0 v = enc ((v, R.1.2), R.2) := by
  refine enc_ext rfl rfl rfl rfl rfl (fun p w hw => ?_)
  rw [upd_ne (by omega), enc_5 hw, enc_5 hw]
  rfl
theorem encA2 {R : RS} {v : Int32} : upd (enc R) 2 v = enc (sR R v) := by
  refine enc_ext rfl rfl rfl rfl rfl (fun p w hw => ?_)
  rw [upd_ne (by omega), enc_5 hw, enc_5 hw]
  rfl
theorem encA3 {R : RS} {v : Int32} : upd (enc R) 3 v = enc (sL R v) := by
  refine enc_ext rfl rfl rfl rfl rfl (fun p w hw => ?_)
  rw [upd_ne (by omega), enc_5 hw, enc_5 hw]
  rfl
theorem encA4 {R : RS} {v : Int32} : upd (enc R) 4 v = enc (sB R v) := by
  refine enc_ext rfl rfl rfl rfl rfl (fun p w hw => ?_)
  rw [upd_ne (by omega), enc_5 hw, enc_5 hw]
  rfl
theorem encU0 {R : RS} {p : Nat} {v : Int32} : upd (enc R) (5 + 4 * p + 0) v = enc (sK R (upd (rK R) p v)) := by
  refine enc_ext (upd_ne (by omega)) (upd_ne (by omega)) (upd_ne (by omega)) (upd_ne (by omega)) (upd_ne (by omega)) (fun q w hw => ?_)
  rw [enc_5 hw, upd_at, enc_5 hw]
  by_cases e : q = p
  · subst e
    rcases (show w = 0 ∨ w = 1 ∨ w = 2 ∨ w = 3 by omega) with rfl | rfl | rfl | rfl
    · rw [if_pos rfl]; exact upd_eq.symm
    · rw [if_neg (by omega)]; rfl
    · rw [if_neg (by omega)]; rfl
    · rw [if_neg (by omega)]; rfl
  · rw [if_neg (by omega)]
    rcases (show w = 0 ∨ w = 1 ∨ w = 2 ∨ w = 3 by omega) with rfl | rfl | rfl | rfl
    · exact (upd_ne e).symm
    · rfl
    · rfl
    · rfl
theorem encU1 {R : RS} {p : Nat} {v : Int32} : upd (enc R) (5 + 4 * p + 1) v = enc (sH R (upd (rH R) p v)) := by
  refine enc_ext (upd_ne (by omega)) (upd_ne (by omega)) (upd_ne (by omega)) (upd_ne (by omega)) (upd_ne (by omega)) (fun q w hw => ?_)
  rw [enc_5 hw, upd_at, enc_5 hw]
  by_cases e : q = p
  · subst e
    rcases (show w = 0 ∨ w = 1 ∨ w = 2 ∨ w = 3 by omega) with rfl | rfl | rfl | rfl
    · rw [if_neg (by omega)]; rfl
    · rw [if_pos rfl]; exact upd_eq.symm
    · rw [if_neg (by omega)]; rfl
    · rw [if_neg (by omega)]; rfl
  · rw [if_neg (by omega)]
    rcases (show w = 0 ∨ w = 1 ∨ w = 2 ∨ w = 3 by omega) with rfl | rfl | rfl | rfl
    · rfl
    · exact (upd_ne e).symm
    · rfl
    · rfl
theorem encU2 {R : RS} {p : Nat} {v : Int32} : upd (enc R) (5 + 4 * p + 2) v = enc (sS R (upd (rS R) p v)) := by
  refine enc_ext (upd_ne (by omega)) (upd_ne (by omega)) (upd_ne (by omega)) (upd_ne (by omega)) (upd_ne (by omega)) (fun q w hw => ?_)
  rw [enc_5 hw, upd_at, enc_5 hw]
  by_cases e : q = p
  · subst e
    rcases (show w = 0 ∨ w = 1 ∨ w = 2 ∨ w = 3 by omega) with rfl | rfl | rfl | rfl
    · rw [if_neg (by omega)]; rfl
    · rw [if_neg (by omega)]; rfl
    · rw [if_pos rfl]; exact upd_eq.symm
    · rw [if_neg (by omega)]; rfl
  · rw [if_neg (by omega)]
    rcases (show w = 0 ∨ w = 1 ∨ w = 2 ∨ w = 3 by omega) with rfl | rfl | rfl | rfl
    · rfl
    · rfl
    · exact (upd_ne e).symm
    · rfl
theorem encU3 {R : RS} {p : Nat} {v : Int32} : upd (enc R) (5 + 4 * p + 3) v = enc (sN R (upd (rN R) p v)) := by
  refine enc_ext (upd_ne (by omega)) (upd_ne (by omega)) (upd_ne (by omega)) (upd_ne (by omega)) (upd_ne (by omega)) (fun q w hw => ?_)
  rw [enc_5 hw, upd_at, enc_5 hw]
  by_cases e : q = p
  · subst e
    rcases (show w = 0 ∨ w = 1 ∨ w = 2 ∨ w = 3 by omega) with rfl | rfl | rfl | rfl
    · rw [if_neg (by omega)]; rfl
    · rw [if_neg (by omega)]; rfl
    · rw [if_neg (by omega)]; rfl
    · rw [if_pos rfl]; exact upd_eq.symm
  · rw [if_neg (by omega)]
    rcases (show w = 0 ∨ w = 1 ∨ w = 2 ∨ w = 3 by omega) with rfl | rfl | rfl | rfl
    · rfl
    · rfl
    · rfl
    · exact (upd_ne e).symm
/-! numbers that the reference takes another way -/
theorem wide_le (a b : Int32) : a.toInt64 ≤ b.toInt64 ↔ a ≤ b := by
  rw [Int64.le_iff_toInt_le, Int32.le_iff_toInt_le, Int32.toInt_toInt64, Int32.toInt_toInt64]
theorem n_rng (x : Int32) : -2147483648 ≤ x.toInt ∧ x.toInt < 2147483648 := ⟨Int32.le_toInt x, Int32.toInt_lt x⟩
theorem subI {x y : Int32} (h1 : -2147483648 ≤ x.toInt - y.toInt) (h2 : x.toInt - y.toInt < 2147483648) : (x - y).toInt = x.toInt - y.toInt := by
  rw [Int32.toInt_sub, Int.bmod_eq_of_le (by omega) (by omega)]
theorem addI {x y : Int32} (h1 : -2147483648 ≤ x.toInt + y.toInt) (h2 : x.toInt + y.toInt < 2147483648) : (x + y).toInt = x.toInt + y.toInt := by
  rw [Int32.toInt_add, Int.bmod_eq_of_le (by omega) (by omega)]
theorem mulI {x y : Int32} (h1 : -2147483648 ≤ x.toInt * y.toInt) (h2 : x.toInt * y.toInt < 2147483648) : (x * y).toInt = x.toInt * y.toInt := by
  rw [Int32.toInt_mul, Int.bmod_eq_of_le (by omega) (by omega)]
theorem hasB_in {n : Nat} (hn : n < 2 ^ 31) (x : Int32) : inR x (nI 0) (nI n - nI 1) = hasB n x := by
  have e1 : (nI n - nI 1).toInt = (n : Int) - 1 := by
    rw [subI] <;> rw [nI_toInt hn, nI_toInt (show 1 < 2 ^ 31 by decide)] <;> omega
  have e2 : (x ≤ nI n - nI 1) ↔ x < nI n := by
    rw [Int32.le_iff_toInt_le, Int32.lt_iff_toInt_lt, e1, nI_toInt hn]
    omega
  unfold inR hasB
  rw [decide_eq_decide.mpr e2]
  rfl
/-- the rest by 30 -/
def rm30 (y : Int32) : Int32 := y - y / nI 30 * nI 30
theorem rm30_int (y : Int32) : (rm30 y).toInt = y.toInt.tmod 30 := by
  have hy := n_rng y
  have h30 : (nI 30).toInt = 30 := nI_toInt (by decide)
  have hd : (y / nI 30).toInt = y.toInt.tdiv 30 := by
    rw [Int32.toInt_div, h30, Int.bmod_eq_of_le]
    · have := Int.tdiv_mul_add_tmod y.toInt 30 ; have h1 := Int.lt_tmod_of_pos y.toInt (show (0 : Int) < 30 by decide); have h2 := Int.tmod_lt_of_pos y.toInt (show (0 : Int) < 30 by decide); omega
    · have := Int.tdiv_mul_add_tmod y.toInt 30 ; have h1 := Int.lt_tmod_of_pos y.toInt (show (0 : Int) < 30 by decide); have h2 := Int.tmod_lt_of_pos y.toInt (show (0 : Int) < 30 by decide); omega
  have k1 := Int.tdiv_mul_add_tmod y.toInt 30
  have k2 := Int.lt_tmod_of_pos y.toInt (show (0 : Int) < 30 by decide)
  have k3 := Int.tmod_lt_of_pos y.toInt (show (0 : Int) < 30 by decide)
  have hs : 0 ≤ y.toInt → 0 ≤ y.toInt.tmod 30 := fun h => Int.tmod_nonneg 30 h
  have hs2 : y.toInt ≤ 0 → y.toInt.tmod 30 ≤ 0 := fun h => by
    have := Int.tmod_nonneg 30 (show 0 ≤ -y.toInt by omega)
    rw [Int.neg_tmod] at this
    omega
  have hm : (y / nI 30 * nI 30).toInt = y.toInt.tdiv 30 * 30 := by
    rw [mulI] <;> rw [hd, h30] <;> omega
  unfold rm30
  rw [subI] <;> rw [hm] <;> omega
theorem xor30 (y : Int32) : (0 ≤ y ^^^ nI 30) ↔ 0 ≤ y := by
  have key : ∀ z : Int32, (0 ≤ z) ↔ bt z 31 = false := by
    intro z
    rw [Int32.le_iff_toInt_le, Int32.toInt_zero]
    have h1 : z.toInt = z.toBitVec.toInt := rfl
    have h2 := BitVec.msb_eq_toInt (x := z.toBitVec)
    rw [BitVec.msb_eq_getLsbD_last] at h2
    have h3 : bt z 31 = decide (z.toBitVec.toInt < 0) := h2
    rw [h3, h1, decide_eq_false_iff_not]
    omega
  rw [key, key, b_xor, show bt (nI 30) 31 = false from by decide +kernel, Bool.xor_false]
theorem pc_eq (y : Int32) : fmod y (nI 30) = if 0 ≤ rm30 y then rm30 y else rm30 y + nI 30 := by
  have h0 := rm30_int y
  have hs : 0 ≤ y.toInt → 0 ≤ y.toInt.tmod 30 := fun h => Int.tmod_nonneg 30 h
  have hs2 : y.toInt ≤ 0 → y.toInt.tmod 30 ≤ 0 := fun h => by
    have := Int.tmod_nonneg 30 (show 0 ≤ -y.toInt by omega)
    rw [Int.neg_tmod] at this
    omega
  unfold fmod
  change (if 0 ≤ y ^^^ nI 30 then rm30 y else if rm30 y = 0 then rm30 y else rm30 y + nI 30) = _
  by_cases hy : 0 ≤ y
  · rw [if_pos ((xor30 y).mpr hy), if_pos]
    rw [Int32.le_iff_toInt_le, Int32.toInt_zero, h0]
    exact hs (by rw [Int32.le_iff_toInt_le, Int32.toInt_zero] at hy; exact hy)
  · rw [if_neg (fun z => hy ((xor30 y).mp z))]
    have hy2 : y.toInt ≤ 0 := by
      rw [Int32.le_iff_toInt_le, Int32.toInt_zero] at hy; omega
    by_cases hz : rm30 y = 0
    · rw [if_pos hz, if_pos (by rw [hz]; decide)]
    · rw [if_neg hz, if_neg]
      rw [Int32.le_iff_toInt_le, Int32.toInt_zero, h0]
      have h5 : ¬ y.toInt.tmod 30 = 0 := fun z => hz (Int32.toInt_inj.mp (by rw [h0, z]; rfl))
      have := hs2 hy2
      omega
theorem or_0 (x : Int32) : x ||| nI 0 = x := by
  apply b_ext
  intro i hi
  rw [b_or, show nI 0 = 0 from rfl, b_0, Bool.or_false]
theorem add_0 (x : Int32) : x + nI 0 = x := Int32.add_zero x
theorem and1_b (y : Int32) : y &&& nI 1 = bI (bt y 0) := by
  cases h : bt y 0 with
  | true => exact (and_1 y).mpr h
  | false =>
    apply b_ext
    intro i hi
    rw [b_and, bt_1 i hi]
    show _ = bt 0 i
    rw [b_0]
    by_cases q : i = 0
    · subst q; rw [h]; rfl
    · rw [decide_eq_false q, Bool.and_false]
theorem shr_b (x : Int32) {p : Nat} (hp : p < 32) : (x >>> (nI p &&& 31)) &&& nI 1 = bI (bt x p) := by
  rw [and1_b, b_sshr p hp x (by omega), Nat.add_zero, if_pos hp]

