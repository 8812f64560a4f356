/-! bits (the first rows out of kit/laws/BITS.to-paste) -/
def bt (x : Int32) (i : Nat) : Bool := x.toBitVec.getLsbD i
theorem b_ext {x y : Int32} (h : ∀ i, i < 32 → bt x i = bt y i) : x = y := Int32.toBitVec_inj.mp (BitVec.eq_of_getLsbD_eq (fun i hi => h i hi))
theorem b_or (x y : Int32) (i : Nat) : bt (x ||| y) i = (bt x i || bt y i) := by unfold bt; rw [Int32.toBitVec_or, BitVec.getLsbD_or]
theorem b_and (x y : Int32) (i : Nat) : bt (x &&& y) i = (bt x i && bt y i) := by unfold bt; rw [Int32.toBitVec_and, BitVec.getLsbD_and]
theorem b_xor (x y : Int32) (i : Nat) : bt (x ^^^ y) i = (bt x i ^^ bt y i) := by unfold bt; rw [Int32.toBitVec_xor, BitVec.getLsbD_xor]
theorem b_big {x : Int32} {i : Nat} (h : 32 ≤ i) : bt x i = false := BitVec.getLsbD_of_ge _ _ h
theorem b_255 (i : Nat) : bt 255 i = decide (i < 8) := by
  rcases Nat.lt_or_ge i 32 with h | h
  · exact (by decide +kernel : ∀ i, i < 32 → bt 255 i = decide (i < 8)) i h
  · rw [b_big h, decide_eq_false (by omega)]
theorem b_65535 (i : Nat) : bt 65535 i = decide (i < 16) := by
  rcases Nat.lt_or_ge i 32 with h | h
  · exact (by decide +kernel : ∀ i, i < 32 → bt 65535 i = decide (i < 16)) i h
  · rw [b_big h, decide_eq_false (by omega)]
theorem b_m1 : ∀ i, i < 32 → bt (-1) i = true := by decide +kernel
theorem b_0 (i : Nat) : bt 0 i = false := BitVec.getLsbD_zero
theorem s_l : ∀ n, n < 32 → ((nI n &&& 31).toBitVec.smod 32).toNat = n := by decide +kernel
theorem s_u : ∀ n, n < 32 → (((nI n).toUInt32 &&& Int32.toUInt32 31).toBitVec % 32).toNat = n := by decide +kernel
theorem b_shl (n : Nat) (hn : n < 32) (x : Int32) {i : Nat} (hi : i < 32) : bt (x <<< (nI n &&& 31)) i = (decide (n ≤ i) && bt x (i - n)) := by
  unfold bt
  rw [Int32.toBitVec_shiftLeft]
  show (x.toBitVec <<< ((nI n &&& 31).toBitVec.smod 32).toNat).getLsbD i = _
  rw [s_l n hn, BitVec.getLsbD_shiftLeft]
  rcases Nat.lt_or_ge i n with h | h
  · simp [h, Nat.not_le.mpr h]
  · simp [hi, h, Nat.not_lt.mpr h]
theorem b_ushr (n : Nat) (hn : n < 32) (x : Int32) (i : Nat) : bt ((x.toUInt32 >>> ((nI n).toUInt32 &&& Int32.toUInt32 31)).toInt32) i = bt x (n + i) := by
  show (x.toUInt32 >>> ((nI n).toUInt32 &&& Int32.toUInt32 31)).toBitVec.getLsbD i = x.toUInt32.toBitVec.getLsbD (n + i)
  rw [UInt32.toBitVec_shiftRight]
  show (x.toUInt32.toBitVec >>> (((nI n).toUInt32 &&& Int32.toUInt32 31).toBitVec % 32).toNat).getLsbD i = _
  rw [s_u n hn, BitVec.getLsbD_ushiftRight]
theorem b_sshr (n : Nat) (hn : n < 32) (x : Int32) {i : Nat} (hi : i < 32) : bt (x >>> (nI n &&& 31)) i = if n + i < 32 then bt x (n + i) else bt x 31 := by
  unfold bt
  rw [Int32.toBitVec_shiftRight]
  show (x.toBitVec.sshiftRight ((nI n &&& 31).toBitVec.smod 32).toNat).getLsbD i = _
  rw [s_l n hn, BitVec.getLsbD_sshiftRight, BitVec.msb_eq_getLsbD_last]
  simp [hi]
theorem bt_1 : ∀ i, i < 32 → bt (nI 1) i = decide (i = 0) := by decide +kernel
theorem bt_sh {p : Nat} (hp : p < 32) {i : Nat} (hi : i < 32) : bt (nI 1 <<< (nI p &&& 31)) i = decide (i = p) := by
  rw [b_shl p hp _ hi]
  by_cases h : p ≤ i
  · rw [bt_1 _ (by omega)]
    by_cases q : i = p
    · subst q; simp
    · rw [decide_eq_true h, decide_eq_false (show ¬ i - p = 0 by omega), decide_eq_false q]; rfl
  · rw [decide_eq_false h, decide_eq_false (by omega)]; rfl
theorem and_1 (y : Int32) : (y &&& nI 1 = nI 1) ↔ bt y 0 = true := by
  constructor
  · intro h
    have h1 := congrArg (fun z => bt z 0) h
    simp only [b_and] at h1
    rw [bt_1 0 (by omega)] at h1
    simpa using h1
  · intro h
    apply b_ext
    intro i hi
    rw [b_and, bt_1 i hi]
    by_cases q : i = 0
    · subst q; rw [h]; rfl
    · rw [decide_eq_false q, Bool.and_false]
theorem isIn_bt (x : Int32) {p : Nat} (hp : p < 32) : isIn x (nI p) = bt x p := by
  unfold isIn
  rw [Bool.eq_iff_iff, decide_eq_true_iff, and_1, b_sshr p hp x (by omega), Nat.add_zero, if_pos hp]
theorem bt_setOf (f : Nat → Bool) : ∀ (n : Nat), n ≤ 32 → ∀ i, i < 32 → bt (setOf f n) i = (decide (i < n) && f i)
  | 0, _, i, _ => by
    rw [decide_eq_false (Nat.not_lt_zero i), setOf]
    exact b_0 i
  | n + 1, hn, i, hi => by
    have ih := bt_setOf f n (by omega) i hi
    have key : bt (setOf f (n + 1)) i = (bt (setOf f n) i || (f n && decide (i = n))) := by
      cases hf : f n with
      | true => rw [setOf_t hf, b_or, bt_sh (by omega) hi]; rfl
      | false => rw [setOf_f hf]; simp
    rw [key, ih]
    by_cases q : i = n
    · subst q
      rw [decide_eq_false (Nat.lt_irrefl i), decide_eq_true (Nat.lt_succ_self i)]
      simp
    · by_cases q2 : i < n
      · rw [decide_eq_true q2, decide_eq_true (show i < n + 1 by omega), decide_eq_false q]; simp
      · rw [decide_eq_false q2, decide_eq_false (show ¬ i < n + 1 by omega), decide_eq_false q]; simp
theorem isIn_setOf (f : Nat → Bool) {n p : Nat} (hn : n ≤ 32) (hp : p < n) : isIn (setOf f n) (nI p) = f p := by
  rw [isIn_bt _ (by omega), bt_setOf f n hn p (by omega), decide_eq_true hp, Bool.true_and]
theorem isIn_and (x y : Int32) {p : Nat} (hp : p < 32) : isIn (x &&& y) (nI p) = (isIn x (nI p) && isIn y (nI p)) := by
  rw [isIn_bt _ hp, isIn_bt _ hp, isIn_bt _ hp, b_and]
theorem isIn_not (x : Int32) {p : Nat} (hp : p < 32) : isIn (x ^^^ (-1)) (nI p) = !isIn x (nI p) := by
  rw [isIn_bt _ hp, isIn_bt _ hp, b_xor, b_m1 p hp, Bool.xor_true]
theorem isIn_sh1 (x : Int32) {p : Nat} (hp : p < 32) : isIn (x <<< (nI 1 &&& 31)) (nI p) = (decide (1 ≤ p) && isIn x (nI (p - 1))) := by
  rw [isIn_bt _ hp, isIn_bt _ (by omega), b_shl 1 (by omega) x hp]
theorem setOf_cong {f g : Nat → Bool} : ∀ {n : Nat}, (∀ p, p < n → f p = g p) → setOf f n = setOf g n
  | 0, _ => rfl
  | n + 1, h => by
    have ih := setOf_cong (n := n) (fun p hp => h p (by omega))
    cases hf : f n with
    | true => rw [setOf_t hf, setOf_t (by rw [← h n (by omega)]; exact hf), ih]
    | false => rw [setOf_f hf, setOf_f (by rw [← h n (by omega)]; exact hf), ih]
/-- a row half gone through -/
def prg (i : Nat) (f g : Nat → Int32) : Nat → Int32 := fun p => if p < i then f p else g p
theorem prg_0 (f g : Nat → Int32) : prg 0 f g = g := by funext p; simp [prg]
theorem prg_at {i : Nat} {f g : Nat → Int32} : prg i f g i = g i := by simp [prg]
theorem prg_lo {i p : Nat} {f g : Nat → Int32} (h : p < i) : prg i f g p = f p := by simp [prg, h]
theorem prg_hi {i p : Nat} {f g : Nat → Int32} (h : i ≤ p) : prg i f g p = g p := by simp [prg, Nat.not_lt.mpr h]
theorem prg_upd {i : Nat} {f g : Nat → Int32} {x : Int32} (h : f i = x) : upd (prg i f g) i x = prg (i + 1) f g := by
  funext p
  simp only [upd, prg]
  by_cases q : p = i
  · subst q; simp [h]
  · by_cases q2 : p < i
    · simp [q, q2, show p < i + 1 by omega]
    · simp [q, q2, show ¬ p < i + 1 by omega]
theorem prg_skip {i : Nat} {f g : Nat → Int32} (h : f i = g i) : prg i f g = prg (i + 1) f g := by
  funext p
  simp only [prg]
  by_cases q : p = i
  · subst q; simp [h]
  · by_cases q2 : p < i
    · simp [q2, show p < i + 1 by omega]
    · simp [q2, show ¬ p < i + 1 by omega]
theorem prg_cong {i : Nat} {f f' g : Nat → Int32} (h : ∀ p, p < i → f p = f' p) : prg i f g = prg i f' g := by
  funext p
  simp only [prg]
  split
  · rename_i q; exact h p q
  · rfl

