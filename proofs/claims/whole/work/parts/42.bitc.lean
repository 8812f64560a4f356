/-! the number of bits, as the JDK counts them, is the sum of the bits -/
theorem and_dig (w : Nat) {a m c k : Nat} (ha : a < 2 ^ w) (hm : m < 2 ^ w) : (2 ^ w * c + a) &&& (2 ^ w * k + m) = 2 ^ w * (c &&& k) + (a &&& m) := by
  apply Nat.eq_of_testBit_eq
  intro j
  rw [Nat.testBit_and, Nat.testBit_two_pow_mul_add c ha, Nat.testBit_two_pow_mul_add k hm, Nat.testBit_two_pow_mul_add (c &&& k) (Nat.and_lt_two_pow a hm)]
  split
  · rw [Nat.testBit_and]
  · rw [Nat.testBit_and]
def pm1 : Nat → Nat
  | 0 => 0
  | k + 1 => 4 * pm1 k + 1
def pm2 : Nat → Nat
  | 0 => 0
  | k + 1 => 16 * pm2 k + 3
def pm3 : Nat → Nat
  | 0 => 0
  | k + 1 => 256 * pm3 k + 15
def ps1 (k N : Nat) : Nat := N - (N / 2 &&& pm1 k)
def ps2 (k N : Nat) : Nat := (N &&& pm2 k) + (N / 4 &&& pm2 k)
def ps3 (k N : Nat) : Nat := (N + N / 16) &&& pm3 k
theorem ps1_s (k N b0 b1 : Nat) (h0 : b0 < 2) (h1 : b1 < 2) : ps1 (k + 1) (4 * N + (b0 + 2 * b1)) = 4 * ps1 k N + (b0 + b1) := by
  have e1 : (4 * N + (b0 + 2 * b1)) / 2 = 2 ^ 2 * (N / 2) + (2 * (N % 2) + b1) := by omega
  have e2 : (4 * N + (b0 + 2 * b1)) / 2 &&& pm1 (k + 1) = 4 * (N / 2 &&& pm1 k) + b1 := by
    rw [e1, pm1, show 4 * pm1 k + 1 = 2 ^ 2 * pm1 k + 1 from rfl, and_dig 2 (by omega) (by decide), Nat.and_one_is_mod]
    omega
  have h2 : (N / 2 &&& pm1 k) ≤ N / 2 := Nat.and_le_left
  rw [ps1, e2, ps1]
  omega
theorem ps2_s (k N d0 d1 : Nat) (h0 : d0 < 4) (h1 : d1 < 4) : ps2 (k + 1) (16 * N + (d0 + 4 * d1)) = 16 * ps2 k N + (d0 + d1) := by
  have e1 : (16 * N + (d0 + 4 * d1)) / 4 = 2 ^ 4 * (N / 4) + (4 * (N % 4) + d1) := by omega
  have m3 : ∀ a, a < 16 → a &&& 3 = a % 4 := by decide
  rw [ps2, e1, pm2, show 16 * pm2 k + 3 = 2 ^ 4 * pm2 k + 3 from rfl, show 16 * N + (d0 + 4 * d1) = 2 ^ 4 * N + (d0 + 4 * d1) from rfl, and_dig 4 (by omega) (by decide), and_dig 4 (by omega) (by decide), m3 _ (by omega), m3 _ (by omega), ps2]
  omega
theorem ps3_s (k N e0 e1 : Nat) (h0 : e0 + e1 < 16) (h1 : e1 + N % 16 < 16) : ps3 (k + 1) (256 * N + (e0 + 16 * e1)) = 256 * ps3 k N + (e0 + e1) := by
  have e9 : 256 * N + (e0 + 16 * e1) + (256 * N + (e0 + 16 * e1)) / 16 = 2 ^ 8 * (N + N / 16) + (16 * (e1 + N % 16) + (e0 + e1)) := by omega
  have m3 : ∀ a, a < 256 → a &&& 15 = a % 16 := by decide +kernel
  rw [ps3, e9, pm3, show 256 * pm3 k + 15 = 2 ^ 8 * pm3 k + 15 from rfl, and_dig 8 (by omega) (by decide), m3 _ (by omega), ps3]
  omega
def p8 (N : Nat) : Nat := N % 2 + N / 2 % 2 + N / 4 % 2 + N / 8 % 2 + (N / 16 % 2 + N / 32 % 2 + N / 64 % 2 + N / 128 % 2)
def ps (k N : Nat) : Nat := ps3 k (ps2 (2 * k) (ps1 (4 * k) N))
theorem ps1_8 (k N : Nat) : ps1 (k + 4) N = 256 * ps1 k (N / 256) + ((N % 2 + N / 2 % 2) + 4 * (N / 4 % 2 + N / 8 % 2) + 16 * ((N / 16 % 2 + N / 32 % 2) + 4 * (N / 64 % 2 + N / 128 % 2))) := by
  have e : N = 4 * (4 * (4 * (4 * (N / 256) + (N / 64 % 2 + 2 * (N / 128 % 2))) + (N / 16 % 2 + 2 * (N / 32 % 2))) + (N / 4 % 2 + 2 * (N / 8 % 2))) + (N % 2 + 2 * (N / 2 % 2)) := by omega
  have e2 : ps1 (k + 4) N = ps1 (k + 4) (4 * (4 * (4 * (4 * (N / 256) + (N / 64 % 2 + 2 * (N / 128 % 2))) + (N / 16 % 2 + 2 * (N / 32 % 2))) + (N / 4 % 2 + 2 * (N / 8 % 2))) + (N % 2 + 2 * (N / 2 % 2))) := congrArg (ps1 (k + 4)) e
  rw [e2, ps1_s _ _ _ _ (by omega) (by omega), ps1_s _ _ _ _ (by omega) (by omega), ps1_s _ _ _ _ (by omega) (by omega), ps1_s _ _ _ _ (by omega) (by omega)]
  omega
theorem ps2_8 (k N d0 d1 d2 d3 : Nat) (h0 : d0 < 4) (h1 : d1 < 4) (h2 : d2 < 4) (h3 : d3 < 4) : ps2 (k + 2) (256 * N + (d0 + 4 * d1 + 16 * (d2 + 4 * d3))) = 256 * ps2 k N + ((d0 + d1) + 16 * (d2 + d3)) := by
  rw [show 256 * N + (d0 + 4 * d1 + 16 * (d2 + 4 * d3)) = 16 * (16 * N + (d2 + 4 * d3)) + (d0 + 4 * d1) by omega, ps2_s _ _ _ _ h0 h1, ps2_s _ _ _ _ h2 h3]
  omega
theorem ps2_m (k N : Nat) : ps2 (2 * k) (ps1 (4 * k) N) % 16 ≤ 4 := by
  cases k with
  | zero => rw [ps2, pm2, Nat.and_zero, Nat.and_zero]; decide
  | succ k =>
    rw [show 4 * (k + 1) = 4 * k + 4 by omega, show 2 * (k + 1) = 2 * k + 2 by omega, ps1_8, ps2_8 _ _ _ _ _ _ (by omega) (by omega) (by omega) (by omega)]
    omega
theorem ps_s (k N : Nat) : ps (k + 1) N = 256 * ps k (N / 256) + p8 N := by
  have h := ps2_m k (N / 256)
  rw [ps, show 4 * (k + 1) = 4 * k + 4 by omega, show 2 * (k + 1) = 2 * k + 2 by omega, ps1_8, ps2_8 _ _ _ _ _ _ (by omega) (by omega) (by omega) (by omega), ps3_s _ _ _ _ (by omega) (by omega), ps, p8]
  omega
theorem ps_0 (N : Nat) : ps 0 N = 0 := by rw [ps, ps3, pm3, Nat.and_zero]
theorem p8_le (N : Nat) : p8 N ≤ 8 := by rw [p8]; omega
theorem ps_4 (N : Nat) : ps 4 N = p8 N + 256 * (p8 (N / 256) + 256 * (p8 (N / 65536) + 256 * p8 (N / 16777216))) := by
  rw [ps_s, ps_s, ps_s, ps_s, ps_0, Nat.div_div_eq_div_mul, Nat.div_div_eq_div_mul]
  omega
abbrev bn (x : Int32) : Nat := x.toBitVec.toNat
theorem bn_lt (x : Int32) : bn x < 4294967296 := x.toBitVec.isLt
theorem bn_ush (x : Int32) (k : Nat) (hk : k < 32) : bn (ush x (nI k)) = bn x / 2 ^ k := by
  have e : (ush x (nI k)).toBitVec = x.toBitVec >>> k := by
    apply BitVec.eq_of_getLsbD_eq
    intro i hi
    rw [BitVec.getLsbD_ushiftRight]
    exact b_ushr k hk x i
  rw [bn, e, BitVec.toNat_ushiftRight, Nat.shiftRight_eq_div_pow]
theorem bn_and (x y : Int32) : bn (x &&& y) = bn x &&& bn y := by rw [bn, Int32.toBitVec_and, BitVec.toNat_and]
theorem bn_add {x y : Int32} (h : bn x + bn y < 4294967296) : bn (x + y) = bn x + bn y := by
  rw [bn, Int32.toBitVec_add, BitVec.toNat_add]
  exact Nat.mod_eq_of_lt h
theorem bn_sub {x y : Int32} (h : bn y ≤ bn x) : bn (x - y) = bn x - bn y := by
  have h1 := bn_lt x
  have h2 := bn_lt y
  rw [bn, Int32.toBitVec_sub, BitVec.toNat_sub]
  show (4294967296 - bn y + bn x) % 4294967296 = bn x - bn y
  omega
theorem bn_1 (x : Int32) : bn (bc1 x) = ps1 16 (bn x) := by
  have e : bn (ush x (nI 1) &&& 1431655765) = (bn x / 2 &&& pm1 16) := by rw [bn_and, bn_ush x 1 (by decide)]; rfl
  have h : (bn x / 2 &&& pm1 16) ≤ bn x / 2 := Nat.and_le_left
  rw [bc1, bn_sub (by rw [e]; omega), e, ps1]
theorem bn_2 (x : Int32) : bn (bc2 x) = ps2 8 (ps1 16 (bn x)) := by
  have e1 : bn (bc1 x &&& 858993459) = (ps1 16 (bn x) &&& pm2 8) := by rw [bn_and, bn_1]; rfl
  have e2 : bn (ush (bc1 x) (nI 2) &&& 858993459) = (ps1 16 (bn x) / 4 &&& pm2 8) := by rw [bn_and, bn_ush _ 2 (by decide), bn_1]; rfl
  have h1 : (ps1 16 (bn x) &&& pm2 8) ≤ pm2 8 := Nat.and_le_right
  have h2 : (ps1 16 (bn x) / 4 &&& pm2 8) ≤ pm2 8 := Nat.and_le_right
  have h3 : pm2 8 = 858993459 := by decide
  rw [bc2, bn_add (by rw [e1, e2]; omega), e1, e2, ps2]
theorem ps2_le (N : Nat) : ps2 8 N ≤ 1717986918 := by
  have h1 : (N &&& pm2 8) ≤ pm2 8 := Nat.and_le_right
  have h2 : (N / 4 &&& pm2 8) ≤ pm2 8 := Nat.and_le_right
  have h3 : pm2 8 = 858993459 := by decide
  rw [ps2]
  omega
theorem bn_3 (x : Int32) : bn (bc3 x) = ps 4 (bn x) := by
  have h := ps2_le (ps1 16 (bn x))
  have e1 : bn (ush (bc2 x) (nI 4)) = ps2 8 (ps1 16 (bn x)) / 16 := by rw [bn_ush _ 4 (by decide), bn_2]
  rw [bc3, bn_and, bn_add (by rw [bn_2, e1]; omega), bn_2, e1]
  rfl
theorem bn_cnt (x : Int32) : bitCnt x = nI (p8 (bn x) + p8 (bn x / 256) + (p8 (bn x / 65536) + p8 (bn x / 16777216))) := by
  have h3 := bn_3 x
  rw [ps_4] at h3
  have k0 := p8_le (bn x)
  have k1 := p8_le (bn x / 256)
  have k2 := p8_le (bn x / 65536)
  have k3 := p8_le (bn x / 16777216)
  generalize p8 (bn x) = g0 at *
  generalize p8 (bn x / 256) = g1 at *
  generalize p8 (bn x / 65536) = g2 at *
  generalize p8 (bn x / 16777216) = g3 at *
  have e1 : bn (ush (bc3 x) (nI 8)) = bn (bc3 x) / 256 := bn_ush _ 8 (by decide)
  have h4 : bn (bc4 x) = bn (bc3 x) + bn (bc3 x) / 256 := by rw [bc4, bn_add (by rw [e1]; omega), e1]
  have e2 : bn (ush (bc4 x) (nI 16)) = bn (bc4 x) / 65536 := bn_ush _ 16 (by decide)
  have h5 : bn (bitCnt x) = (bn (bc4 x) + bn (bc4 x) / 65536) % 64 := by
    rw [bitCnt, bn_and, bn_add (by rw [e2]; omega), e2]
    exact Nat.and_two_pow_sub_one_eq_mod _ 6
  apply Int32.toBitVec_inj.mp
  apply BitVec.eq_of_toNat_eq
  rw [pk_tn (by omega)]
  show bn (bitCnt x) = _
  rw [h5, h4, h3]
  omega
def btS (x : Int32) : Nat → Nat
  | 0 => 0
  | c + 1 => btS x c + (bt x c).toNat
theorem bt_n (x : Int32) (i : Nat) : (bt x i).toNat = bn x / 2 ^ i % 2 := by
  have e : bt x i = decide (bn x / 2 ^ i % 2 = 1) := Nat.testBit_eq_decide_div_mod_eq
  rw [e]
  have : bn x / 2 ^ i % 2 < 2 := Nat.mod_lt _ (by decide)
  by_cases h : bn x / 2 ^ i % 2 = 1
  · rw [decide_eq_true h, h]; rfl
  · rw [decide_eq_false h]
    show 0 = _
    omega
theorem btS_30 {x : Int32} (h : bn x < 1073741824) : bitCnt x = nI (btS x 30) := by
  rw [bn_cnt]
  congr 1
  simp only [btS, bt_n]
  simp only [p8, Nat.div_div_eq_div_mul]
  have z1 : bn x / 16777216 / 64 % 2 = 0 := by omega
  have z2 : bn x / 16777216 / 128 % 2 = 0 := by omega
  simp only [Nat.div_div_eq_div_mul] at z1 z2
  omega
