/-! THE TAPE AND ITS TOKENS, as plain functions; the class's Tape and reader on them -/
/-- a byte as the class keeps it -/
def sg (b : Nat) : Int32 := (nI b).toInt8.toInt32
def isL (b : Nat) : Bool := decide (97 ≤ b) && decide (b ≤ 122)
def isD (b : Nat) : Bool := decide (48 ≤ b) && decide (b ≤ 57)
def isB (b : Nat) : Bool := decide (b = 32)
theorem sg_D : ∀ b, b < 256 → inR (sg b) (nI 48) (nI 57) = isD b := by decide +kernel
theorem sg_L : ∀ b, b < 256 → inR (sg b) (nI 97) (nI 122) = isL b := by decide +kernel
theorem sg_59 : ∀ b, b < 256 → (sg b = nI 59 ↔ b = 59) := by decide +kernel
theorem sg_32 : ∀ b, b < 256 → (sg b = nI 32 ↔ b = 32) := by decide +kernel
theorem sg_lo : ∀ b, b < 128 → sg b = nI b := by decide +kernel
theorem isD_lt {b : Nat} (h : isD b = true) : 48 ≤ b ∧ b ≤ 57 := by simpa [isD] using h
theorem isL_lt {b : Nat} (h : isL b = true) : 97 ≤ b ∧ b ≤ 122 := by simpa [isL] using h
def chN (i j : Nat) : Nat := (chB i j).toNatClampNeg
theorem ch_N : ∀ i, i < 13 → ∀ j, j < txL.getD i 0 → chB i j = nI (chN i j) ∧ 97 ≤ chN i j ∧ chN i j ≤ 122 := by decide +kernel
theorem tx_len {i : Nat} (hi : i < 13) : txL.getD i 0 ≤ 7 := by
  rcases (show i = 0 ∨ i = 1 ∨ i = 2 ∨ i = 3 ∨ i = 4 ∨ i = 5 ∨ i = 6 ∨ i = 7 ∨ i = 8 ∨ i = 9 ∨ i = 10 ∨ i = 11 ∨ i = 12 by omega) with rfl | rfl | rfl | rfl | rfl | rfl | rfl | rfl | rfl | rfl | rfl | rfl | rfl <;> decide
theorem sg_hi : ∀ b, b < 256 → 128 ≤ b → sg b < 0 := by decide +kernel
theorem sg_c {b c : Nat} (hb : b < 256) (hc : c < 128) : nI c = sg b ↔ b = c := by
  rcases Nat.lt_or_ge b 128 with q | q
  · rw [sg_lo b q, nI_eq (by omega) (by omega)]
    omega
  · constructor
    · intro z
      have h1 := sg_hi b hb q
      rw [← z] at h1
      exact absurd h1 (nI_pos (by omega))
    · intro z; omega
/-- the first place from i on at which P ends -/
def scn (P : Nat → Bool) (T : Nat → Nat) (n : Nat) : Nat → Nat → Nat
  | 0, i => i
  | k + 1, i => if i < n ∧ P (T i) = true then scn P T n k (i + 1) else i
def scan (P : Nat → Bool) (T : Nat → Nat) (n i : Nat) : Nat := scn P T n (n - i) i
theorem scan_t {P : Nat → Bool} {T : Nat → Nat} {n i : Nat} (h : i < n) (hp : P (T i) = true) : scan P T n i = scan P T n (i + 1) := by
  rw [scan, show n - i = (n - (i + 1)) + 1 by omega, scn, if_pos ⟨h, hp⟩, scan]
theorem scan_f {P : Nat → Bool} {T : Nat → Nat} {n i : Nat} (h : P (T i) = false) : scan P T n i = i := by
  rw [scan]
  cases n - i with
  | zero => rfl
  | succ k => rw [scn, if_neg (fun z => by rw [h] at z; cases z.2)]
theorem scan_n {P : Nat → Bool} {T : Nat → Nat} {n i : Nat} (h : n ≤ i) : scan P T n i = i := by
  rw [scan, show n - i = 0 by omega, scn]
theorem scan_ge {P : Nat → Bool} {T : Nat → Nat} {n : Nat} : ∀ (k i : Nat), n - i = k → i ≤ scan P T n i
  | 0, i, h => by rw [scan_n (by omega)]; exact Nat.le_refl _
  | k + 1, i, h => by
    cases hp : P (T i) with
    | false => rw [scan_f hp]; exact Nat.le_refl _
    | true =>
      rw [scan_t (by omega) hp]
      have := scan_ge (P := P) (T := T) (n := n) k (i + 1) (by omega)
      omega
theorem scan_le {P : Nat → Bool} {T : Nat → Nat} {n : Nat} : ∀ (k i : Nat), n - i = k → i ≤ n → scan P T n i ≤ n
  | 0, i, h, hi => by rw [scan_n (by omega)]; exact hi
  | k + 1, i, h, hi => by
    cases hp : P (T i) with
    | false => rw [scan_f hp]; exact hi
    | true =>
      rw [scan_t (by omega) hp]
      exact scan_le (P := P) (T := T) (n := n) k (i + 1) (by omega) (by omega)
theorem scan_all {P : Nat → Bool} {T : Nat → Nat} {n : Nat} : ∀ (k i : Nat), n - i = k → ∀ j, i ≤ j → j < scan P T n i → P (T j) = true
  | 0, i, h, j, h1, h2 => by rw [scan_n (by omega)] at h2; omega
  | k + 1, i, h, j, h1, h2 => by
    cases hp : P (T i) with
    | false => rw [scan_f hp] at h2; omega
    | true =>
      rcases Nat.eq_or_lt_of_le h1 with q | q
      · rw [← q]; exact hp
      · rw [scan_t (by omega) hp] at h2
        exact scan_all (P := P) (T := T) (n := n) k (i + 1) (by omega) j q h2
theorem scan_end {P : Nat → Bool} {T : Nat → Nat} {n : Nat} : ∀ (k i : Nat), n - i = k → scan P T n i < n → P (T (scan P T n i)) = false
  | 0, i, h, h2 => by rw [scan_n (by omega)] at h2; omega
  | k + 1, i, h, h2 => by
    cases hp : P (T i) with
    | false => rw [scan_f hp]; exact hp
    | true =>
      rw [scan_t (by omega) hp] at h2 ⊢
      exact scan_end (P := P) (T := T) (n := n) k (i + 1) (by omega) h2
/-- blanks are gone over -/
def sk (n : Nat) (T : Nat → Nat) (i : Nat) : Nat := min (scan isB T n i) n
theorem sk_le (n : Nat) (T : Nat → Nat) (i : Nat) : sk n T i ≤ n := Nat.min_le_right _ _
/-- a number's digits, held at 1000 -/
def nvc (T : Nat → Nat) (s : Nat) : Nat → Nat
  | 0 => 0
  | j + 1 => min (10 * nvc T s j + (T (s + j) - 48)) 1000
theorem nvc_le (T : Nat → Nat) (s : Nat) : ∀ j, nvc T s j ≤ 1000
  | 0 => by rw [nvc]; omega
  | j + 1 => by rw [nvc]; omega
def isNm (n : Nat) (T : Nat → Nat) (s : Nat) : Bool := decide (s < n) && isD (T s)
def nEn (n : Nat) (T : Nat → Nat) (s : Nat) : Nat := scan isD T n s
def wEn (n : Nat) (T : Nat → Nat) (s : Nat) : Nat := scan isL T n s
def nv (n : Nat) (T : Nat → Nat) (s : Nat) : Nat := nvc T s (nEn n T s - s)
def mtF (T : Nat → Nat) (s w : Nat) : Nat → Bool
  | 0 => true
  | j + 1 => mtF T s w j && decide (T (s + j) = chN w j)
/-- the letters from s to e are the word w -/
def mt (T : Nat → Nat) (s e w : Nat) : Bool := decide (txL.getD w 0 = e - s) && mtF T s w (txL.getD w 0)
def wdk (T : Nat → Nat) (s e : Nat) : Nat → Nat
  | 0 => 15
  | w + 1 => match mt T s e w with
    | true => w
    | false => wdk T s e w
/-- the token at s: 0 to 11 a word, 12 a number, 13 the sign, 14 the end, 15 anything else -/
def tk (n : Nat) (T : Nat → Nat) (s : Nat) : Nat := if n ≤ s then 14 else if T s = 59 then 13 else match isD (T s) with
  | true => 12
  | false => match isL (T s) with
    | true => wdk T s (wEn n T s) 12
    | false => 15
/-- what lies behind it -/
def en (n : Nat) (T : Nat → Nat) (s : Nat) : Nat := if n ≤ s then s + 1 else if T s = 59 then s + 1 else match isD (T s) with
  | true => nEn n T s
  | false => match isL (T s) with
    | true => wEn n T s
    | false => s + 1
def nxt (n : Nat) (T : Nat → Nat) (s : Nat) : Nat := sk n T (en n T s)
theorem mtF_of {T : Nat → Nat} {s w : Nat} : ∀ {j : Nat}, mtF T s w j = true → ∀ i, i < j → T (s + i) = chN w i
  | 0, _, i, hi => by omega
  | j + 1, h, i, hi => by
    simp only [mtF, Bool.and_eq_true, decide_eq_true_eq] at h
    rcases Nat.lt_or_ge i j with q | q
    · exact mtF_of h.1 i q
    · obtain rfl : i = j := by omega
      exact h.2
/-- the reader, the tape, its bytes -/
abbrev hT (n : Nat) (T : Nat → Nat) (tok : Int32) (s b : Nat) (nu : Int32) : AH := [.inr (0, [.ref 1, .int tok, .int (nI s), .int (nI b), .int nu]), .inr (3, [.ref 2, .int (nI n)]), .inl (2, 120, .inl (fun i => sg (T i)))]
/-- the byte at a place, 0 behind the last one -/
def atC (n : Nat) (T : Nat → Nat) (i : Nat) : Int32 := if i < n then sg (T i) else 0
theorem S_at {n i : Nat} {T : Nat → Nat} (hn : n ≤ 120) (hi : i < 2 ^ 31) : Sp 0 mX3_at [.ref 0, .int (nI i)] [.inr (3, [.ref 1, .int (nI n)]), .inl (2, 120, .inl (fun i => sg (T i)))] (some (.int (atC n T i))) [.inr (3, [.ref 1, .int (nI n)]), .inl (2, 120, .inl (fun i => sg (T i)))] := by
  refine Sp.of [some (.ref 0), some (.int (nI i))] mrX3_at.1 rfl (Nat.le_of_ble_eq_true rfl) rfl (fun X => ?_)
  refine r_iload_n dX3_at_0 rfl ?_
  refine r_if_lt 21 dX3_at_1 (by decide) (fun c1 => ?_) (fun c1 => ?_)
  · exact absurd c1 (nI_pos hi)
  · refine r_iload_n dX3_at_4 rfl ?_
    refine r_aload_n dX3_at_5 rfl ?_
    refine r_getfield dX3_at_6 gfX3_15 rfl rfl ?_
    refine r_icmp_ge 21 dX3_at_9 (by decide) (fun c9 => ?_) (fun c9 => ?_)
    · refine r_iconst (v := nI 0) dX3_at_21 (by decide) ?_
      refine r_iret dX3_at_22 rfl rfl ?_ ?_
      · first | (rw [atC, if_pos ((nI_ltI hi (by omega)).mp (Int32.not_le.mp c9))]; done) | (rw [atC, if_neg (fun z => nI_ge z (by omega) c9)]; rfl)
      · exact HE.rf
    · refine r_aload_n dX3_at_12 rfl ?_
      refine r_getfield dX3_at_13 gfX3_9 rfl rfl ?_
      refine r_iload_n dX3_at_16 rfl ?_
      refine r_baldN dX3_at_17 rfl (by have := (nI_ltI hi (by omega)).mp (Int32.not_le.mp c9); omega) (Nat.le_of_ble_eq_true rfl) rfl ?_
      refine r_goto 22 dX3_at_18 (by decide) ?_
      refine r_iret dX3_at_22 rfl rfl ?_ ?_
      · first | (rw [atC, if_pos ((nI_ltI hi (by omega)).mp (Int32.not_le.mp c9))]; done) | (rw [atC, if_neg (fun z => nI_ge z (by omega) c9)]; rfl)
      · exact HE.rf
theorem T_at {n : Nat} {T : Nat → Nat} {tok : Int32} {s b : Nat} {nu : Int32} {i : Nat} (hn : n ≤ 120) (hi : i < 2 ^ 31) : Sp 0 mX3_at [.ref 1, .int (nI i)] (hT n T tok s b nu) (some (.int (atC n T i))) (hT n T tok s b nu) := (S_at hn hi).frame [1, 2] rfl (by decide) rfl rfl rfl rfl
theorem S_isDigit {x : Int32} {h : AH} : Sp 0 mX0_isDigit [.int x] h (some (.int (bI (inR x (nI 48) (nI 57))))) h := by
  refine Sp.of [some (.int x)] mrX0_isDigit.1 rfl (Nat.le_of_ble_eq_true rfl) rfl (fun X => ?_)
  refine r_iload_n dX0_isDigit_0 rfl ?_
  refine r_bipush (v := nI 48) dX0_isDigit_1 (by decide) ?_
  refine r_icmp_lt 16 dX0_isDigit_3 (by decide) (fun c3 => ?_) (fun c3 => ?_)
  · refine r_iconst (v := nI 0) dX0_isDigit_16 (by decide) ?_
    refine r_iret dX0_isDigit_17 rfl (by first | exact bI_nar _ | rfl) ?_ ?_
    · first | exact ret_t (inR_t (Int32.not_lt.mpr (by first | exact c3 | exact Int32.not_lt.mp c3)) (Int32.not_lt.mpr (by first | exact c9 | exact Int32.not_lt.mp c9))) | exact ret_f (inR_f1 c3) | exact ret_f (inR_f2 c9)
    · exact HE.rf
  · refine r_iload_n dX0_isDigit_6 rfl ?_
    refine r_bipush (v := nI 57) dX0_isDigit_7 (by decide) ?_
    refine r_icmp_gt 16 dX0_isDigit_9 (by decide) (fun c9 => ?_) (fun c9 => ?_)
    · refine r_iconst (v := nI 0) dX0_isDigit_16 (by decide) ?_
      refine r_iret dX0_isDigit_17 rfl (by first | exact bI_nar _ | rfl) ?_ ?_
      · first | exact ret_t (inR_t (Int32.not_lt.mpr (by first | exact c3 | exact Int32.not_lt.mp c3)) (Int32.not_lt.mpr (by first | exact c9 | exact Int32.not_lt.mp c9))) | exact ret_f (inR_f1 c3) | exact ret_f (inR_f2 c9)
      · exact HE.rf
    · refine r_iconst (v := nI 1) dX0_isDigit_12 (by decide) ?_
      refine r_goto 17 dX0_isDigit_13 (by decide) ?_
      refine r_iret dX0_isDigit_17 rfl (by first | exact bI_nar _ | rfl) ?_ ?_
      · first | exact ret_t (inR_t (Int32.not_lt.mpr (by first | exact c3 | exact Int32.not_lt.mp c3)) (Int32.not_lt.mpr (by first | exact c9 | exact Int32.not_lt.mp c9))) | exact ret_f (inR_f1 c3) | exact ret_f (inR_f2 c9)
      · exact HE.rf
theorem S_isLetter {x : Int32} {h : AH} : Sp 0 mX0_isLetter [.int x] h (some (.int (bI (inR x (nI 97) (nI 122))))) h := by
  refine Sp.of [some (.int x)] mrX0_isLetter.1 rfl (Nat.le_of_ble_eq_true rfl) rfl (fun X => ?_)
  refine r_iload_n dX0_isLetter_0 rfl ?_
  refine r_bipush (v := nI 97) dX0_isLetter_1 (by decide) ?_
  refine r_icmp_lt 16 dX0_isLetter_3 (by decide) (fun c3 => ?_) (fun c3 => ?_)
  · refine r_iconst (v := nI 0) dX0_isLetter_16 (by decide) ?_
    refine r_iret dX0_isLetter_17 rfl (by first | exact bI_nar _ | rfl) ?_ ?_
    · first | exact ret_t (inR_t (Int32.not_lt.mpr (by first | exact c3 | exact Int32.not_lt.mp c3)) (Int32.not_lt.mpr (by first | exact c9 | exact Int32.not_lt.mp c9))) | exact ret_f (inR_f1 c3) | exact ret_f (inR_f2 c9)
    · exact HE.rf
  · refine r_iload_n dX0_isLetter_6 rfl ?_
    refine r_bipush (v := nI 122) dX0_isLetter_7 (by decide) ?_
    refine r_icmp_gt 16 dX0_isLetter_9 (by decide) (fun c9 => ?_) (fun c9 => ?_)
    · refine r_iconst (v := nI 0) dX0_isLetter_16 (by decide) ?_
      refine r_iret dX0_isLetter_17 rfl (by first | exact bI_nar _ | rfl) ?_ ?_
      · first | exact ret_t (inR_t (Int32.not_lt.mpr (by first | exact c3 | exact Int32.not_lt.mp c3)) (Int32.not_lt.mpr (by first | exact c9 | exact Int32.not_lt.mp c9))) | exact ret_f (inR_f1 c3) | exact ret_f (inR_f2 c9)
      · exact HE.rf
    · refine r_iconst (v := nI 1) dX0_isLetter_12 (by decide) ?_
      refine r_goto 17 dX0_isLetter_13 (by decide) ?_
      refine r_iret dX0_isLetter_17 rfl (by first | exact bI_nar _ | rfl) ?_ ?_
      · first | exact ret_t (inR_t (Int32.not_lt.mpr (by first | exact c3 | exact Int32.not_lt.mp c3)) (Int32.not_lt.mpr (by first | exact c9 | exact Int32.not_lt.mp c9))) | exact ret_f (inR_f1 c3) | exact ret_f (inR_f2 c9)
      · exact HE.rf
theorem atC_D {n : Nat} {T : Nat → Nat} (hB : ∀ i, T i < 256) (i : Nat) : inR (atC n T i) (nI 48) (nI 57) = isNm n T i := by
  rw [atC, isNm]
  split
  · rename_i q; rw [sg_D _ (hB i), decide_eq_true q, Bool.true_and]
  · rename_i q; rw [decide_eq_false q, Bool.false_and]; decide
theorem atC_L {n : Nat} {T : Nat → Nat} (hB : ∀ i, T i < 256) (i : Nat) : inR (atC n T i) (nI 97) (nI 122) = (decide (i < n) && isL (T i)) := by
  rw [atC]
  split
  · rename_i q; rw [sg_L _ (hB i), decide_eq_true q, Bool.true_and]
  · rename_i q; rw [decide_eq_false q, Bool.false_and]; decide
theorem min_nI {a b : Nat} (ha : a < 2 ^ 31) (hb : b < 2 ^ 31) : (if nI b < nI a then nI b else nI a) = nI (min a b) := by
  split
  · rename_i q; rw [Nat.min_eq_right (Nat.le_of_lt ((nI_ltI hb ha).mp q))]
  · rename_i q; rw [Nat.min_eq_left (Nat.le_of_not_lt (fun z => q ((nI_ltI hb ha).mpr z)))]
theorem S_blanks {n : Nat} {T : Nat → Nat} {tok : Int32} {s b : Nat} {nu : Int32} (hn : n ≤ 120) (hB : ∀ i, T i < 256) (hb : b < 1000) : Sp 1 mX0_behindBlanks [.ref 0] (hT n T tok s b nu) (some (.int (nI (sk n T b)))) (hT n T tok s b nu) := by
  refine Sp.of [some (.ref 0), none] mrX0_behindBlanks.1 rfl (Nat.le_of_ble_eq_true rfl) rfl (fun X => ?_)
  have E : ∀ i, i < 2000 → i = scan isB T n b → Run X 1 mX0_behindBlanks 35 [some (.ref 0), some (.int (nI i))] [] (hT n T tok s b nu) (some (.int (nI (sk n T b)))) (hT n T tok s b nu) := by
    intro i h1 h2
    refine r_iload_n dX0_behindBlanks_35 rfl ?_
    refine r_aload_n dX0_behindBlanks_36 rfl ?_
    refine r_getfield dX0_behindBlanks_37 gfX0_12 rfl rfl ?_
    refine r_getfield dX0_behindBlanks_40 gfX0_106 rfl rfl ?_
    refine r_s2r S_J9_min_7cf53 (Nat.le_of_ble_eq_true rfl) mrJ9_min_7cf53 lkX0_115 dX0_behindBlanks_43 (Nat.le_of_ble_eq_true rfl) ?_
    refine r_iret dX0_behindBlanks_46 rfl rfl ?_ ?_
    · rw [min_nI (by omega) (by omega), h2]; rfl
    · exact HE.rf
  have L : ∀ (k i : Nat), n - i = k → i < 2000 → scan isB T n i = scan isB T n b → Run X 1 mX0_behindBlanks 5 [some (.ref 0), some (.int (nI i))] [] (hT n T tok s b nu) (some (.int (nI (sk n T b)))) (hT n T tok s b nu) := by
    intro k
    induction k with
    | zero =>
      intro i hk hi e
      refine r_iload_n dX0_behindBlanks_5 rfl ?_
      refine r_aload_n dX0_behindBlanks_6 rfl ?_
      refine r_getfield dX0_behindBlanks_7 gfX0_12 rfl rfl ?_
      refine r_getfield dX0_behindBlanks_10 gfX0_106 rfl rfl ?_
      refine r_icmp_ge 35 dX0_behindBlanks_13 (by decide) (fun c13 => ?_) (fun c13 => ?_)
      · exact E i hi (by rw [← e, scan_n (by omega)])
      · exact absurd (nI_le (by omega) (by omega)) c13
    | succ k ih =>
      intro i hk hi e
      refine r_iload_n dX0_behindBlanks_5 rfl ?_
      refine r_aload_n dX0_behindBlanks_6 rfl ?_
      refine r_getfield dX0_behindBlanks_7 gfX0_12 rfl rfl ?_
      refine r_getfield dX0_behindBlanks_10 gfX0_106 rfl rfl ?_
      refine r_icmp_ge 35 dX0_behindBlanks_13 (by decide) (fun c13 => ?_) (fun c13 => ?_)
      · exact absurd c13 (nI_ge (by omega) (by omega))
      · refine r_aload_n dX0_behindBlanks_16 rfl ?_
        refine r_getfield dX0_behindBlanks_17 gfX0_12 rfl rfl ?_
        refine r_iload_n dX0_behindBlanks_20 rfl ?_
        refine r_v1r (T_at hn (by omega)) (Nat.le_of_ble_eq_true rfl) mrX3_at lkX0_96 rfl rfl rfl dX0_behindBlanks_21 (Nat.le_of_ble_eq_true rfl) ?_
        rw [atC, if_pos (show i < n by omega)]
        refine r_bipush (v := nI 32) dX0_behindBlanks_24 (by decide) ?_
        refine r_icmp_ne 35 dX0_behindBlanks_26 (by decide) (fun c26 => ?_) (fun c26 => ?_)
        · exact E i hi (by rw [← e, scan_f (by rw [isB]; exact decide_eq_false (fun z => c26 ((sg_32 _ (hB i)).mpr z)))])
        · refine r_iinc (lv' := [_, _]) dX0_behindBlanks_29 (by decide) rfl (by first | exact inc1 _ | exact inc1_ _) rfl ?_
          refine r_goto 5 dX0_behindBlanks_32 (by decide) ?_
          exact ih (i + 1) (by omega) (by omega) (by rw [← e, scan_t (i := i) (by omega) (by rw [isB]; exact decide_eq_true ((sg_32 _ (hB i)).mp c26))])
  refine r_aload_n dX0_behindBlanks_0 rfl ?_
  refine r_getfield dX0_behindBlanks_1 gfX0_18 rfl rfl ?_
  refine r_istore_n (lv' := [_, _]) dX0_behindBlanks_4 (by decide) rfl ?_
  exact L (n - b) b rfl (by omega) rfl
theorem S_takeNumber {n : Nat} {T : Nat → Nat} {tok : Int32} {s b : Nat} {nu : Int32} (hn : n ≤ 120) (hB : ∀ i, T i < 256) (hs : s < 1000) : Sp 1 mX0_takeNumber [.ref 0] (hT n T tok s b nu) none (hT n T (nI 12) s (nEn n T s) (nI (nv n T s))) := by
  refine Sp.of [some (.ref 0), none] mrX0_takeNumber.1 rfl (Nat.le_of_ble_eq_true rfl) rfl (fun X => ?_)
  have L : ∀ (k j : Nat), n - (s + j) = k → j < 2000 → scan isD T n (s + j) = nEn n T s → Run X 1 mX0_takeNumber 16 [some (.ref 0), some (.int (nI (s + j)))] [] (hT n T (nI 12) s b (nI (nvc T s j))) none (hT n T (nI 12) s (nEn n T s) (nI (nv n T s))) := by
    intro k
    have E : ∀ j, j < 2000 → s + j = nEn n T s → Run X 1 mX0_takeNumber 76 [some (.ref 0), some (.int (nI (s + j)))] [] (hT n T (nI 12) s b (nI (nvc T s j))) none (hT n T (nI 12) s (nEn n T s) (nI (nv n T s))) := by
      intro j h1 h2
      refine r_aload_n dX0_takeNumber_76 rfl ?_
      refine r_iload_n dX0_takeNumber_77 rfl ?_
      refine r_putfield (fs' := [_, _, _, _, _]) (h' := [_, _, _]) dX0_takeNumber_78 pfX0_18 rfl (Nat.le_of_ble_eq_true rfl) (fun _ => rfl) rfl rfl rfl rfl ?_
      refine r_vret dX0_takeNumber_81 rfl ?_ ?_
      · rfl
      · rw [nv, ← h2, show s + j - s = j by omega]
        exact HE.rf
    induction k with
    | zero =>
      intro j hk hj e
      refine r_iload_n dX0_takeNumber_16 rfl ?_
      refine r_aload_n dX0_takeNumber_17 rfl ?_
      refine r_getfield dX0_takeNumber_18 gfX0_12 rfl rfl ?_
      refine r_getfield dX0_takeNumber_21 gfX0_106 rfl rfl ?_
      refine r_icmp_ge 76 dX0_takeNumber_24 (by decide) (fun c24 => ?_) (fun c24 => ?_)
      · exact E j hj (by rw [← e, scan_n (by omega)])
      · exact absurd (nI_le (by omega) (by omega)) c24
    | succ k ih =>
      intro j hk hj e
      have hjn : s + j < n := by omega
      refine r_iload_n dX0_takeNumber_16 rfl ?_
      refine r_aload_n dX0_takeNumber_17 rfl ?_
      refine r_getfield dX0_takeNumber_18 gfX0_12 rfl rfl ?_
      refine r_getfield dX0_takeNumber_21 gfX0_106 rfl rfl ?_
      refine r_icmp_ge 76 dX0_takeNumber_24 (by decide) (fun c24 => ?_) (fun c24 => ?_)
      · exact absurd c24 (nI_ge (by omega) (by omega))
      · refine r_aload_n dX0_takeNumber_27 rfl ?_
        refine r_getfield dX0_takeNumber_28 gfX0_12 rfl rfl ?_
        refine r_iload_n dX0_takeNumber_31 rfl ?_
        refine r_v1r (T_at hn (by omega)) (Nat.le_of_ble_eq_true rfl) mrX3_at lkX0_96 rfl rfl rfl dX0_takeNumber_32 (Nat.le_of_ble_eq_true rfl) ?_
        refine r_s1r S_isDigit (Nat.le_of_ble_eq_true rfl) mrX0_isDigit lkX0_100 dX0_takeNumber_35 (Nat.le_of_ble_eq_true rfl) ?_
        rw [atC_D hB]
        refine r_if_eqB 76 dX0_takeNumber_38 (by decide) (fun c38 => ?_) (fun c38 => ?_)
        · exact E j hj (by rw [← e, scan_f (by rw [isNm, decide_eq_true (show s + j < n by omega), Bool.true_and] at c38; exact c38)])
        · have hd : isD (T (s + j)) = true := by rw [isNm, decide_eq_true (show s + j < n by omega), Bool.true_and] at c38; exact c38
          have hd2 := isD_lt hd
          have hle := nvc_le T s j
          refine r_aload_n dX0_takeNumber_41 rfl ?_
          refine r_bipush (v := nI 10) dX0_takeNumber_42 (by decide) ?_
          refine r_aload_n dX0_takeNumber_44 rfl ?_
          refine r_getfield dX0_takeNumber_45 gfX0_75 rfl rfl ?_
          refine r_imul dX0_takeNumber_48 ?_
          refine r_aload_n dX0_takeNumber_49 rfl ?_
          refine r_getfield dX0_takeNumber_50 gfX0_12 rfl rfl ?_
          refine r_iload_n dX0_takeNumber_53 rfl ?_
          refine r_v1r (T_at hn (by omega)) (Nat.le_of_ble_eq_true rfl) mrX3_at lkX0_96 rfl rfl rfl dX0_takeNumber_54 (Nat.le_of_ble_eq_true rfl) ?_
          rw [atC, if_pos (show s + j < n by omega), sg_lo _ (by omega), pk_mul]
          refine r_iadd dX0_takeNumber_57 ?_
          rw [nI_add]
          refine r_bipush (v := nI 48) dX0_takeNumber_58 (by decide) ?_
          refine r_isub dX0_takeNumber_60 ?_
          rw [pk_sub (by omega)]
          refine r_sipush (v := nI 1000) dX0_takeNumber_61 (by decide) ?_
          refine r_s2r S_J9_min_7cf53 (Nat.le_of_ble_eq_true rfl) mrJ9_min_7cf53 lkX0_115 dX0_takeNumber_64 (Nat.le_of_ble_eq_true rfl) ?_
          rw [min_nI (by omega) (by omega), show min (10 * nvc T s j + T (s + j) - 48) 1000 = nvc T s (j + 1) by rw [nvc, Nat.add_sub_assoc hd2.1]]
          refine r_putfield (fs' := [_, _, _, _, _]) (h' := [_, _, _]) dX0_takeNumber_67 pfX0_75 rfl (Nat.le_of_ble_eq_true rfl) (fun _ => rfl) rfl rfl rfl rfl ?_
          refine r_iinc (lv' := [_, _]) dX0_takeNumber_70 (by decide) rfl (by first | exact inc1 _ | exact inc1_ _) rfl ?_
          refine r_goto 16 dX0_takeNumber_73 (by decide) ?_
          exact ih (j + 1) (by omega) (by omega) (by rw [← e, scan_t (i := s + j) (by omega) hd]; rfl)
  refine r_aload_n dX0_takeNumber_0 rfl ?_
  refine r_bipush (v := nI 12) dX0_takeNumber_1 (by decide) ?_
  refine r_putfield (fs' := [_, _, _, _, _]) (h' := [_, _, _]) dX0_takeNumber_3 pfX0_32 rfl (Nat.le_of_ble_eq_true rfl) (fun _ => rfl) rfl rfl rfl rfl ?_
  refine r_aload_n dX0_takeNumber_6 rfl ?_
  refine r_iconst (v := nI 0) dX0_takeNumber_7 (by decide) ?_
  refine r_putfield (fs' := [_, _, _, _, _]) (h' := [_, _, _]) dX0_takeNumber_8 pfX0_75 rfl (Nat.le_of_ble_eq_true rfl) (fun _ => rfl) rfl rfl rfl rfl ?_
  refine r_aload_n dX0_takeNumber_11 rfl ?_
  refine r_getfield dX0_takeNumber_12 gfX0_29 rfl rfl ?_
  refine r_istore_n (lv' := [_, _]) dX0_takeNumber_15 (by decide) rfl ?_
  exact L (n - s) 0 rfl (by omega) rfl
theorem S_textOf {w : Nat} {h : AH} (hw : w < 12) : Sp 0 mX0_textOf [.int (nI w)] h (some (.ref (2000 + w))) h := by
  refine Sp.of [some (.int (nI w))] mrX0_textOf.1 rfl (Nat.le_of_ble_eq_true rfl) rfl (fun X => ?_)
  refine r_iload_n dX0_textOf_0 rfl ?_
  refine r_tsw 100 dX0_textOf_1 (by decide) (fun v1 h1 g1 e1 => ?_) (fun e1 => ?_)
  · rcases (show v1 = 0 ∨ v1 = 1 ∨ v1 = 2 ∨ v1 = 3 ∨ v1 = 4 ∨ v1 = 5 ∨ v1 = 6 ∨ v1 = 7 ∨ v1 = 8 ∨ v1 = 9 ∨ v1 = 10 ∨ v1 = 11 by omega) with rfl | rfl | rfl | rfl | rfl | rfl | rfl | rfl | rfl | rfl | rfl | rfl
    · refine ⟨63, 64, by decide, by decide, ?_⟩
      have c1 := toI_eq 0 e1 (by decide)
      refine r_ldcS 0 (by decide) rfl rfl dX0_textOf_64 ?_
      refine r_aret dX0_textOf_66 rfl ?_ ?_
      · obtain rfl := (nI_eq (by omega) (by omega)).mp c1
        rfl
      · exact HE.rf
    · refine ⟨66, 67, by decide, by decide, ?_⟩
      have c1 := toI_eq 1 e1 (by decide)
      refine r_ldcS 1 (by decide) rfl rfl dX0_textOf_67 ?_
      refine r_aret dX0_textOf_69 rfl ?_ ?_
      · obtain rfl := (nI_eq (by omega) (by omega)).mp c1
        rfl
      · exact HE.rf
    · refine ⟨69, 70, by decide, by decide, ?_⟩
      have c1 := toI_eq 2 e1 (by decide)
      refine r_ldcS 2 (by decide) rfl rfl dX0_textOf_70 ?_
      refine r_aret dX0_textOf_72 rfl ?_ ?_
      · obtain rfl := (nI_eq (by omega) (by omega)).mp c1
        rfl
      · exact HE.rf
    · refine ⟨72, 73, by decide, by decide, ?_⟩
      have c1 := toI_eq 3 e1 (by decide)
      refine r_ldcS 3 (by decide) rfl rfl dX0_textOf_73 ?_
      refine r_aret dX0_textOf_75 rfl ?_ ?_
      · obtain rfl := (nI_eq (by omega) (by omega)).mp c1
        rfl
      · exact HE.rf
    · refine ⟨75, 76, by decide, by decide, ?_⟩
      have c1 := toI_eq 4 e1 (by decide)
      refine r_ldcS 4 (by decide) rfl rfl dX0_textOf_76 ?_
      refine r_aret dX0_textOf_78 rfl ?_ ?_
      · obtain rfl := (nI_eq (by omega) (by omega)).mp c1
        rfl
      · exact HE.rf
    · refine ⟨78, 79, by decide, by decide, ?_⟩
      have c1 := toI_eq 5 e1 (by decide)
      refine r_ldcS 5 (by decide) rfl rfl dX0_textOf_79 ?_
      refine r_aret dX0_textOf_81 rfl ?_ ?_
      · obtain rfl := (nI_eq (by omega) (by omega)).mp c1
        rfl
      · exact HE.rf
    · refine ⟨81, 82, by decide, by decide, ?_⟩
      have c1 := toI_eq 6 e1 (by decide)
      refine r_ldcS 6 (by decide) rfl rfl dX0_textOf_82 ?_
      refine r_aret dX0_textOf_84 rfl ?_ ?_
      · obtain rfl := (nI_eq (by omega) (by omega)).mp c1
        rfl
      · exact HE.rf
    · refine ⟨84, 85, by decide, by decide, ?_⟩
      have c1 := toI_eq 7 e1 (by decide)
      refine r_ldcS 7 (by decide) rfl rfl dX0_textOf_85 ?_
      refine r_aret dX0_textOf_87 rfl ?_ ?_
      · obtain rfl := (nI_eq (by omega) (by omega)).mp c1
        rfl
      · exact HE.rf
    · refine ⟨87, 88, by decide, by decide, ?_⟩
      have c1 := toI_eq 8 e1 (by decide)
      refine r_ldcS 8 (by decide) rfl rfl dX0_textOf_88 ?_
      refine r_aret dX0_textOf_90 rfl ?_ ?_
      · obtain rfl := (nI_eq (by omega) (by omega)).mp c1
        rfl
      · exact HE.rf
    · refine ⟨90, 91, by decide, by decide, ?_⟩
      have c1 := toI_eq 9 e1 (by decide)
      refine r_ldcS 9 (by decide) rfl rfl dX0_textOf_91 ?_
      refine r_aret dX0_textOf_93 rfl ?_ ?_
      · obtain rfl := (nI_eq (by omega) (by omega)).mp c1
        rfl
      · exact HE.rf
    · refine ⟨93, 94, by decide, by decide, ?_⟩
      have c1 := toI_eq 10 e1 (by decide)
      refine r_ldcS 10 (by decide) rfl rfl dX0_textOf_94 ?_
      refine r_aret dX0_textOf_96 rfl ?_ ?_
      · obtain rfl := (nI_eq (by omega) (by omega)).mp c1
        rfl
      · exact HE.rf
    · refine ⟨96, 97, by decide, by decide, ?_⟩
      have c1 := toI_eq 11 e1 (by decide)
      refine r_ldcS 11 (by decide) rfl rfl dX0_textOf_97 ?_
      refine r_aret dX0_textOf_99 rfl ?_ ?_
      · obtain rfl := (nI_eq (by omega) (by omega)).mp c1
        rfl
      · exact HE.rf
  · have c1_0 := toI_ne 0 e1 (by decide)
    have c1_1 := toI_ne 1 e1 (by decide)
    have c1_2 := toI_ne 2 e1 (by decide)
    have c1_3 := toI_ne 3 e1 (by decide)
    have c1_4 := toI_ne 4 e1 (by decide)
    have c1_5 := toI_ne 5 e1 (by decide)
    have c1_6 := toI_ne 6 e1 (by decide)
    have c1_7 := toI_ne 7 e1 (by decide)
    have c1_8 := toI_ne 8 e1 (by decide)
    have c1_9 := toI_ne 9 e1 (by decide)
    have c1_10 := toI_ne 10 e1 (by decide)
    have c1_11 := toI_ne 11 e1 (by decide)
    rcases (show w = 0 ∨ w = 1 ∨ w = 2 ∨ w = 3 ∨ w = 4 ∨ w = 5 ∨ w = 6 ∨ w = 7 ∨ w = 8 ∨ w = 9 ∨ w = 10 ∨ w = 11 by omega) with rfl | rfl | rfl | rfl | rfl | rfl | rfl | rfl | rfl | rfl | rfl | rfl
    · exact absurd rfl c1_0
    · exact absurd rfl c1_1
    · exact absurd rfl c1_2
    · exact absurd rfl c1_3
    · exact absurd rfl c1_4
    · exact absurd rfl c1_5
    · exact absurd rfl c1_6
    · exact absurd rfl c1_7
    · exact absurd rfl c1_8
    · exact absurd rfl c1_9
    · exact absurd rfl c1_10
    · exact absurd rfl c1_11
theorem S_isWord {n : Nat} {T : Nat → Nat} {tok : Int32} {s b : Nat} {nu : Int32} {w : Nat} (hn : n ≤ 120) (hB : ∀ i, T i < 256) (hs : s ≤ b) (hb : b ≤ n) (hw : w < 12) : Sp 4 mX0_isWord [.ref 0, .ref (2000 + w)] (hT n T tok s b nu) (some (.int (bI (mt T s b w)))) (hT n T tok s b nu) := by
  refine Sp.of [some (.ref 0), some (.ref (2000 + w)), none] mrX0_isWord.1 rfl (Nat.le_of_ble_eq_true rfl) rfl (fun X => ?_)
  have hl := tx_len (i := w) (by omega)
  have L : txL.getD w 0 = b - s → ∀ (k j : Nat), j + k = txL.getD w 0 → mtF T s w j = true → Run X 4 mX0_isWord 20 [some (.ref 0), some (.ref (2000 + w)), some (.int (nI j))] [] (hT n T tok s b nu) (some (.int (bI (mt T s b w)))) (hT n T tok s b nu) := by
    intro h0 k
    induction k with
    | zero =>
      intro j hj hm
      obtain rfl : j = txL.getD w 0 := by omega
      refine r_iload_n dX0_isWord_20 rfl ?_
      refine r_aload_n dX0_isWord_21 rfl ?_
      refine r_callT [] (S_length (by omega)) (Nat.le_of_ble_eq_true rfl) mrJ0_length_8abf5 lkX0_129 (by omega) rfl dX0_isWord_22 (Nat.le_of_ble_eq_true rfl) (fun h9 _ q9 => r_heq q9 ?_)
      refine r_icmp_ge 57 dX0_isWord_25 (by decide) (fun c25 => ?_) (fun c25 => ?_)
      · refine r_iconst (v := nI 1) dX0_isWord_57 (by decide) ?_
        refine r_iret dX0_isWord_58 rfl (by first | exact bI_nar _ | rfl) ?_ ?_
        · exact ret_t (by rw [mt, hm, decide_eq_true h0]; rfl)
        · exact HE.rf
      · exact absurd (nI_le (Nat.le_refl _) (by omega)) c25
    | succ k ih =>
      intro j hj hm
      have hc := ch_N w (by omega) j (by omega)
      refine r_iload_n dX0_isWord_20 rfl ?_
      refine r_aload_n dX0_isWord_21 rfl ?_
      refine r_callT [] (S_length (by omega)) (Nat.le_of_ble_eq_true rfl) mrJ0_length_8abf5 lkX0_129 (by omega) rfl dX0_isWord_22 (Nat.le_of_ble_eq_true rfl) (fun h9 _ q9 => r_heq q9 ?_)
      refine r_icmp_ge 57 dX0_isWord_25 (by decide) (fun c25 => ?_) (fun c25 => ?_)
      · exact absurd c25 (nI_ge (by omega) (by omega))
      · refine r_aload_n dX0_isWord_28 rfl ?_
        refine r_iload_n dX0_isWord_29 rfl ?_
        refine r_callT [_] (S_charAt (i := w) (j := j) (by omega) (by omega)) (Nat.le_of_ble_eq_true rfl) mrJ0_charAt_5068e lkX0_133 (by omega) rfl dX0_isWord_30 (Nat.le_of_ble_eq_true rfl) (fun h9 _ q9 => r_heq q9 ?_)
        refine r_aload_n dX0_isWord_33 rfl ?_
        refine r_getfield dX0_isWord_34 gfX0_12 rfl rfl ?_
        refine r_aload_n dX0_isWord_37 rfl ?_
        refine r_getfield dX0_isWord_38 gfX0_29 rfl rfl ?_
        refine r_iload_n dX0_isWord_41 rfl ?_
        refine r_iadd dX0_isWord_42 ?_
        rw [nI_add]
        refine r_v1r (T_at hn (by omega)) (Nat.le_of_ble_eq_true rfl) mrX3_at lkX0_96 rfl rfl rfl dX0_isWord_43 (Nat.le_of_ble_eq_true rfl) ?_
        rw [atC, if_pos (show s + j < n by omega), hc.1]
        refine r_icmp_eq 51 dX0_isWord_46 (by decide) (fun c46 => ?_) (fun c46 => ?_)
        · refine r_iinc (lv' := [_, _, _]) dX0_isWord_51 (by decide) rfl (by first | exact inc1 _ | exact inc1_ _) rfl ?_
          refine r_goto 20 dX0_isWord_54 (by decide) ?_
          exact ih (j + 1) (by omega) (by rw [mtF, hm, decide_eq_true ((sg_c (hB _) (by omega)).mp c46)]; rfl)
        · refine r_iconst (v := nI 0) dX0_isWord_49 (by decide) ?_
          refine r_iret dX0_isWord_50 rfl (by first | exact bI_nar _ | rfl) ?_ ?_
          · exact ret_f (by cases hm2 : mt T s b w with | false => rfl | true => simp only [mt, Bool.and_eq_true, decide_eq_true_eq] at hm2; exact absurd ((sg_c (hB _) (by omega)).mpr (mtF_of hm2.2 j (by omega))) c46)
          · exact HE.rf
  refine r_aload_n dX0_isWord_0 rfl ?_
  refine r_callT [] (S_length (by omega)) (Nat.le_of_ble_eq_true rfl) mrJ0_length_8abf5 lkX0_129 (by omega) rfl dX0_isWord_1 (Nat.le_of_ble_eq_true rfl) (fun h9 _ q9 => r_heq q9 ?_)
  refine r_aload_n dX0_isWord_4 rfl ?_
  refine r_getfield dX0_isWord_5 gfX0_18 rfl rfl ?_
  refine r_aload_n dX0_isWord_8 rfl ?_
  refine r_getfield dX0_isWord_9 gfX0_29 rfl rfl ?_
  refine r_isub dX0_isWord_12 ?_
  rw [pk_sub hs]
  refine r_icmp_eq 18 dX0_isWord_13 (by decide) (fun c13 => ?_) (fun c13 => ?_)
  · refine r_iconst (v := nI 0) dX0_isWord_18 (by decide) ?_
    refine r_istore_n (lv' := [_, _, _]) dX0_isWord_19 (by decide) rfl ?_
    exact L ((nI_eq (by omega) (by omega)).mp c13) (txL.getD w 0) 0 (by omega) rfl
  · refine r_iconst (v := nI 0) dX0_isWord_16 (by decide) ?_
    refine r_iret dX0_isWord_17 rfl (by first | exact bI_nar _ | rfl) ?_ ?_
    · exact ret_f (by rw [mt, decide_eq_false (fun z => c13 (by rw [z]))]; rfl)
    · exact HE.rf
theorem S_takeWord {n : Nat} {T : Nat → Nat} {tok : Int32} {s b : Nat} {nu : Int32} (hn : n ≤ 120) (hB : ∀ i, T i < 256) (hs : s ≤ n) : Sp 5 mX0_takeWord [.ref 0] (hT n T tok s b nu) none (hT n T (nI (wdk T s (wEn n T s) 12)) s (wEn n T s) nu) := by
  refine Sp.of [some (.ref 0), none, none] mrX0_takeWord.1 rfl (Nat.le_of_ble_eq_true rfl) rfl (fun X => ?_)
  have h1 : s ≤ wEn n T s := scan_ge _ _ rfl
  have h2 : wEn n T s ≤ n := scan_le _ _ rfl hs
  have L2 : ∀ (k j : Nat), j + k = 12 → Run X 5 mX0_takeWord 49 [some (.ref 0), none, some (.int (nI j))] [] (hT n T (nI (wdk T s (wEn n T s) j)) s (wEn n T s) nu) none (hT n T (nI (wdk T s (wEn n T s) 12)) s (wEn n T s) nu) := by
    intro k
    induction k with
    | zero =>
      intro j hj
      obtain rfl : j = 12 := by omega
      refine r_iload_n dX0_takeWord_49 rfl ?_
      refine r_bipush (v := nI 12) dX0_takeWord_50 (by decide) ?_
      refine r_icmp_ge 77 dX0_takeWord_52 (by decide) (fun c52 => ?_) (fun c52 => ?_)
      · refine r_vret dX0_takeWord_77 rfl ?_ ?_
        · rfl
        · exact HE.rf
      · exact absurd (nI_le (Nat.le_refl _) (by omega)) c52
    | succ k ih =>
      intro j hj
      refine r_iload_n dX0_takeWord_49 rfl ?_
      refine r_bipush (v := nI 12) dX0_takeWord_50 (by decide) ?_
      refine r_icmp_ge 77 dX0_takeWord_52 (by decide) (fun c52 => ?_) (fun c52 => ?_)
      · exact absurd c52 (nI_ge (by omega) (by omega))
      · refine r_aload_n dX0_takeWord_55 rfl ?_
        refine r_iload_n dX0_takeWord_56 rfl ?_
        refine r_s1r (S_textOf (by omega)) (Nat.le_of_ble_eq_true rfl) mrX0_textOf lkX0_121 dX0_takeWord_57 (Nat.le_of_ble_eq_true rfl) ?_
        refine r_v1r (S_isWord hn hB h1 h2 (by omega)) (Nat.le_of_ble_eq_true rfl) mrX0_isWord lkX0_125 rfl rfl rfl dX0_takeWord_60 (Nat.le_of_ble_eq_true rfl) ?_
        refine r_if_eqB 71 dX0_takeWord_63 (by decide) (fun c63 => ?_) (fun c63 => ?_)
        · refine r_iinc (lv' := [_, _, _]) dX0_takeWord_71 (by decide) rfl (by first | exact inc1 _ | exact inc1_ _) rfl ?_
          refine r_goto 49 dX0_takeWord_74 (by decide) ?_
          have e := ih (j + 1) (by omega)
          simp only [wdk, c63] at e
          exact e
        · refine r_aload_n dX0_takeWord_66 rfl ?_
          refine r_iload_n dX0_takeWord_67 rfl ?_
          refine r_putfield (fs' := [_, _, _, _, _]) (h' := [_, _, _]) dX0_takeWord_68 pfX0_32 rfl (Nat.le_of_ble_eq_true rfl) (fun _ => rfl) rfl rfl rfl rfl ?_
          refine r_iinc (lv' := [_, _, _]) dX0_takeWord_71 (by decide) rfl (by first | exact inc1 _ | exact inc1_ _) rfl ?_
          refine r_goto 49 dX0_takeWord_74 (by decide) ?_
          have e := ih (j + 1) (by omega)
          simp only [wdk, c63] at e
          exact e
  have E : ∀ i, i < 2000 → i = wEn n T s → Run X 5 mX0_takeWord 36 [some (.ref 0), some (.int (nI i)), none] [] (hT n T tok s b nu) none (hT n T (nI (wdk T s (wEn n T s) 12)) s (wEn n T s) nu) := by
    intro i h3 h4
    subst h4
    refine r_aload_n dX0_takeWord_36 rfl ?_
    refine r_iload_n dX0_takeWord_37 rfl ?_
    refine r_putfield (fs' := [_, _, _, _, _]) (h' := [_, _, _]) dX0_takeWord_38 pfX0_18 rfl (Nat.le_of_ble_eq_true rfl) (fun _ => rfl) rfl rfl rfl rfl ?_
    refine r_aload_n dX0_takeWord_41 rfl ?_
    refine r_bipush (v := nI 15) dX0_takeWord_42 (by decide) ?_
    refine r_putfield (fs' := [_, _, _, _, _]) (h' := [_, _, _]) dX0_takeWord_44 pfX0_32 rfl (Nat.le_of_ble_eq_true rfl) (fun _ => rfl) rfl rfl rfl rfl ?_
    refine r_iconst (v := nI 0) dX0_takeWord_47 (by decide) ?_
    refine r_istore_n (lv' := [_, _, _]) dX0_takeWord_48 (by decide) rfl ?_
    exact r_lv (lv' := [_, none, _]) (lvDrop 1 rfl) (L2 12 0 (by omega))
  have L : ∀ (k i : Nat), n - i = k → i < 2000 → scan isL T n i = wEn n T s → Run X 5 mX0_takeWord 5 [some (.ref 0), some (.int (nI i)), none] [] (hT n T tok s b nu) none (hT n T (nI (wdk T s (wEn n T s) 12)) s (wEn n T s) nu) := by
    intro k
    induction k with
    | zero =>
      intro i hk hi e
      refine r_iload_n dX0_takeWord_5 rfl ?_
      refine r_aload_n dX0_takeWord_6 rfl ?_
      refine r_getfield dX0_takeWord_7 gfX0_12 rfl rfl ?_
      refine r_getfield dX0_takeWord_10 gfX0_106 rfl rfl ?_
      refine r_icmp_ge 36 dX0_takeWord_13 (by decide) (fun c13 => ?_) (fun c13 => ?_)
      · exact E i hi (by rw [← e, scan_n (by omega)])
      · exact absurd (nI_le (by omega) (by omega)) c13
    | succ k ih =>
      intro i hk hi e
      refine r_iload_n dX0_takeWord_5 rfl ?_
      refine r_aload_n dX0_takeWord_6 rfl ?_
      refine r_getfield dX0_takeWord_7 gfX0_12 rfl rfl ?_
      refine r_getfield dX0_takeWord_10 gfX0_106 rfl rfl ?_
      refine r_icmp_ge 36 dX0_takeWord_13 (by decide) (fun c13 => ?_) (fun c13 => ?_)
      · exact absurd c13 (nI_ge (by omega) (by omega))
      · refine r_aload_n dX0_takeWord_16 rfl ?_
        refine r_getfield dX0_takeWord_17 gfX0_12 rfl rfl ?_
        refine r_iload_n dX0_takeWord_20 rfl ?_
        refine r_v1r (T_at hn (by omega)) (Nat.le_of_ble_eq_true rfl) mrX3_at lkX0_96 rfl rfl rfl dX0_takeWord_21 (Nat.le_of_ble_eq_true rfl) ?_
        refine r_s1r S_isLetter (Nat.le_of_ble_eq_true rfl) mrX0_isLetter lkX0_109 dX0_takeWord_24 (Nat.le_of_ble_eq_true rfl) ?_
        rw [atC_L hB, decide_eq_true (show i < n by omega), Bool.true_and]
        refine r_if_eqB 36 dX0_takeWord_27 (by decide) (fun c27 => ?_) (fun c27 => ?_)
        · exact E i hi (by rw [← e, scan_f c27])
        · refine r_iinc (lv' := [_, _, _]) dX0_takeWord_30 (by decide) rfl (by first | exact inc1 _ | exact inc1_ _) rfl ?_
          refine r_goto 5 dX0_takeWord_33 (by decide) ?_
          exact ih (i + 1) (by omega) (by omega) (by rw [← e, scan_t (i := i) (by omega) c27])
  refine r_aload_n dX0_takeWord_0 rfl ?_
  refine r_getfield dX0_takeWord_1 gfX0_29 rfl rfl ?_
  refine r_istore_n (lv' := [_, _, _]) dX0_takeWord_4 (by decide) rfl ?_
  exact L (n - s) s rfl (by omega) rfl
/-- the number that stands behind it in the reader -/
def nuF (n : Nat) (T : Nat → Nat) (s : Nat) (nu : Int32) : Int32 := if tk n T s = 12 then nI (nv n T s) else nu
theorem S_next {n : Nat} {T : Nat → Nat} {tok : Int32} {s b : Nat} {nu : Int32} (hn : n ≤ 120) (hB : ∀ i, T i < 256) (hb : b < 1000) : ∃ nu', Sp 6 mX0_next [.ref 0] (hT n T tok s b nu) none (hT n T (nI (tk n T (sk n T b))) (sk n T b) (en n T (sk n T b)) nu') := by
  have hle := sk_le n T b
  have S : ∀ q : Nat, q = sk n T b → ∃ nu', Sp 6 mX0_next [.ref 0] (hT n T tok s b nu) none (hT n T (nI (tk n T q)) q (en n T q) nu') := by
    intro q hq
    rcases Nat.lt_or_ge q n with g | g
    · by_cases z : T q = 59
      · refine ⟨nu, Sp.of [some (.ref 0), none] mrX0_next.1 rfl (Nat.le_of_ble_eq_true rfl) rfl (fun X => ?_)⟩
        have e1 : tk n T q = 13 := by rw [tk, if_neg (by omega), if_pos z]
        have e2 : en n T q = q + 1 := by rw [en, if_neg (by omega), if_pos z]
        rw [e1, e2]
        refine r_aload_n dX0_next_0 rfl ?_
        refine r_aload_n dX0_next_1 rfl ?_
        refine r_v0r (S_blanks hn hB hb) (Nat.le_of_ble_eq_true rfl) mrX0_behindBlanks lkX0_92 rfl rfl rfl dX0_next_2 (Nat.le_of_ble_eq_true rfl) ?_
        rw [← hq]
        refine r_putfield (fs' := [_, _, _, _, _]) (h' := [_, _, _]) dX0_next_5 pfX0_29 rfl (Nat.le_of_ble_eq_true rfl) (fun _ => rfl) rfl rfl rfl rfl ?_
        refine r_aload_n dX0_next_8 rfl ?_
        refine r_aload_n dX0_next_9 rfl ?_
        refine r_getfield dX0_next_10 gfX0_29 rfl rfl ?_
        refine r_iconst (v := nI 1) dX0_next_13 (by decide) ?_
        refine r_iadd dX0_next_14 ?_
        rw [nI_add]
        refine r_putfield (fs' := [_, _, _, _, _]) (h' := [_, _, _]) dX0_next_15 pfX0_18 rfl (Nat.le_of_ble_eq_true rfl) (fun _ => rfl) rfl rfl rfl rfl ?_
        refine r_aload_n dX0_next_18 rfl ?_
        refine r_getfield dX0_next_19 gfX0_12 rfl rfl ?_
        refine r_aload_n dX0_next_22 rfl ?_
        refine r_getfield dX0_next_23 gfX0_29 rfl rfl ?_
        refine r_v1r (T_at hn (by omega)) (Nat.le_of_ble_eq_true rfl) mrX3_at lkX0_96 rfl rfl rfl dX0_next_26 (Nat.le_of_ble_eq_true rfl) ?_
        rw [atC, if_pos g, z]
        refine r_istore_n (lv' := [_, _]) dX0_next_29 (by decide) rfl ?_
        refine r_aload_n dX0_next_30 rfl ?_
        refine r_getfield dX0_next_31 gfX0_29 rfl rfl ?_
        refine r_aload_n dX0_next_34 rfl ?_
        refine r_getfield dX0_next_35 gfX0_12 rfl rfl ?_
        refine r_getfield dX0_next_38 gfX0_106 rfl rfl ?_
        refine r_icmp_lt 53 dX0_next_41 (by decide) (fun c41 => ?_) (fun c41 => ?_)
        · refine r_iload_n dX0_next_53 rfl ?_
          refine r_bipush (v := nI 59) dX0_next_54 (by decide) ?_
          refine r_icmp_ne 68 dX0_next_56 (by decide) (fun c56 => ?_) (fun c56 => ?_)
          · exact absurd (by decide) c56
          · refine r_aload_n dX0_next_59 rfl ?_
            refine r_bipush (v := nI 13) dX0_next_60 (by decide) ?_
            refine r_putfield (fs' := [_, _, _, _, _]) (h' := [_, _, _]) dX0_next_62 pfX0_32 rfl (Nat.le_of_ble_eq_true rfl) (fun _ => rfl) rfl rfl rfl rfl ?_
            refine r_goto 102 dX0_next_65 (by decide) ?_
            refine r_vret dX0_next_102 rfl ?_ ?_
            · rfl
            · exact HE.rf
        · exact absurd (nI_lt g (by omega)) c41
      · have z9 : ¬ sg (T q) = nI 59 := fun y => z ((sg_59 _ (hB q)).mp y)
        cases hd : isD (T q) with
        | true =>
          refine ⟨nI (nv n T q), Sp.of [some (.ref 0), none] mrX0_next.1 rfl (Nat.le_of_ble_eq_true rfl) rfl (fun X => ?_)⟩
          have e1 : tk n T q = 12 := by rw [tk, if_neg (by omega), if_neg z, hd]
          have e2 : en n T q = nEn n T q := by rw [en, if_neg (by omega), if_neg z, hd]
          rw [e1, e2]
          refine r_aload_n dX0_next_0 rfl ?_
          refine r_aload_n dX0_next_1 rfl ?_
          refine r_v0r (S_blanks hn hB hb) (Nat.le_of_ble_eq_true rfl) mrX0_behindBlanks lkX0_92 rfl rfl rfl dX0_next_2 (Nat.le_of_ble_eq_true rfl) ?_
          rw [← hq]
          refine r_putfield (fs' := [_, _, _, _, _]) (h' := [_, _, _]) dX0_next_5 pfX0_29 rfl (Nat.le_of_ble_eq_true rfl) (fun _ => rfl) rfl rfl rfl rfl ?_
          refine r_aload_n dX0_next_8 rfl ?_
          refine r_aload_n dX0_next_9 rfl ?_
          refine r_getfield dX0_next_10 gfX0_29 rfl rfl ?_
          refine r_iconst (v := nI 1) dX0_next_13 (by decide) ?_
          refine r_iadd dX0_next_14 ?_
          rw [nI_add]
          refine r_putfield (fs' := [_, _, _, _, _]) (h' := [_, _, _]) dX0_next_15 pfX0_18 rfl (Nat.le_of_ble_eq_true rfl) (fun _ => rfl) rfl rfl rfl rfl ?_
          refine r_aload_n dX0_next_18 rfl ?_
          refine r_getfield dX0_next_19 gfX0_12 rfl rfl ?_
          refine r_aload_n dX0_next_22 rfl ?_
          refine r_getfield dX0_next_23 gfX0_29 rfl rfl ?_
          refine r_v1r (T_at hn (by omega)) (Nat.le_of_ble_eq_true rfl) mrX3_at lkX0_96 rfl rfl rfl dX0_next_26 (Nat.le_of_ble_eq_true rfl) ?_
          rw [atC, if_pos g]
          refine r_istore_n (lv' := [_, _]) dX0_next_29 (by decide) rfl ?_
          refine r_aload_n dX0_next_30 rfl ?_
          refine r_getfield dX0_next_31 gfX0_29 rfl rfl ?_
          refine r_aload_n dX0_next_34 rfl ?_
          refine r_getfield dX0_next_35 gfX0_12 rfl rfl ?_
          refine r_getfield dX0_next_38 gfX0_106 rfl rfl ?_
          refine r_icmp_lt 53 dX0_next_41 (by decide) (fun c41 => ?_) (fun c41 => ?_)
          · refine r_iload_n dX0_next_53 rfl ?_
            refine r_bipush (v := nI 59) dX0_next_54 (by decide) ?_
            refine r_icmp_ne 68 dX0_next_56 (by decide) (fun c56 => ?_) (fun c56 => ?_)
            · refine r_iload_n dX0_next_68 rfl ?_
              refine r_s1r S_isDigit (Nat.le_of_ble_eq_true rfl) mrX0_isDigit lkX0_100 dX0_next_69 (Nat.le_of_ble_eq_true rfl) ?_
              rw [sg_D _ (hB q), hd]
              refine r_if_eqB 82 dX0_next_72 (by decide) (fun c72 => ?_) (fun c72 => ?_)
              · exact absurd c72 (by decide)
              · refine r_aload_n dX0_next_75 rfl ?_
                refine r_v0n (S_takeNumber hn hB (by omega)) (Nat.le_of_ble_eq_true rfl) mrX0_takeNumber lkX0_103 rfl rfl rfl dX0_next_76 (Nat.le_of_ble_eq_true rfl) ?_
                refine r_goto 102 dX0_next_79 (by decide) ?_
                refine r_vret dX0_next_102 rfl ?_ ?_
                · rfl
                · exact HE.rf
            · exact absurd c56 z9
          · exact absurd (nI_lt g (by omega)) c41
        | false =>
          cases hl : isL (T q) with
          | true =>
            refine ⟨nu, Sp.of [some (.ref 0), none] mrX0_next.1 rfl (Nat.le_of_ble_eq_true rfl) rfl (fun X => ?_)⟩
            have e1 : tk n T q = wdk T q (wEn n T q) 12 := by rw [tk, if_neg (by omega), if_neg z, hd, hl]
            have e2 : en n T q = wEn n T q := by rw [en, if_neg (by omega), if_neg z, hd, hl]
            rw [e1, e2]
            refine r_aload_n dX0_next_0 rfl ?_
            refine r_aload_n dX0_next_1 rfl ?_
            refine r_v0r (S_blanks hn hB hb) (Nat.le_of_ble_eq_true rfl) mrX0_behindBlanks lkX0_92 rfl rfl rfl dX0_next_2 (Nat.le_of_ble_eq_true rfl) ?_
            rw [← hq]
            refine r_putfield (fs' := [_, _, _, _, _]) (h' := [_, _, _]) dX0_next_5 pfX0_29 rfl (Nat.le_of_ble_eq_true rfl) (fun _ => rfl) rfl rfl rfl rfl ?_
            refine r_aload_n dX0_next_8 rfl ?_
            refine r_aload_n dX0_next_9 rfl ?_
            refine r_getfield dX0_next_10 gfX0_29 rfl rfl ?_
            refine r_iconst (v := nI 1) dX0_next_13 (by decide) ?_
            refine r_iadd dX0_next_14 ?_
            rw [nI_add]
            refine r_putfield (fs' := [_, _, _, _, _]) (h' := [_, _, _]) dX0_next_15 pfX0_18 rfl (Nat.le_of_ble_eq_true rfl) (fun _ => rfl) rfl rfl rfl rfl ?_
            refine r_aload_n dX0_next_18 rfl ?_
            refine r_getfield dX0_next_19 gfX0_12 rfl rfl ?_
            refine r_aload_n dX0_next_22 rfl ?_
            refine r_getfield dX0_next_23 gfX0_29 rfl rfl ?_
            refine r_v1r (T_at hn (by omega)) (Nat.le_of_ble_eq_true rfl) mrX3_at lkX0_96 rfl rfl rfl dX0_next_26 (Nat.le_of_ble_eq_true rfl) ?_
            rw [atC, if_pos g]
            refine r_istore_n (lv' := [_, _]) dX0_next_29 (by decide) rfl ?_
            refine r_aload_n dX0_next_30 rfl ?_
            refine r_getfield dX0_next_31 gfX0_29 rfl rfl ?_
            refine r_aload_n dX0_next_34 rfl ?_
            refine r_getfield dX0_next_35 gfX0_12 rfl rfl ?_
            refine r_getfield dX0_next_38 gfX0_106 rfl rfl ?_
            refine r_icmp_lt 53 dX0_next_41 (by decide) (fun c41 => ?_) (fun c41 => ?_)
            · refine r_iload_n dX0_next_53 rfl ?_
              refine r_bipush (v := nI 59) dX0_next_54 (by decide) ?_
              refine r_icmp_ne 68 dX0_next_56 (by decide) (fun c56 => ?_) (fun c56 => ?_)
              · refine r_iload_n dX0_next_68 rfl ?_
                refine r_s1r S_isDigit (Nat.le_of_ble_eq_true rfl) mrX0_isDigit lkX0_100 dX0_next_69 (Nat.le_of_ble_eq_true rfl) ?_
                rw [sg_D _ (hB q), hd]
                refine r_if_eqB 82 dX0_next_72 (by decide) (fun c72 => ?_) (fun c72 => ?_)
                · refine r_iload_n dX0_next_82 rfl ?_
                  refine r_s1r S_isLetter (Nat.le_of_ble_eq_true rfl) mrX0_isLetter lkX0_109 dX0_next_83 (Nat.le_of_ble_eq_true rfl) ?_
                  rw [sg_L _ (hB q), hl]
                  refine r_if_eqB 96 dX0_next_86 (by decide) (fun c86 => ?_) (fun c86 => ?_)
                  · exact absurd c86 (by decide)
                  · refine r_aload_n dX0_next_89 rfl ?_
                    refine r_v0n (S_takeWord hn hB (by omega)) (Nat.le_of_ble_eq_true rfl) mrX0_takeWord lkX0_112 rfl rfl rfl dX0_next_90 (Nat.le_of_ble_eq_true rfl) ?_
                    refine r_goto 102 dX0_next_93 (by decide) ?_
                    refine r_vret dX0_next_102 rfl ?_ ?_
                    · rfl
                    · exact HE.rf
                · exact absurd c72 (by decide)
              · exact absurd c56 z9
            · exact absurd (nI_lt g (by omega)) c41
          | false =>
            refine ⟨nu, Sp.of [some (.ref 0), none] mrX0_next.1 rfl (Nat.le_of_ble_eq_true rfl) rfl (fun X => ?_)⟩
            have e1 : tk n T q = 15 := by rw [tk, if_neg (by omega), if_neg z, hd, hl]
            have e2 : en n T q = q + 1 := by rw [en, if_neg (by omega), if_neg z, hd, hl]
            rw [e1, e2]
            refine r_aload_n dX0_next_0 rfl ?_
            refine r_aload_n dX0_next_1 rfl ?_
            refine r_v0r (S_blanks hn hB hb) (Nat.le_of_ble_eq_true rfl) mrX0_behindBlanks lkX0_92 rfl rfl rfl dX0_next_2 (Nat.le_of_ble_eq_true rfl) ?_
            rw [← hq]
            refine r_putfield (fs' := [_, _, _, _, _]) (h' := [_, _, _]) dX0_next_5 pfX0_29 rfl (Nat.le_of_ble_eq_true rfl) (fun _ => rfl) rfl rfl rfl rfl ?_
            refine r_aload_n dX0_next_8 rfl ?_
            refine r_aload_n dX0_next_9 rfl ?_
            refine r_getfield dX0_next_10 gfX0_29 rfl rfl ?_
            refine r_iconst (v := nI 1) dX0_next_13 (by decide) ?_
            refine r_iadd dX0_next_14 ?_
            rw [nI_add]
            refine r_putfield (fs' := [_, _, _, _, _]) (h' := [_, _, _]) dX0_next_15 pfX0_18 rfl (Nat.le_of_ble_eq_true rfl) (fun _ => rfl) rfl rfl rfl rfl ?_
            refine r_aload_n dX0_next_18 rfl ?_
            refine r_getfield dX0_next_19 gfX0_12 rfl rfl ?_
            refine r_aload_n dX0_next_22 rfl ?_
            refine r_getfield dX0_next_23 gfX0_29 rfl rfl ?_
            refine r_v1r (T_at hn (by omega)) (Nat.le_of_ble_eq_true rfl) mrX3_at lkX0_96 rfl rfl rfl dX0_next_26 (Nat.le_of_ble_eq_true rfl) ?_
            rw [atC, if_pos g]
            refine r_istore_n (lv' := [_, _]) dX0_next_29 (by decide) rfl ?_
            refine r_aload_n dX0_next_30 rfl ?_
            refine r_getfield dX0_next_31 gfX0_29 rfl rfl ?_
            refine r_aload_n dX0_next_34 rfl ?_
            refine r_getfield dX0_next_35 gfX0_12 rfl rfl ?_
            refine r_getfield dX0_next_38 gfX0_106 rfl rfl ?_
            refine r_icmp_lt 53 dX0_next_41 (by decide) (fun c41 => ?_) (fun c41 => ?_)
            · refine r_iload_n dX0_next_53 rfl ?_
              refine r_bipush (v := nI 59) dX0_next_54 (by decide) ?_
              refine r_icmp_ne 68 dX0_next_56 (by decide) (fun c56 => ?_) (fun c56 => ?_)
              · refine r_iload_n dX0_next_68 rfl ?_
                refine r_s1r S_isDigit (Nat.le_of_ble_eq_true rfl) mrX0_isDigit lkX0_100 dX0_next_69 (Nat.le_of_ble_eq_true rfl) ?_
                rw [sg_D _ (hB q), hd]
                refine r_if_eqB 82 dX0_next_72 (by decide) (fun c72 => ?_) (fun c72 => ?_)
                · refine r_iload_n dX0_next_82 rfl ?_
                  refine r_s1r S_isLetter (Nat.le_of_ble_eq_true rfl) mrX0_isLetter lkX0_109 dX0_next_83 (Nat.le_of_ble_eq_true rfl) ?_
                  rw [sg_L _ (hB q), hl]
                  refine r_if_eqB 96 dX0_next_86 (by decide) (fun c86 => ?_) (fun c86 => ?_)
                  · refine r_aload_n dX0_next_96 rfl ?_
                    refine r_bipush (v := nI 15) dX0_next_97 (by decide) ?_
                    refine r_putfield (fs' := [_, _, _, _, _]) (h' := [_, _, _]) dX0_next_99 pfX0_32 rfl (Nat.le_of_ble_eq_true rfl) (fun _ => rfl) rfl rfl rfl rfl ?_
                    refine r_vret dX0_next_102 rfl ?_ ?_
                    · rfl
                    · exact HE.rf
                  · exact absurd c86 (by decide)
                · exact absurd c72 (by decide)
              · exact absurd c56 z9
            · exact absurd (nI_lt g (by omega)) c41
    · refine ⟨nu, Sp.of [some (.ref 0), none] mrX0_next.1 rfl (Nat.le_of_ble_eq_true rfl) rfl (fun X => ?_)⟩
      have e1 : tk n T q = 14 := by rw [tk, if_pos g]
      have e2 : en n T q = q + 1 := by rw [en, if_pos g]
      rw [e1, e2]
      refine r_aload_n dX0_next_0 rfl ?_
      refine r_aload_n dX0_next_1 rfl ?_
      refine r_v0r (S_blanks hn hB hb) (Nat.le_of_ble_eq_true rfl) mrX0_behindBlanks lkX0_92 rfl rfl rfl dX0_next_2 (Nat.le_of_ble_eq_true rfl) ?_
      rw [← hq]
      refine r_putfield (fs' := [_, _, _, _, _]) (h' := [_, _, _]) dX0_next_5 pfX0_29 rfl (Nat.le_of_ble_eq_true rfl) (fun _ => rfl) rfl rfl rfl rfl ?_
      refine r_aload_n dX0_next_8 rfl ?_
      refine r_aload_n dX0_next_9 rfl ?_
      refine r_getfield dX0_next_10 gfX0_29 rfl rfl ?_
      refine r_iconst (v := nI 1) dX0_next_13 (by decide) ?_
      refine r_iadd dX0_next_14 ?_
      rw [nI_add]
      refine r_putfield (fs' := [_, _, _, _, _]) (h' := [_, _, _]) dX0_next_15 pfX0_18 rfl (Nat.le_of_ble_eq_true rfl) (fun _ => rfl) rfl rfl rfl rfl ?_
      refine r_aload_n dX0_next_18 rfl ?_
      refine r_getfield dX0_next_19 gfX0_12 rfl rfl ?_
      refine r_aload_n dX0_next_22 rfl ?_
      refine r_getfield dX0_next_23 gfX0_29 rfl rfl ?_
      refine r_v1r (T_at hn (by omega)) (Nat.le_of_ble_eq_true rfl) mrX3_at lkX0_96 rfl rfl rfl dX0_next_26 (Nat.le_of_ble_eq_true rfl) ?_
      refine r_istore_n (lv' := [_, _]) dX0_next_29 (by decide) rfl ?_
      refine r_aload_n dX0_next_30 rfl ?_
      refine r_getfield dX0_next_31 gfX0_29 rfl rfl ?_
      refine r_aload_n dX0_next_34 rfl ?_
      refine r_getfield dX0_next_35 gfX0_12 rfl rfl ?_
      refine r_getfield dX0_next_38 gfX0_106 rfl rfl ?_
      refine r_icmp_lt 53 dX0_next_41 (by decide) (fun c41 => ?_) (fun c41 => ?_)
      · exact absurd c41 (nI_nlt g (by omega))
      · refine r_aload_n dX0_next_44 rfl ?_
        refine r_bipush (v := nI 14) dX0_next_45 (by decide) ?_
        refine r_putfield (fs' := [_, _, _, _, _]) (h' := [_, _, _]) dX0_next_47 pfX0_32 rfl (Nat.le_of_ble_eq_true rfl) (fun _ => rfl) rfl rfl rfl rfl ?_
        refine r_goto 102 dX0_next_50 (by decide) ?_
        refine r_vret dX0_next_102 rfl ?_ ?_
        · rfl
        · exact HE.rf
  exact S _ rfl
theorem S_nextIsNumber_t {n : Nat} {T : Nat → Nat} {tok : Int32} {s b : Nat} {nu : Int32} {mo : Int32} (hn : n ≤ 120) (hB : ∀ i, T i < 256) (hb : b < 1000) (hd : isNm n T (sk n T b) = true) : Sp 2 mX0_nextIsNumber [.ref 0, .int mo] (hT n T tok s b nu) (some (.int (bI (decide (nI (nv n T (sk n T b)) ≤ mo))))) (hT n T (nI 12) (sk n T b) (nEn n T (sk n T b)) (nI (nv n T (sk n T b)))) := by
  have hle := sk_le n T b
  refine Sp.of [some (.ref 0), some (.int mo)] mrX0_nextIsNumber.1 rfl (Nat.le_of_ble_eq_true rfl) rfl (fun X => ?_)
  refine r_aload_n dX0_nextIsNumber_0 rfl ?_
  refine r_aload_n dX0_nextIsNumber_1 rfl ?_
  refine r_v0r (S_blanks hn hB hb) (Nat.le_of_ble_eq_true rfl) mrX0_behindBlanks lkX0_92 rfl rfl rfl dX0_nextIsNumber_2 (Nat.le_of_ble_eq_true rfl) ?_
  refine r_putfield (fs' := [_, _, _, _, _]) (h' := [_, _, _]) dX0_nextIsNumber_5 pfX0_29 rfl (Nat.le_of_ble_eq_true rfl) (fun _ => rfl) rfl rfl rfl rfl ?_
  refine r_aload_n dX0_nextIsNumber_8 rfl ?_
  refine r_getfield dX0_nextIsNumber_9 gfX0_12 rfl rfl ?_
  refine r_aload_n dX0_nextIsNumber_12 rfl ?_
  refine r_getfield dX0_nextIsNumber_13 gfX0_29 rfl rfl ?_
  refine r_v1r (T_at hn (by omega)) (Nat.le_of_ble_eq_true rfl) mrX3_at lkX0_96 rfl rfl rfl dX0_nextIsNumber_16 (Nat.le_of_ble_eq_true rfl) ?_
  refine r_s1r S_isDigit (Nat.le_of_ble_eq_true rfl) mrX0_isDigit lkX0_100 dX0_nextIsNumber_19 (Nat.le_of_ble_eq_true rfl) ?_
  rw [atC_D hB, hd]
  refine r_if_neB 27 dX0_nextIsNumber_22 (by decide) (fun c22 => ?_) (fun c22 => ?_)
  · refine r_aload_n dX0_nextIsNumber_27 rfl ?_
    refine r_v0n (S_takeNumber hn hB (by omega)) (Nat.le_of_ble_eq_true rfl) mrX0_takeNumber lkX0_103 rfl rfl rfl dX0_nextIsNumber_28 (Nat.le_of_ble_eq_true rfl) ?_
    refine r_aload_n dX0_nextIsNumber_31 rfl ?_
    refine r_getfield dX0_nextIsNumber_32 gfX0_75 rfl rfl ?_
    refine r_iload_n dX0_nextIsNumber_35 rfl ?_
    refine r_icmp_gt 43 dX0_nextIsNumber_36 (by decide) (fun c36 => ?_) (fun c36 => ?_)
    · refine r_iconst (v := nI 0) dX0_nextIsNumber_43 (by decide) ?_
      refine r_iret dX0_nextIsNumber_44 rfl (by first | exact bI_nar _ | rfl) ?_ ?_
      · first | exact ret_f (decide_eq_false (Int32.not_le.mpr c36)) | exact ret_t (decide_eq_true (Int32.not_lt.mp c36))
      · exact HE.rf
    · refine r_iconst (v := nI 1) dX0_nextIsNumber_39 (by decide) ?_
      refine r_goto 44 dX0_nextIsNumber_40 (by decide) ?_
      refine r_iret dX0_nextIsNumber_44 rfl (by first | exact bI_nar _ | rfl) ?_ ?_
      · first | exact ret_f (decide_eq_false (Int32.not_le.mpr c36)) | exact ret_t (decide_eq_true (Int32.not_lt.mp c36))
      · exact HE.rf
  · exact absurd c22 (by decide)
theorem S_nextIsNumber_f {n : Nat} {T : Nat → Nat} {tok : Int32} {s b : Nat} {nu : Int32} {mo : Int32} (hn : n ≤ 120) (hB : ∀ i, T i < 256) (hb : b < 1000) (hd : isNm n T (sk n T b) = false) : Sp 2 mX0_nextIsNumber [.ref 0, .int mo] (hT n T tok s b nu) (some (.int (bI false))) (hT n T tok (sk n T b) b nu) := by
  have hle := sk_le n T b
  refine Sp.of [some (.ref 0), some (.int mo)] mrX0_nextIsNumber.1 rfl (Nat.le_of_ble_eq_true rfl) rfl (fun X => ?_)
  refine r_aload_n dX0_nextIsNumber_0 rfl ?_
  refine r_aload_n dX0_nextIsNumber_1 rfl ?_
  refine r_v0r (S_blanks hn hB hb) (Nat.le_of_ble_eq_true rfl) mrX0_behindBlanks lkX0_92 rfl rfl rfl dX0_nextIsNumber_2 (Nat.le_of_ble_eq_true rfl) ?_
  refine r_putfield (fs' := [_, _, _, _, _]) (h' := [_, _, _]) dX0_nextIsNumber_5 pfX0_29 rfl (Nat.le_of_ble_eq_true rfl) (fun _ => rfl) rfl rfl rfl rfl ?_
  refine r_aload_n dX0_nextIsNumber_8 rfl ?_
  refine r_getfield dX0_nextIsNumber_9 gfX0_12 rfl rfl ?_
  refine r_aload_n dX0_nextIsNumber_12 rfl ?_
  refine r_getfield dX0_nextIsNumber_13 gfX0_29 rfl rfl ?_
  refine r_v1r (T_at hn (by omega)) (Nat.le_of_ble_eq_true rfl) mrX3_at lkX0_96 rfl rfl rfl dX0_nextIsNumber_16 (Nat.le_of_ble_eq_true rfl) ?_
  refine r_s1r S_isDigit (Nat.le_of_ble_eq_true rfl) mrX0_isDigit lkX0_100 dX0_nextIsNumber_19 (Nat.le_of_ble_eq_true rfl) ?_
  rw [atC_D hB, hd]
  refine r_if_neB 27 dX0_nextIsNumber_22 (by decide) (fun c22 => ?_) (fun c22 => ?_)
  · exact absurd c22 (by decide)
  · refine r_iconst (v := nI 0) dX0_nextIsNumber_25 (by decide) ?_
    refine r_iret dX0_nextIsNumber_26 rfl (by first | exact bI_nar _ | rfl) ?_ ?_
    · rfl
    · exact HE.rf

