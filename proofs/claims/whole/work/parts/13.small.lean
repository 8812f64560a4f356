/-! the class's small static methods, and Math's -/
theorem ret_t {b : Bool} (h : b = true) : some (Value.int (nI 1)) = some (.int (bI b)) := by rw [h]; rfl
theorem ret_f {b : Bool} (h : b = false) : some (Value.int (nI 0)) = some (.int (bI b)) := by rw [h]; rfl
theorem n0e : nI 0 = 0 := rfl
/-- v is from lo to hi -/
def inR (v lo hi : Int32) : Bool := decide (lo ≤ v) && decide (v ≤ hi)
theorem inR_t {v lo hi : Int32} (h1 : ¬ v < lo) (h2 : ¬ hi < v) : inR v lo hi = true := by simp [inR, Int32.not_lt.mp h1, Int32.not_lt.mp h2]
theorem inR_f1 {v lo hi : Int32} (h1 : v < lo) : inR v lo hi = false := by simp [inR, Int32.not_le.mpr h1]
theorem inR_f2 {v lo hi : Int32} (h1 : hi < v) : inR v lo hi = false := by simp [inR, Int32.not_le.mpr h1]
theorem S_X4_within {v lo hi : Int32} {h : AH} : Sp 0 mX4_within [.int v, .int lo, .int hi] h (some (.int (bI (inR v lo hi)))) h := by
  refine Sp.of [some (.int v), some (.int lo), some (.int hi)] mrX4_within.1 rfl (Nat.le_of_ble_eq_true rfl) rfl (fun X => ?_)
  refine r_iload_n dX4_within_0 rfl ?_
  refine r_iload_n dX4_within_1 rfl ?_
  refine r_icmp_lt 14 dX4_within_2 (by decide) (fun c2 => ?_) (fun c2 => ?_)
  · refine r_iconst (v := nI 0) dX4_within_14 (by decide) ?_
    refine r_iret dX4_within_15 rfl (by first | exact bI_nar _ | rfl) ?_ ?_
    · first | exact ret_t (inR_t c2 c7) | exact ret_f (inR_f1 c2) | exact ret_f (inR_f2 c7)
    · exact HE.rf
  · refine r_iload_n dX4_within_5 rfl ?_
    refine r_iload_n dX4_within_6 rfl ?_
    refine r_icmp_gt 14 dX4_within_7 (by decide) (fun c7 => ?_) (fun c7 => ?_)
    · refine r_iconst (v := nI 0) dX4_within_14 (by decide) ?_
      refine r_iret dX4_within_15 rfl (by first | exact bI_nar _ | rfl) ?_ ?_
      · first | exact ret_t (inR_t c2 c7) | exact ret_f (inR_f1 c2) | exact ret_f (inR_f2 c7)
      · exact HE.rf
    · refine r_iconst (v := nI 1) dX4_within_10 (by decide) ?_
      refine r_goto 15 dX4_within_11 (by decide) ?_
      refine r_iret dX4_within_15 rfl (by first | exact bI_nar _ | rfl) ?_ ?_
      · first | exact ret_t (inR_t c2 c7) | exact ret_f (inR_f1 c2) | exact ret_f (inR_f2 c7)
      · exact HE.rf
def isIn (set i : Int32) : Bool := decide ((set >>> (i &&& 31)) &&& nI 1 = nI 1)
theorem S_X4_isIn {set i : Int32} {h : AH} : Sp 0 mX4_isIn [.int set, .int i] h (some (.int (bI (isIn set i)))) h := by
  refine Sp.of [some (.int set), some (.int i)] mrX4_isIn.1 rfl (Nat.le_of_ble_eq_true rfl) rfl (fun X => ?_)
  refine r_iload_n dX4_isIn_0 rfl ?_
  refine r_iload_n dX4_isIn_1 rfl ?_
  refine r_ishr dX4_isIn_2 ?_
  refine r_iconst (v := nI 1) dX4_isIn_3 (by decide) ?_
  refine r_iand dX4_isIn_4 ?_
  refine r_iconst (v := nI 1) dX4_isIn_5 (by decide) ?_
  refine r_icmp_ne 13 dX4_isIn_6 (by decide) (fun c6 => ?_) (fun c6 => ?_)
  · refine r_iconst (v := nI 0) dX4_isIn_13 (by decide) ?_
    refine r_iret dX4_isIn_14 rfl (by first | exact bI_nar _ | rfl) ?_ ?_
    · first | exact ret_t (decide_eq_true c6) | exact ret_f (decide_eq_false c6)
    · exact HE.rf
  · refine r_iconst (v := nI 1) dX4_isIn_9 (by decide) ?_
    refine r_goto 14 dX4_isIn_10 (by decide) ?_
    refine r_iret dX4_isIn_14 rfl (by first | exact bI_nar _ | rfl) ?_ ?_
    · first | exact ret_t (decide_eq_true c6) | exact ret_f (decide_eq_false c6)
    · exact HE.rf
theorem S_X4_isKind {v : Int32} {h : AH} : Sp 1 mX4_isKind [.int v] h (some (.int (bI (inR v (nI 0) (nI 5))))) h := by
  refine Sp.of [some (.int v)] mrX4_isKind.1 rfl (Nat.le_of_ble_eq_true rfl) rfl (fun X => ?_)
  refine r_iload_n dX4_isKind_0 rfl ?_
  refine r_iconst (v := nI 0) dX4_isKind_1 (by decide) ?_
  refine r_iconst (v := nI 5) dX4_isKind_2 (by decide) ?_
  refine r_s3r S_X4_within (Nat.le_of_ble_eq_true rfl) mrX4_within lkX4_41 dX4_isKind_3 (Nat.le_of_ble_eq_true rfl) ?_
  refine r_iret dX4_isKind_6 rfl (by first | exact bI_nar _ | rfl) ?_ ?_
  · rfl
  · exact HE.rf
theorem S_X4_isSheet {v : Int32} {h : AH} : Sp 1 mX4_isSheet [.int v] h (some (.int (bI (inR v (nI 0) (nI 3))))) h := by
  refine Sp.of [some (.int v)] mrX4_isSheet.1 rfl (Nat.le_of_ble_eq_true rfl) rfl (fun X => ?_)
  refine r_iload_n dX4_isSheet_0 rfl ?_
  refine r_iconst (v := nI 0) dX4_isSheet_1 (by decide) ?_
  refine r_iconst (v := nI 3) dX4_isSheet_2 (by decide) ?_
  refine r_s3r S_X4_within (Nat.le_of_ble_eq_true rfl) mrX4_within lkX4_41 dX4_isSheet_3 (Nat.le_of_ble_eq_true rfl) ?_
  refine r_iret dX4_isSheet_6 rfl (by first | exact bI_nar _ | rfl) ?_ ?_
  · rfl
  · exact HE.rf
def isW (v : Int32) : Bool := decide (v = nI 0 ∨ v = nI 8 ∨ v = nI 16 ∨ v = nI 64)
theorem S_X4_isWidth {v : Int32} {h : AH} : Sp 0 mX4_isWidth [.int v] h (some (.int (bI (isW v)))) h := by
  refine Sp.of [some (.int v)] mrX4_isWidth.1 rfl (Nat.le_of_ble_eq_true rfl) rfl (fun X => ?_)
  refine r_iload_n dX4_isWidth_0 rfl ?_
  refine r_if_eq 22 dX4_isWidth_1 (by decide) (fun c1 => ?_) (fun c1 => ?_)
  · refine r_iconst (v := nI 1) dX4_isWidth_22 (by decide) ?_
    refine r_goto 27 dX4_isWidth_23 (by decide) ?_
    refine r_iret dX4_isWidth_27 rfl (by first | exact bI_nar _ | rfl) ?_ ?_
    · first | exact ret_t (decide_eq_true (Or.inl c1)) | exact ret_t (decide_eq_true (Or.inr (Or.inl c7))) | exact ret_t (decide_eq_true (Or.inr (Or.inr (Or.inl c13)))) | exact ret_t (decide_eq_true (Or.inr (Or.inr (Or.inr c19)))) | exact ret_f (decide_eq_false (fun z => z.elim c1 (fun z => z.elim c7 (fun z => z.elim c13 c19))))
    · exact HE.rf
  · refine r_iload_n dX4_isWidth_4 rfl ?_
    refine r_bipush (v := nI 8) dX4_isWidth_5 (by decide) ?_
    refine r_icmp_eq 22 dX4_isWidth_7 (by decide) (fun c7 => ?_) (fun c7 => ?_)
    · refine r_iconst (v := nI 1) dX4_isWidth_22 (by decide) ?_
      refine r_goto 27 dX4_isWidth_23 (by decide) ?_
      refine r_iret dX4_isWidth_27 rfl (by first | exact bI_nar _ | rfl) ?_ ?_
      · first | exact ret_t (decide_eq_true (Or.inl c1)) | exact ret_t (decide_eq_true (Or.inr (Or.inl c7))) | exact ret_t (decide_eq_true (Or.inr (Or.inr (Or.inl c13)))) | exact ret_t (decide_eq_true (Or.inr (Or.inr (Or.inr c19)))) | exact ret_f (decide_eq_false (fun z => z.elim c1 (fun z => z.elim c7 (fun z => z.elim c13 c19))))
      · exact HE.rf
    · refine r_iload_n dX4_isWidth_10 rfl ?_
      refine r_bipush (v := nI 16) dX4_isWidth_11 (by decide) ?_
      refine r_icmp_eq 22 dX4_isWidth_13 (by decide) (fun c13 => ?_) (fun c13 => ?_)
      · refine r_iconst (v := nI 1) dX4_isWidth_22 (by decide) ?_
        refine r_goto 27 dX4_isWidth_23 (by decide) ?_
        refine r_iret dX4_isWidth_27 rfl (by first | exact bI_nar _ | rfl) ?_ ?_
        · first | exact ret_t (decide_eq_true (Or.inl c1)) | exact ret_t (decide_eq_true (Or.inr (Or.inl c7))) | exact ret_t (decide_eq_true (Or.inr (Or.inr (Or.inl c13)))) | exact ret_t (decide_eq_true (Or.inr (Or.inr (Or.inr c19)))) | exact ret_f (decide_eq_false (fun z => z.elim c1 (fun z => z.elim c7 (fun z => z.elim c13 c19))))
        · exact HE.rf
      · refine r_iload_n dX4_isWidth_16 rfl ?_
        refine r_bipush (v := nI 64) dX4_isWidth_17 (by decide) ?_
        refine r_icmp_ne 26 dX4_isWidth_19 (by decide) (fun c19 => ?_) (fun c19 => ?_)
        · refine r_iconst (v := nI 0) dX4_isWidth_26 (by decide) ?_
          refine r_iret dX4_isWidth_27 rfl (by first | exact bI_nar _ | rfl) ?_ ?_
          · first | exact ret_t (decide_eq_true (Or.inl c1)) | exact ret_t (decide_eq_true (Or.inr (Or.inl c7))) | exact ret_t (decide_eq_true (Or.inr (Or.inr (Or.inl c13)))) | exact ret_t (decide_eq_true (Or.inr (Or.inr (Or.inr c19)))) | exact ret_f (decide_eq_false (fun z => z.elim c1 (fun z => z.elim c7 (fun z => z.elim c13 c19))))
          · exact HE.rf
        · refine r_iconst (v := nI 1) dX4_isWidth_22 (by decide) ?_
          refine r_goto 27 dX4_isWidth_23 (by decide) ?_
          refine r_iret dX4_isWidth_27 rfl (by first | exact bI_nar _ | rfl) ?_ ?_
          · first | exact ret_t (decide_eq_true (Or.inl c1)) | exact ret_t (decide_eq_true (Or.inr (Or.inl c7))) | exact ret_t (decide_eq_true (Or.inr (Or.inr (Or.inl c13)))) | exact ret_t (decide_eq_true (Or.inr (Or.inr (Or.inr c19)))) | exact ret_f (decide_eq_false (fun z => z.elim c1 (fun z => z.elim c7 (fun z => z.elim c13 c19))))
          · exact HE.rf
/-- how much a kind shades -/
def shd (k : Int32) : Int32 := if k = nI 1 then nI 1 else if k = nI 4 then nI 2 else nI 0
theorem S_X4_shadeOf {v : Int32} {h : AH} : Sp 0 mX4_shadeOf [.int v] h (some (.int (shd v))) h := by
  refine Sp.of [some (.int v)] mrX4_shadeOf.1 rfl (Nat.le_of_ble_eq_true rfl) rfl (fun X => ?_)
  refine r_iload_n dX4_shadeOf_0 rfl ?_
  by_cases c1_1 : v = nI 1
  · refine r_lsw dX4_shadeOf_1 (by decide) ⟨27, 28, (by rw [c1_1]; decide), by decide, ?_⟩
    refine r_iconst (v := nI 1) dX4_shadeOf_28 (by decide) ?_
    refine r_iret dX4_shadeOf_29 rfl rfl ?_ ?_
    · first | (rw [shd, if_pos c1_1]; done) | (rw [shd, if_neg c1_1, if_pos c1_4]; done) | (rw [shd, if_neg c1_1, if_neg c1_4]; done)
    · exact HE.rf
  · by_cases c1_4 : v = nI 4
    · refine r_lsw dX4_shadeOf_1 (by decide) ⟨29, 30, (by rw [c1_4]; decide), by decide, ?_⟩
      refine r_iconst (v := nI 2) dX4_shadeOf_30 (by decide) ?_
      refine r_iret dX4_shadeOf_31 rfl rfl ?_ ?_
      · first | (rw [shd, if_pos c1_1]; done) | (rw [shd, if_neg c1_1, if_pos c1_4]; done) | (rw [shd, if_neg c1_1, if_neg c1_4]; done)
      · exact HE.rf
    · refine r_lsw dX4_shadeOf_1 (by decide) ⟨31, 32, lsw_d (by intro q hq; simp only [List.mem_cons, List.not_mem_nil, or_false] at hq; rcases hq with rfl | rfl <;> first | exact toI_nq c1_1 (by decide) | exact toI_nq c1_4 (by decide)), by decide, ?_⟩
      refine r_iconst (v := nI 0) dX4_shadeOf_32 (by decide) ?_
      refine r_iret dX4_shadeOf_33 rfl rfl ?_ ?_
      · first | (rw [shd, if_pos c1_1]; done) | (rw [shd, if_neg c1_1, if_pos c1_4]; done) | (rw [shd, if_neg c1_1, if_neg c1_4]; done)
      · exact HE.rf
def fmod (x y : Int32) : Int32 := if 0 ≤ x ^^^ y then x - x / y * y else if x - x / y * y = 0 then x - x / y * y else x - x / y * y + y
theorem S_J9_floorMod_7cf53 {x y : Int32} {h : AH} (hy : ¬ y = 0) : Sp 0 mJ9_floorMod_7cf53 [.int x, .int y] h (some (.int (fmod x y))) h := by
  refine Sp.of [some (.int x), some (.int y), none] mrJ9_floorMod_7cf53.1 rfl (Nat.le_of_ble_eq_true rfl) rfl (fun X => ?_)
  refine r_iload_n dJ9_floorMod_7cf53_0 rfl ?_
  refine r_iload_n dJ9_floorMod_7cf53_1 rfl ?_
  refine r_irem dJ9_floorMod_7cf53_2 hy ?_
  refine r_istore_n (lv' := [_, _, _]) dJ9_floorMod_7cf53_3 (by decide) rfl ?_
  refine r_iload_n dJ9_floorMod_7cf53_4 rfl ?_
  refine r_iload_n dJ9_floorMod_7cf53_5 rfl ?_
  refine r_ixor dJ9_floorMod_7cf53_6 ?_
  refine r_if_ge 18 dJ9_floorMod_7cf53_7 (by decide) (fun c7 => ?_) (fun c7 => ?_)
  · refine r_iload_n dJ9_floorMod_7cf53_18 rfl ?_
    refine r_iret dJ9_floorMod_7cf53_19 rfl rfl ?_ ?_
    · first | (simp only [fmod, c7, if_true]; done) | simp only [fmod, c7, c11, if_true, if_false]
    · exact HE.rf
  · refine r_iload_n dJ9_floorMod_7cf53_10 rfl ?_
    refine r_if_eq 18 dJ9_floorMod_7cf53_11 (by decide) (fun c11 => ?_) (fun c11 => ?_)
    · refine r_iload_n dJ9_floorMod_7cf53_18 rfl ?_
      refine r_iret dJ9_floorMod_7cf53_19 rfl rfl ?_ ?_
      · first | (simp only [fmod, c7, if_true]; done) | simp only [fmod, c7, c11, if_true, if_false]
      · exact HE.rf
    · refine r_iload_n dJ9_floorMod_7cf53_14 rfl ?_
      refine r_iload_n dJ9_floorMod_7cf53_15 rfl ?_
      refine r_iadd dJ9_floorMod_7cf53_16 ?_
      refine r_iret dJ9_floorMod_7cf53_17 rfl rfl ?_ ?_
      · simp only [fmod, c7, c11, if_true, if_false]
      · exact HE.rf
theorem S_J9_abs_0f7a4 {x : Int32} {h : AH} : Sp 0 mJ9_abs_0f7a4 [.int x] h (some (.int (if 0 ≤ x then x else -x))) h := by
  refine Sp.of [some (.int x)] mrJ9_abs_0f7a4.1 rfl (Nat.le_of_ble_eq_true rfl) rfl (fun X => ?_)
  refine r_iload_n dJ9_abs_0f7a4_0 rfl ?_
  refine r_if_ge 9 dJ9_abs_0f7a4_1 (by decide) (fun c1 => ?_) (fun c1 => ?_)
  · refine r_iload_n dJ9_abs_0f7a4_9 rfl ?_
    refine r_iret dJ9_abs_0f7a4_10 rfl rfl ?_ ?_
    · simp only [c1, if_true, if_false]
    · exact HE.rf
  · refine r_iload_n dJ9_abs_0f7a4_4 rfl ?_
    refine r_ineg dJ9_abs_0f7a4_5 ?_
    refine r_goto 10 dJ9_abs_0f7a4_6 (by decide) ?_
    refine r_iret dJ9_abs_0f7a4_10 rfl rfl ?_ ?_
    · simp only [c1, if_true, if_false]
    · exact HE.rf
theorem S_J9_max_7cf53 {x y : Int32} {h : AH} : Sp 0 mJ9_max_7cf53 [.int x, .int y] h (some (.int (if x < y then y else x))) h := by
  refine Sp.of [some (.int x), some (.int y)] mrJ9_max_7cf53.1 rfl (Nat.le_of_ble_eq_true rfl) rfl (fun X => ?_)
  refine r_iload_n dJ9_max_7cf53_0 rfl ?_
  refine r_iload_n dJ9_max_7cf53_1 rfl ?_
  refine r_icmp_lt 9 dJ9_max_7cf53_2 (by decide) (fun c2 => ?_) (fun c2 => ?_)
  · refine r_iload_n dJ9_max_7cf53_9 rfl ?_
    refine r_iret dJ9_max_7cf53_10 rfl rfl ?_ ?_
    · simp only [c2, if_true, if_false]
    · exact HE.rf
  · refine r_iload_n dJ9_max_7cf53_5 rfl ?_
    refine r_goto 10 dJ9_max_7cf53_6 (by decide) ?_
    refine r_iret dJ9_max_7cf53_10 rfl rfl ?_ ?_
    · simp only [c2, if_true, if_false]
    · exact HE.rf
theorem S_J9_min_7cf53 {x y : Int32} {h : AH} : Sp 0 mJ9_min_7cf53 [.int x, .int y] h (some (.int (if y < x then y else x))) h := by
  refine Sp.of [some (.int x), some (.int y)] mrJ9_min_7cf53.1 rfl (Nat.le_of_ble_eq_true rfl) rfl (fun X => ?_)
  refine r_iload_n dJ9_min_7cf53_0 rfl ?_
  refine r_iload_n dJ9_min_7cf53_1 rfl ?_
  refine r_icmp_gt 9 dJ9_min_7cf53_2 (by decide) (fun c2 => ?_) (fun c2 => ?_)
  · refine r_iload_n dJ9_min_7cf53_9 rfl ?_
    refine r_iret dJ9_min_7cf53_10 rfl rfl ?_ ?_
    · simp only [c2, if_true, if_false]
    · exact HE.rf
  · refine r_iload_n dJ9_min_7cf53_5 rfl ?_
    refine r_goto 10 dJ9_min_7cf53_6 (by decide) ?_
    refine r_iret dJ9_min_7cf53_10 rfl rfl ?_ ?_
    · simp only [c2, if_true, if_false]
    · exact HE.rf
def ush (x y : Int32) : Int32 := (x.toUInt32 >>> (y.toUInt32 &&& Int32.toUInt32 31)).toInt32
def bc1 (x : Int32) : Int32 := x - (ush x (nI 1) &&& 1431655765)
def bc2 (x : Int32) : Int32 := (bc1 x &&& 858993459) + (ush (bc1 x) (nI 2) &&& 858993459)
def bc3 (x : Int32) : Int32 := (bc2 x + ush (bc2 x) (nI 4)) &&& 252645135
def bc4 (x : Int32) : Int32 := bc3 x + ush (bc3 x) (nI 8)
def bitCnt (x : Int32) : Int32 := (bc4 x + ush (bc4 x) (nI 16)) &&& nI 63
theorem S_J6_bitCount_0f7a4 {x : Int32} {h : AH} : Sp 0 mJ6_bitCount_0f7a4 [.int x] h (some (.int (bitCnt x))) h := by
  refine Sp.of [some (.int x)] mrJ6_bitCount_0f7a4.1 rfl (Nat.le_of_ble_eq_true rfl) rfl (fun X => ?_)
  refine r_iload_n dJ6_bitCount_0f7a4_0 rfl ?_
  refine r_iload_n dJ6_bitCount_0f7a4_1 rfl ?_
  refine r_iconst (v := nI 1) dJ6_bitCount_0f7a4_2 (by decide) ?_
  refine r_iushr dJ6_bitCount_0f7a4_3 rfl ?_
  refine r_ldcw kJ6_265 dJ6_bitCount_0f7a4_4 ?_
  refine r_iand dJ6_bitCount_0f7a4_7 ?_
  refine r_isub dJ6_bitCount_0f7a4_8 ?_
  refine r_istore_n (lv' := [_]) dJ6_bitCount_0f7a4_9 (by decide) rfl ?_
  refine r_iload_n dJ6_bitCount_0f7a4_10 rfl ?_
  refine r_ldcw kJ6_266 dJ6_bitCount_0f7a4_11 ?_
  refine r_iand dJ6_bitCount_0f7a4_14 ?_
  refine r_iload_n dJ6_bitCount_0f7a4_15 rfl ?_
  refine r_iconst (v := nI 2) dJ6_bitCount_0f7a4_16 (by decide) ?_
  refine r_iushr dJ6_bitCount_0f7a4_17 rfl ?_
  refine r_ldcw kJ6_266 dJ6_bitCount_0f7a4_18 ?_
  refine r_iand dJ6_bitCount_0f7a4_21 ?_
  refine r_iadd dJ6_bitCount_0f7a4_22 ?_
  refine r_istore_n (lv' := [_]) dJ6_bitCount_0f7a4_23 (by decide) rfl ?_
  refine r_iload_n dJ6_bitCount_0f7a4_24 rfl ?_
  refine r_iload_n dJ6_bitCount_0f7a4_25 rfl ?_
  refine r_iconst (v := nI 4) dJ6_bitCount_0f7a4_26 (by decide) ?_
  refine r_iushr dJ6_bitCount_0f7a4_27 rfl ?_
  refine r_iadd dJ6_bitCount_0f7a4_28 ?_
  refine r_ldcw kJ6_267 dJ6_bitCount_0f7a4_29 ?_
  refine r_iand dJ6_bitCount_0f7a4_32 ?_
  refine r_istore_n (lv' := [_]) dJ6_bitCount_0f7a4_33 (by decide) rfl ?_
  refine r_iload_n dJ6_bitCount_0f7a4_34 rfl ?_
  refine r_iload_n dJ6_bitCount_0f7a4_35 rfl ?_
  refine r_bipush (v := nI 8) dJ6_bitCount_0f7a4_36 (by decide) ?_
  refine r_iushr dJ6_bitCount_0f7a4_38 rfl ?_
  refine r_iadd dJ6_bitCount_0f7a4_39 ?_
  refine r_istore_n (lv' := [_]) dJ6_bitCount_0f7a4_40 (by decide) rfl ?_
  refine r_iload_n dJ6_bitCount_0f7a4_41 rfl ?_
  refine r_iload_n dJ6_bitCount_0f7a4_42 rfl ?_
  refine r_bipush (v := nI 16) dJ6_bitCount_0f7a4_43 (by decide) ?_
  refine r_iushr dJ6_bitCount_0f7a4_45 rfl ?_
  refine r_iadd dJ6_bitCount_0f7a4_46 ?_
  refine r_istore_n (lv' := [_]) dJ6_bitCount_0f7a4_47 (by decide) rfl ?_
  refine r_iload_n dJ6_bitCount_0f7a4_48 rfl ?_
  refine r_bipush (v := nI 63) dJ6_bitCount_0f7a4_49 (by decide) ?_
  refine r_iand dJ6_bitCount_0f7a4_51 ?_
  refine r_iret dJ6_bitCount_0f7a4_52 rfl rfl ?_ ?_
  · rfl
  · exact HE.rf

