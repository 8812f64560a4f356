/-! sheets: book, read of the class -/
theorem stpN_s : ∀ (m : Nat) (R : RS), stpN (m + 1) R = stp (stpN m R)
  | 0, _ => rfl
  | m + 1, R => by rw [stpN, stpN_s m (stp R)]; rfl
/-- what a book comes to: the first k numbers of a sheet -/
def bkF (w : Int32) (g : Nat → Int32) (f : Nat → Int64) (k : Nat) : Nat → Int64 := fun j => if j < k then cutZ w (g j).toInt64 else f j
theorem bkF_s (w : Int32) (g : Nat → Int32) (f : Nat → Int64) (k : Nat) : vp_updL (bkF w g f k) k (cutZ w (g k).toInt64) = bkF w g f (k + 1) := by
  funext j
  simp only [vp_updL, bkF]
  by_cases h1 : j = k
  · subst h1; rw [if_pos rfl, if_pos (by omega)]
  · rw [if_neg h1]
    by_cases h2 : j < k
    · rw [if_pos h2, if_pos (by omega)]
    · rw [if_neg h2, if_neg (by omega)]
/-- a book's row begins with no finding: the sheet, the place -/
def bkL (L : GS) (x y : Int32) (k : Int32 × GS) : Int32 × GS := match inR x (nI 0) (nI 3) with
  | false => bndL L 0
  | true => if (L.2.2 (tn x)).1 = 0 then bndL L 5 else match hasB (cnt L.1.1) y with
    | false => bndL L 0
    | true => k
def o_book (L : GS) (x y : Int32) : Int32 × GS := bkL L x y ((L.2.2 (tn x)).2.1, L.1, L.2.1, updZ L.2.2 (tn x) ((L.2.2 (tn x)).1, (L.2.2 (tn x)).2.1, bkF (L.2.2 (tn x)).1 (fun j => rS (stpN j L.1.1) (tn y)) (L.2.2 (tn x)).2.2 (tn (L.2.2 (tn x)).2.1)))
def jst (f : Nat → Int64) (p : Nat) : Nat → Nat → RS → Bool
  | 0, _, _ => true
  | k + 1, i, A => match decide (f i = (rS A p).toInt64) with
    | true => jst f p k (i + 1) (stp A)
    | false => false
def rdN (R : RS) (f : Nat → Int64) (p z : Nat) : Nat → Int32
  | 0 => nI 0
  | m + 1 => match jst f p z 0 (sB (sK R (upd (rK R) p (nI (m / 10)))) (nI (m % 10))) with
    | true => rdN R f p z m + nI 1
    | false => rdN R f p z m
def o_read (L : GS) (x y : Int32) : Int32 × GS := bkL L x y (rdN L.1.1 (L.2.2 (tn x)).2.2 (tn y) (tn (L.2.2 (tn x)).2.1) 60, L)
theorem cmp_0 {x y : Int64} : lg_cmp x y = 0 ↔ x = y := lg_cmp_eq x y
theorem Z_fobA {R K : RS} {kp : Bool} {tc : Nat → Int32} {n : Nat} {T : Nat → Nat} {Z : Nat → SHT} {A : RS} {f1 f2 f3 tok : Int32} {s b : Nat} {nu : Int32} {x y : Int32} (hx : inR x (nI 0) (nI 3) = false) : Sp 2 mX4_findingOfBook [.ref 0, .int x, .int y] (hX R K kp tc n T Z A f1 f2 f3 tok s b nu) (some (.int (-1000000001))) (hX R K kp tc n T Z A f1 f2 f3 tok s b nu) := by
  refine Sp.of [some (.ref 0), some (.int x), some (.int y)] mrX4_findingOfBook.1 rfl (Nat.le_of_ble_eq_true rfl) rfl (fun X => ?_)
  refine r_iload_n dX4_findingOfBook_0 rfl ?_
  refine r_s1r S_X4_isSheet (Nat.le_of_ble_eq_true rfl) mrX4_isSheet lkX4_181 dX4_findingOfBook_1 (Nat.le_of_ble_eq_true rfl) ?_
  refine r_if_neB 10 dX4_findingOfBook_4 (by decide) (fun c4 => ?_) (fun c4 => ?_)
  · exact absurd c4 (by rw [hx]; decide)
  · refine r_ldc kX4_45 dX4_findingOfBook_7 ?_
    refine r_iret dX4_findingOfBook_9 rfl rfl ?_ ?_
    · rfl
    · exact HE.rf
theorem Z_fobB0 {R K : RS} {kp : Bool} {tc : Nat → Int32} {n : Nat} {T : Nat → Nat} {Z : Nat → SHT} {A : RS} {f1 f2 f3 tok : Int32} {s b : Nat} {nu : Int32} {y : Int32} (hm : (Z 0).1 = 0) : Sp 2 mX4_findingOfBook [.ref 0, .int (nI 0), .int y] (hX R K kp tc n T Z A f1 f2 f3 tok s b nu) (some (.int (-1000000006))) (hX R K kp tc n T Z A f1 f2 f3 tok s b nu) := by
  refine Sp.of [some (.ref 0), some (.int (nI 0)), some (.int y)] mrX4_findingOfBook.1 rfl (Nat.le_of_ble_eq_true rfl) rfl (fun X => ?_)
  refine r_iload_n dX4_findingOfBook_0 rfl ?_
  refine r_s1r S_X4_isSheet (Nat.le_of_ble_eq_true rfl) mrX4_isSheet lkX4_181 dX4_findingOfBook_1 (Nat.le_of_ble_eq_true rfl) ?_
  refine r_if_neB 10 dX4_findingOfBook_4 (by decide) (fun c4 => ?_) (fun c4 => ?_)
  · refine r_aload_n dX4_findingOfBook_10 rfl ?_
    refine r_getfield dX4_findingOfBook_11 gfX4_31 rfl rfl ?_
    refine r_iload_n dX4_findingOfBook_14 rfl ?_
    refine r_aaldN dX4_findingOfBook_15 rfl (by first | decide | omega) (Nat.le_of_ble_eq_true rfl) rfl ?_
    refine r_v0r Z_isMissing0 (Nat.le_of_ble_eq_true rfl) mrX2_isMissing lkX4_194 rfl rfl rfl dX4_findingOfBook_16 (Nat.le_of_ble_eq_true rfl) ?_
    refine r_if_eqB 25 dX4_findingOfBook_19 (by decide) (fun c19 => ?_) (fun c19 => ?_)
    · exact absurd c19 (by rw [decide_eq_true hm]; decide)
    · refine r_ldc kX4_197 dX4_findingOfBook_22 ?_
      refine r_iret dX4_findingOfBook_24 rfl rfl ?_ ?_
      · rfl
      · exact HE.rf
  · exact absurd c4 (by decide)
theorem Z_fobC0 {R K : RS} {kp : Bool} {tc : Nat → Int32} {n : Nat} {T : Nat → Nat} {Z : Nat → SHT} {A : RS} {f1 f2 f3 tok : Int32} {s b : Nat} {nu : Int32} {y : Int32} (hm : ¬ (Z 0).1 = 0) (hy : hasB (cnt R) y = false) : Sp 2 mX4_findingOfBook [.ref 0, .int (nI 0), .int y] (hX R K kp tc n T Z A f1 f2 f3 tok s b nu) (some (.int (-1000000001))) (hX R K kp tc n T Z A f1 f2 f3 tok s b nu) := by
  refine Sp.of [some (.ref 0), some (.int (nI 0)), some (.int y)] mrX4_findingOfBook.1 rfl (Nat.le_of_ble_eq_true rfl) rfl (fun X => ?_)
  refine r_iload_n dX4_findingOfBook_0 rfl ?_
  refine r_s1r S_X4_isSheet (Nat.le_of_ble_eq_true rfl) mrX4_isSheet lkX4_181 dX4_findingOfBook_1 (Nat.le_of_ble_eq_true rfl) ?_
  refine r_if_neB 10 dX4_findingOfBook_4 (by decide) (fun c4 => ?_) (fun c4 => ?_)
  · refine r_aload_n dX4_findingOfBook_10 rfl ?_
    refine r_getfield dX4_findingOfBook_11 gfX4_31 rfl rfl ?_
    refine r_iload_n dX4_findingOfBook_14 rfl ?_
    refine r_aaldN dX4_findingOfBook_15 rfl (by first | decide | omega) (Nat.le_of_ble_eq_true rfl) rfl ?_
    refine r_v0r Z_isMissing0 (Nat.le_of_ble_eq_true rfl) mrX2_isMissing lkX4_194 rfl rfl rfl dX4_findingOfBook_16 (Nat.le_of_ble_eq_true rfl) ?_
    refine r_if_eqB 25 dX4_findingOfBook_19 (by decide) (fun c19 => ?_) (fun c19 => ?_)
    · refine r_aload_n dX4_findingOfBook_25 rfl ?_
      refine r_getfield dX4_findingOfBook_26 gfX4_12 rfl rfl ?_
      refine r_iload_n dX4_findingOfBook_29 rfl ?_
      refine r_v1r Z_has (Nat.le_of_ble_eq_true rfl) mrX1_has lkX4_54 rfl rfl rfl dX4_findingOfBook_30 (Nat.le_of_ble_eq_true rfl) ?_
      refine r_if_eqB 40 dX4_findingOfBook_33 (by decide) (fun c33 => ?_) (fun c33 => ?_)
      · refine r_ldc kX4_45 dX4_findingOfBook_40 ?_
        refine r_iret dX4_findingOfBook_42 rfl rfl ?_ ?_
        · rfl
        · exact HE.rf
      · exact absurd c33 (by rw [hy]; decide)
    · exact absurd c19 (by rw [decide_eq_false hm]; decide)
  · exact absurd c4 (by decide)
theorem Z_fobD0 {R K : RS} {kp : Bool} {tc : Nat → Int32} {n : Nat} {T : Nat → Nat} {Z : Nat → SHT} {A : RS} {f1 f2 f3 tok : Int32} {s b : Nat} {nu : Int32} {y : Int32} (hm : ¬ (Z 0).1 = 0) (hy : hasB (cnt R) y = true) : Sp 2 mX4_findingOfBook [.ref 0, .int (nI 0), .int y] (hX R K kp tc n T Z A f1 f2 f3 tok s b nu) (some (.int 0)) (hX R K kp tc n T Z A f1 f2 f3 tok s b nu) := by
  refine Sp.of [some (.ref 0), some (.int (nI 0)), some (.int y)] mrX4_findingOfBook.1 rfl (Nat.le_of_ble_eq_true rfl) rfl (fun X => ?_)
  refine r_iload_n dX4_findingOfBook_0 rfl ?_
  refine r_s1r S_X4_isSheet (Nat.le_of_ble_eq_true rfl) mrX4_isSheet lkX4_181 dX4_findingOfBook_1 (Nat.le_of_ble_eq_true rfl) ?_
  refine r_if_neB 10 dX4_findingOfBook_4 (by decide) (fun c4 => ?_) (fun c4 => ?_)
  · refine r_aload_n dX4_findingOfBook_10 rfl ?_
    refine r_getfield dX4_findingOfBook_11 gfX4_31 rfl rfl ?_
    refine r_iload_n dX4_findingOfBook_14 rfl ?_
    refine r_aaldN dX4_findingOfBook_15 rfl (by first | decide | omega) (Nat.le_of_ble_eq_true rfl) rfl ?_
    refine r_v0r Z_isMissing0 (Nat.le_of_ble_eq_true rfl) mrX2_isMissing lkX4_194 rfl rfl rfl dX4_findingOfBook_16 (Nat.le_of_ble_eq_true rfl) ?_
    refine r_if_eqB 25 dX4_findingOfBook_19 (by decide) (fun c19 => ?_) (fun c19 => ?_)
    · refine r_aload_n dX4_findingOfBook_25 rfl ?_
      refine r_getfield dX4_findingOfBook_26 gfX4_12 rfl rfl ?_
      refine r_iload_n dX4_findingOfBook_29 rfl ?_
      refine r_v1r Z_has (Nat.le_of_ble_eq_true rfl) mrX1_has lkX4_54 rfl rfl rfl dX4_findingOfBook_30 (Nat.le_of_ble_eq_true rfl) ?_
      refine r_if_eqB 40 dX4_findingOfBook_33 (by decide) (fun c33 => ?_) (fun c33 => ?_)
      · exact absurd c33 (by rw [hy]; decide)
      · refine r_iconst (v := nI 0) dX4_findingOfBook_36 (by decide) ?_
        refine r_goto 42 dX4_findingOfBook_37 (by decide) ?_
        refine r_iret dX4_findingOfBook_42 rfl rfl ?_ ?_
        · rfl
        · exact HE.rf
    · exact absurd c19 (by rw [decide_eq_false hm]; decide)
  · exact absurd c4 (by decide)
theorem Z_fobB1 {R K : RS} {kp : Bool} {tc : Nat → Int32} {n : Nat} {T : Nat → Nat} {Z : Nat → SHT} {A : RS} {f1 f2 f3 tok : Int32} {s b : Nat} {nu : Int32} {y : Int32} (hm : (Z 1).1 = 0) : Sp 2 mX4_findingOfBook [.ref 0, .int (nI 1), .int y] (hX R K kp tc n T Z A f1 f2 f3 tok s b nu) (some (.int (-1000000006))) (hX R K kp tc n T Z A f1 f2 f3 tok s b nu) := by
  refine Sp.of [some (.ref 0), some (.int (nI 1)), some (.int y)] mrX4_findingOfBook.1 rfl (Nat.le_of_ble_eq_true rfl) rfl (fun X => ?_)
  refine r_iload_n dX4_findingOfBook_0 rfl ?_
  refine r_s1r S_X4_isSheet (Nat.le_of_ble_eq_true rfl) mrX4_isSheet lkX4_181 dX4_findingOfBook_1 (Nat.le_of_ble_eq_true rfl) ?_
  refine r_if_neB 10 dX4_findingOfBook_4 (by decide) (fun c4 => ?_) (fun c4 => ?_)
  · refine r_aload_n dX4_findingOfBook_10 rfl ?_
    refine r_getfield dX4_findingOfBook_11 gfX4_31 rfl rfl ?_
    refine r_iload_n dX4_findingOfBook_14 rfl ?_
    refine r_aaldN dX4_findingOfBook_15 rfl (by first | decide | omega) (Nat.le_of_ble_eq_true rfl) rfl ?_
    refine r_v0r Z_isMissing1 (Nat.le_of_ble_eq_true rfl) mrX2_isMissing lkX4_194 rfl rfl rfl dX4_findingOfBook_16 (Nat.le_of_ble_eq_true rfl) ?_
    refine r_if_eqB 25 dX4_findingOfBook_19 (by decide) (fun c19 => ?_) (fun c19 => ?_)
    · exact absurd c19 (by rw [decide_eq_true hm]; decide)
    · refine r_ldc kX4_197 dX4_findingOfBook_22 ?_
      refine r_iret dX4_findingOfBook_24 rfl rfl ?_ ?_
      · rfl
      · exact HE.rf
  · exact absurd c4 (by decide)
theorem Z_fobC1 {R K : RS} {kp : Bool} {tc : Nat → Int32} {n : Nat} {T : Nat → Nat} {Z : Nat → SHT} {A : RS} {f1 f2 f3 tok : Int32} {s b : Nat} {nu : Int32} {y : Int32} (hm : ¬ (Z 1).1 = 0) (hy : hasB (cnt R) y = false) : Sp 2 mX4_findingOfBook [.ref 0, .int (nI 1), .int y] (hX R K kp tc n T Z A f1 f2 f3 tok s b nu) (some (.int (-1000000001))) (hX R K kp tc n T Z A f1 f2 f3 tok s b nu) := by
  refine Sp.of [some (.ref 0), some (.int (nI 1)), some (.int y)] mrX4_findingOfBook.1 rfl (Nat.le_of_ble_eq_true rfl) rfl (fun X => ?_)
  refine r_iload_n dX4_findingOfBook_0 rfl ?_
  refine r_s1r S_X4_isSheet (Nat.le_of_ble_eq_true rfl) mrX4_isSheet lkX4_181 dX4_findingOfBook_1 (Nat.le_of_ble_eq_true rfl) ?_
  refine r_if_neB 10 dX4_findingOfBook_4 (by decide) (fun c4 => ?_) (fun c4 => ?_)
  · refine r_aload_n dX4_findingOfBook_10 rfl ?_
    refine r_getfield dX4_findingOfBook_11 gfX4_31 rfl rfl ?_
    refine r_iload_n dX4_findingOfBook_14 rfl ?_
    refine r_aaldN dX4_findingOfBook_15 rfl (by first | decide | omega) (Nat.le_of_ble_eq_true rfl) rfl ?_
    refine r_v0r Z_isMissing1 (Nat.le_of_ble_eq_true rfl) mrX2_isMissing lkX4_194 rfl rfl rfl dX4_findingOfBook_16 (Nat.le_of_ble_eq_true rfl) ?_
    refine r_if_eqB 25 dX4_findingOfBook_19 (by decide) (fun c19 => ?_) (fun c19 => ?_)
    · refine r_aload_n dX4_findingOfBook_25 rfl ?_
      refine r_getfield dX4_findingOfBook_26 gfX4_12 rfl rfl ?_
      refine r_iload_n dX4_findingOfBook_29 rfl ?_
      refine r_v1r Z_has (Nat.le_of_ble_eq_true rfl) mrX1_has lkX4_54 rfl rfl rfl dX4_findingOfBook_30 (Nat.le_of_ble_eq_true rfl) ?_
      refine r_if_eqB 40 dX4_findingOfBook_33 (by decide) (fun c33 => ?_) (fun c33 => ?_)
      · refine r_ldc kX4_45 dX4_findingOfBook_40 ?_
        refine r_iret dX4_findingOfBook_42 rfl rfl ?_ ?_
        · rfl
        · exact HE.rf
      · exact absurd c33 (by rw [hy]; decide)
    · exact absurd c19 (by rw [decide_eq_false hm]; decide)
  · exact absurd c4 (by decide)
theorem Z_fobD1 {R K : RS} {kp : Bool} {tc : Nat → Int32} {n : Nat} {T : Nat → Nat} {Z : Nat → SHT} {A : RS} {f1 f2 f3 tok : Int32} {s b : Nat} {nu : Int32} {y : Int32} (hm : ¬ (Z 1).1 = 0) (hy : hasB (cnt R) y = true) : Sp 2 mX4_findingOfBook [.ref 0, .int (nI 1), .int y] (hX R K kp tc n T Z A f1 f2 f3 tok s b nu) (some (.int 0)) (hX R K kp tc n T Z A f1 f2 f3 tok s b nu) := by
  refine Sp.of [some (.ref 0), some (.int (nI 1)), some (.int y)] mrX4_findingOfBook.1 rfl (Nat.le_of_ble_eq_true rfl) rfl (fun X => ?_)
  refine r_iload_n dX4_findingOfBook_0 rfl ?_
  refine r_s1r S_X4_isSheet (Nat.le_of_ble_eq_true rfl) mrX4_isSheet lkX4_181 dX4_findingOfBook_1 (Nat.le_of_ble_eq_true rfl) ?_
  refine r_if_neB 10 dX4_findingOfBook_4 (by decide) (fun c4 => ?_) (fun c4 => ?_)
  · refine r_aload_n dX4_findingOfBook_10 rfl ?_
    refine r_getfield dX4_findingOfBook_11 gfX4_31 rfl rfl ?_
    refine r_iload_n dX4_findingOfBook_14 rfl ?_
    refine r_aaldN dX4_findingOfBook_15 rfl (by first | decide | omega) (Nat.le_of_ble_eq_true rfl) rfl ?_
    refine r_v0r Z_isMissing1 (Nat.le_of_ble_eq_true rfl) mrX2_isMissing lkX4_194 rfl rfl rfl dX4_findingOfBook_16 (Nat.le_of_ble_eq_true rfl) ?_
    refine r_if_eqB 25 dX4_findingOfBook_19 (by decide) (fun c19 => ?_) (fun c19 => ?_)
    · refine r_aload_n dX4_findingOfBook_25 rfl ?_
      refine r_getfield dX4_findingOfBook_26 gfX4_12 rfl rfl ?_
      refine r_iload_n dX4_findingOfBook_29 rfl ?_
      refine r_v1r Z_has (Nat.le_of_ble_eq_true rfl) mrX1_has lkX4_54 rfl rfl rfl dX4_findingOfBook_30 (Nat.le_of_ble_eq_true rfl) ?_
      refine r_if_eqB 40 dX4_findingOfBook_33 (by decide) (fun c33 => ?_) (fun c33 => ?_)
      · exact absurd c33 (by rw [hy]; decide)
      · refine r_iconst (v := nI 0) dX4_findingOfBook_36 (by decide) ?_
        refine r_goto 42 dX4_findingOfBook_37 (by decide) ?_
        refine r_iret dX4_findingOfBook_42 rfl rfl ?_ ?_
        · rfl
        · exact HE.rf
    · exact absurd c19 (by rw [decide_eq_false hm]; decide)
  · exact absurd c4 (by decide)
theorem Z_fobB2 {R K : RS} {kp : Bool} {tc : Nat → Int32} {n : Nat} {T : Nat → Nat} {Z : Nat → SHT} {A : RS} {f1 f2 f3 tok : Int32} {s b : Nat} {nu : Int32} {y : Int32} (hm : (Z 2).1 = 0) : Sp 2 mX4_findingOfBook [.ref 0, .int (nI 2), .int y] (hX R K kp tc n T Z A f1 f2 f3 tok s b nu) (some (.int (-1000000006))) (hX R K kp tc n T Z A f1 f2 f3 tok s b nu) := by
  refine Sp.of [some (.ref 0), some (.int (nI 2)), some (.int y)] mrX4_findingOfBook.1 rfl (Nat.le_of_ble_eq_true rfl) rfl (fun X => ?_)
  refine r_iload_n dX4_findingOfBook_0 rfl ?_
  refine r_s1r S_X4_isSheet (Nat.le_of_ble_eq_true rfl) mrX4_isSheet lkX4_181 dX4_findingOfBook_1 (Nat.le_of_ble_eq_true rfl) ?_
  refine r_if_neB 10 dX4_findingOfBook_4 (by decide) (fun c4 => ?_) (fun c4 => ?_)
  · refine r_aload_n dX4_findingOfBook_10 rfl ?_
    refine r_getfield dX4_findingOfBook_11 gfX4_31 rfl rfl ?_
    refine r_iload_n dX4_findingOfBook_14 rfl ?_
    refine r_aaldN dX4_findingOfBook_15 rfl (by first | decide | omega) (Nat.le_of_ble_eq_true rfl) rfl ?_
    refine r_v0r Z_isMissing2 (Nat.le_of_ble_eq_true rfl) mrX2_isMissing lkX4_194 rfl rfl rfl dX4_findingOfBook_16 (Nat.le_of_ble_eq_true rfl) ?_
    refine r_if_eqB 25 dX4_findingOfBook_19 (by decide) (fun c19 => ?_) (fun c19 => ?_)
    · exact absurd c19 (by rw [decide_eq_true hm]; decide)
    · refine r_ldc kX4_197 dX4_findingOfBook_22 ?_
      refine r_iret dX4_findingOfBook_24 rfl rfl ?_ ?_
      · rfl
      · exact HE.rf
  · exact absurd c4 (by decide)
theorem Z_fobC2 {R K : RS} {kp : Bool} {tc : Nat → Int32} {n : Nat} {T : Nat → Nat} {Z : Nat → SHT} {A : RS} {f1 f2 f3 tok : Int32} {s b : Nat} {nu : Int32} {y : Int32} (hm : ¬ (Z 2).1 = 0) (hy : hasB (cnt R) y = false) : Sp 2 mX4_findingOfBook [.ref 0, .int (nI 2), .int y] (hX R K kp tc n T Z A f1 f2 f3 tok s b nu) (some (.int (-1000000001))) (hX R K kp tc n T Z A f1 f2 f3 tok s b nu) := by
  refine Sp.of [some (.ref 0), some (.int (nI 2)), some (.int y)] mrX4_findingOfBook.1 rfl (Nat.le_of_ble_eq_true rfl) rfl (fun X => ?_)
  refine r_iload_n dX4_findingOfBook_0 rfl ?_
  refine r_s1r S_X4_isSheet (Nat.le_of_ble_eq_true rfl) mrX4_isSheet lkX4_181 dX4_findingOfBook_1 (Nat.le_of_ble_eq_true rfl) ?_
  refine r_if_neB 10 dX4_findingOfBook_4 (by decide) (fun c4 => ?_) (fun c4 => ?_)
  · refine r_aload_n dX4_findingOfBook_10 rfl ?_
    refine r_getfield dX4_findingOfBook_11 gfX4_31 rfl rfl ?_
    refine r_iload_n dX4_findingOfBook_14 rfl ?_
    refine r_aaldN dX4_findingOfBook_15 rfl (by first | decide | omega) (Nat.le_of_ble_eq_true rfl) rfl ?_
    refine r_v0r Z_isMissing2 (Nat.le_of_ble_eq_true rfl) mrX2_isMissing lkX4_194 rfl rfl rfl dX4_findingOfBook_16 (Nat.le_of_ble_eq_true rfl) ?_
    refine r_if_eqB 25 dX4_findingOfBook_19 (by decide) (fun c19 => ?_) (fun c19 => ?_)
    · refine r_aload_n dX4_findingOfBook_25 rfl ?_
      refine r_getfield dX4_findingOfBook_26 gfX4_12 rfl rfl ?_
      refine r_iload_n dX4_findingOfBook_29 rfl ?_
      refine r_v1r Z_has (Nat.le_of_ble_eq_true rfl) mrX1_has lkX4_54 rfl rfl rfl dX4_findingOfBook_30 (Nat.le_of_ble_eq_true rfl) ?_
      refine r_if_eqB 40 dX4_findingOfBook_33 (by decide) (fun c33 => ?_) (fun c33 => ?_)
      · refine r_ldc kX4_45 dX4_findingOfBook_40 ?_
        refine r_iret dX4_findingOfBook_42 rfl rfl ?_ ?_
        · rfl
        · exact HE.rf
      · exact absurd c33 (by rw [hy]; decide)
    · exact absurd c19 (by rw [decide_eq_false hm]; decide)
  · exact absurd c4 (by decide)
theorem Z_fobD2 {R K : RS} {kp : Bool} {tc : Nat → Int32} {n : Nat} {T : Nat → Nat} {Z : Nat → SHT} {A : RS} {f1 f2 f3 tok : Int32} {s b : Nat} {nu : Int32} {y : Int32} (hm : ¬ (Z 2).1 = 0) (hy : hasB (cnt R) y = true) : Sp 2 mX4_findingOfBook [.ref 0, .int (nI 2), .int y] (hX R K kp tc n T Z A f1 f2 f3 tok s b nu) (some (.int 0)) (hX R K kp tc n T Z A f1 f2 f3 tok s b nu) := by
  refine Sp.of [some (.ref 0), some (.int (nI 2)), some (.int y)] mrX4_findingOfBook.1 rfl (Nat.le_of_ble_eq_true rfl) rfl (fun X => ?_)
  refine r_iload_n dX4_findingOfBook_0 rfl ?_
  refine r_s1r S_X4_isSheet (Nat.le_of_ble_eq_true rfl) mrX4_isSheet lkX4_181 dX4_findingOfBook_1 (Nat.le_of_ble_eq_true rfl) ?_
  refine r_if_neB 10 dX4_findingOfBook_4 (by decide) (fun c4 => ?_) (fun c4 => ?_)
  · refine r_aload_n dX4_findingOfBook_10 rfl ?_
    refine r_getfield dX4_findingOfBook_11 gfX4_31 rfl rfl ?_
    refine r_iload_n dX4_findingOfBook_14 rfl ?_
    refine r_aaldN dX4_findingOfBook_15 rfl (by first | decide | omega) (Nat.le_of_ble_eq_true rfl) rfl ?_
    refine r_v0r Z_isMissing2 (Nat.le_of_ble_eq_true rfl) mrX2_isMissing lkX4_194 rfl rfl rfl dX4_findingOfBook_16 (Nat.le_of_ble_eq_true rfl) ?_
    refine r_if_eqB 25 dX4_findingOfBook_19 (by decide) (fun c19 => ?_) (fun c19 => ?_)
    · refine r_aload_n dX4_findingOfBook_25 rfl ?_
      refine r_getfield dX4_findingOfBook_26 gfX4_12 rfl rfl ?_
      refine r_iload_n dX4_findingOfBook_29 rfl ?_
      refine r_v1r Z_has (Nat.le_of_ble_eq_true rfl) mrX1_has lkX4_54 rfl rfl rfl dX4_findingOfBook_30 (Nat.le_of_ble_eq_true rfl) ?_
      refine r_if_eqB 40 dX4_findingOfBook_33 (by decide) (fun c33 => ?_) (fun c33 => ?_)
      · exact absurd c33 (by rw [hy]; decide)
      · refine r_iconst (v := nI 0) dX4_findingOfBook_36 (by decide) ?_
        refine r_goto 42 dX4_findingOfBook_37 (by decide) ?_
        refine r_iret dX4_findingOfBook_42 rfl rfl ?_ ?_
        · rfl
        · exact HE.rf
    · exact absurd c19 (by rw [decide_eq_false hm]; decide)
  · exact absurd c4 (by decide)
theorem Z_fobB3 {R K : RS} {kp : Bool} {tc : Nat → Int32} {n : Nat} {T : Nat → Nat} {Z : Nat → SHT} {A : RS} {f1 f2 f3 tok : Int32} {s b : Nat} {nu : Int32} {y : Int32} (hm : (Z 3).1 = 0) : Sp 2 mX4_findingOfBook [.ref 0, .int (nI 3), .int y] (hX R K kp tc n T Z A f1 f2 f3 tok s b nu) (some (.int (-1000000006))) (hX R K kp tc n T Z A f1 f2 f3 tok s b nu) := by
  refine Sp.of [some (.ref 0), some (.int (nI 3)), some (.int y)] mrX4_findingOfBook.1 rfl (Nat.le_of_ble_eq_true rfl) rfl (fun X => ?_)
  refine r_iload_n dX4_findingOfBook_0 rfl ?_
  refine r_s1r S_X4_isSheet (Nat.le_of_ble_eq_true rfl) mrX4_isSheet lkX4_181 dX4_findingOfBook_1 (Nat.le_of_ble_eq_true rfl) ?_
  refine r_if_neB 10 dX4_findingOfBook_4 (by decide) (fun c4 => ?_) (fun c4 => ?_)
  · refine r_aload_n dX4_findingOfBook_10 rfl ?_
    refine r_getfield dX4_findingOfBook_11 gfX4_31 rfl rfl ?_
    refine r_iload_n dX4_findingOfBook_14 rfl ?_
    refine r_aaldN dX4_findingOfBook_15 rfl (by first | decide | omega) (Nat.le_of_ble_eq_true rfl) rfl ?_
    refine r_v0r Z_isMissing3 (Nat.le_of_ble_eq_true rfl) mrX2_isMissing lkX4_194 rfl rfl rfl dX4_findingOfBook_16 (Nat.le_of_ble_eq_true rfl) ?_
    refine r_if_eqB 25 dX4_findingOfBook_19 (by decide) (fun c19 => ?_) (fun c19 => ?_)
    · exact absurd c19 (by rw [decide_eq_true hm]; decide)
    · refine r_ldc kX4_197 dX4_findingOfBook_22 ?_
      refine r_iret dX4_findingOfBook_24 rfl rfl ?_ ?_
      · rfl
      · exact HE.rf
  · exact absurd c4 (by decide)
theorem Z_fobC3 {R K : RS} {kp : Bool} {tc : Nat → Int32} {n : Nat} {T : Nat → Nat} {Z : Nat → SHT} {A : RS} {f1 f2 f3 tok : Int32} {s b : Nat} {nu : Int32} {y : Int32} (hm : ¬ (Z 3).1 = 0) (hy : hasB (cnt R) y = false) : Sp 2 mX4_findingOfBook [.ref 0, .int (nI 3), .int y] (hX R K kp tc n T Z A f1 f2 f3 tok s b nu) (some (.int (-1000000001))) (hX R K kp tc n T Z A f1 f2 f3 tok s b nu) := by
  refine Sp.of [some (.ref 0), some (.int (nI 3)), some (.int y)] mrX4_findingOfBook.1 rfl (Nat.le_of_ble_eq_true rfl) rfl (fun X => ?_)
  refine r_iload_n dX4_findingOfBook_0 rfl ?_
  refine r_s1r S_X4_isSheet (Nat.le_of_ble_eq_true rfl) mrX4_isSheet lkX4_181 dX4_findingOfBook_1 (Nat.le_of_ble_eq_true rfl) ?_
  refine r_if_neB 10 dX4_findingOfBook_4 (by decide) (fun c4 => ?_) (fun c4 => ?_)
  · refine r_aload_n dX4_findingOfBook_10 rfl ?_
    refine r_getfield dX4_findingOfBook_11 gfX4_31 rfl rfl ?_
    refine r_iload_n dX4_findingOfBook_14 rfl ?_
    refine r_aaldN dX4_findingOfBook_15 rfl (by first | decide | omega) (Nat.le_of_ble_eq_true rfl) rfl ?_
    refine r_v0r Z_isMissing3 (Nat.le_of_ble_eq_true rfl) mrX2_isMissing lkX4_194 rfl rfl rfl dX4_findingOfBook_16 (Nat.le_of_ble_eq_true rfl) ?_
    refine r_if_eqB 25 dX4_findingOfBook_19 (by decide) (fun c19 => ?_) (fun c19 => ?_)
    · refine r_aload_n dX4_findingOfBook_25 rfl ?_
      refine r_getfield dX4_findingOfBook_26 gfX4_12 rfl rfl ?_
      refine r_iload_n dX4_findingOfBook_29 rfl ?_
      refine r_v1r Z_has (Nat.le_of_ble_eq_true rfl) mrX1_has lkX4_54 rfl rfl rfl dX4_findingOfBook_30 (Nat.le_of_ble_eq_true rfl) ?_
      refine r_if_eqB 40 dX4_findingOfBook_33 (by decide) (fun c33 => ?_) (fun c33 => ?_)
      · refine r_ldc kX4_45 dX4_findingOfBook_40 ?_
        refine r_iret dX4_findingOfBook_42 rfl rfl ?_ ?_
        · rfl
        · exact HE.rf
      · exact absurd c33 (by rw [hy]; decide)
    · exact absurd c19 (by rw [decide_eq_false hm]; decide)
  · exact absurd c4 (by decide)
theorem Z_fobD3 {R K : RS} {kp : Bool} {tc : Nat → Int32} {n : Nat} {T : Nat → Nat} {Z : Nat → SHT} {A : RS} {f1 f2 f3 tok : Int32} {s b : Nat} {nu : Int32} {y : Int32} (hm : ¬ (Z 3).1 = 0) (hy : hasB (cnt R) y = true) : Sp 2 mX4_findingOfBook [.ref 0, .int (nI 3), .int y] (hX R K kp tc n T Z A f1 f2 f3 tok s b nu) (some (.int 0)) (hX R K kp tc n T Z A f1 f2 f3 tok s b nu) := by
  refine Sp.of [some (.ref 0), some (.int (nI 3)), some (.int y)] mrX4_findingOfBook.1 rfl (Nat.le_of_ble_eq_true rfl) rfl (fun X => ?_)
  refine r_iload_n dX4_findingOfBook_0 rfl ?_
  refine r_s1r S_X4_isSheet (Nat.le_of_ble_eq_true rfl) mrX4_isSheet lkX4_181 dX4_findingOfBook_1 (Nat.le_of_ble_eq_true rfl) ?_
  refine r_if_neB 10 dX4_findingOfBook_4 (by decide) (fun c4 => ?_) (fun c4 => ?_)
  · refine r_aload_n dX4_findingOfBook_10 rfl ?_
    refine r_getfield dX4_findingOfBook_11 gfX4_31 rfl rfl ?_
    refine r_iload_n dX4_findingOfBook_14 rfl ?_
    refine r_aaldN dX4_findingOfBook_15 rfl (by first | decide | omega) (Nat.le_of_ble_eq_true rfl) rfl ?_
    refine r_v0r Z_isMissing3 (Nat.le_of_ble_eq_true rfl) mrX2_isMissing lkX4_194 rfl rfl rfl dX4_findingOfBook_16 (Nat.le_of_ble_eq_true rfl) ?_
    refine r_if_eqB 25 dX4_findingOfBook_19 (by decide) (fun c19 => ?_) (fun c19 => ?_)
    · refine r_aload_n dX4_findingOfBook_25 rfl ?_
      refine r_getfield dX4_findingOfBook_26 gfX4_12 rfl rfl ?_
      refine r_iload_n dX4_findingOfBook_29 rfl ?_
      refine r_v1r Z_has (Nat.le_of_ble_eq_true rfl) mrX1_has lkX4_54 rfl rfl rfl dX4_findingOfBook_30 (Nat.le_of_ble_eq_true rfl) ?_
      refine r_if_eqB 40 dX4_findingOfBook_33 (by decide) (fun c33 => ?_) (fun c33 => ?_)
      · exact absurd c33 (by rw [hy]; decide)
      · refine r_iconst (v := nI 0) dX4_findingOfBook_36 (by decide) ?_
        refine r_goto 42 dX4_findingOfBook_37 (by decide) ?_
        refine r_iret dX4_findingOfBook_42 rfl rfl ?_ ?_
        · rfl
        · exact HE.rf
    · exact absurd c19 (by rw [decide_eq_false hm]; decide)
  · exact absurd c4 (by decide)
theorem X_book {R K : RS} {kp : Bool} {tc : Nat → Int32} {n : Nat} {T : Nat → Nat} {Z : Nat → SHT} {A : RS} {f1 f2 f3 tok : Int32} {s b : Nat} {nu : Int32} {x y : Int32} (hZ : wfZ Z) (hc : cnt R ≤ 8) : SpQ 11 mX4_book [.ref 0, .int x, .int y] (hX R K kp tc n T Z A f1 f2 f3 tok s b nu) (some (.int (o_book ((R, K, kp, tc), (n, T), Z) x y).1)) (qX (o_book ((R, K, kp, tc), (n, T), Z) x y).2) := by
  refine SpQ.of [some (.ref 0), some (.int x), some (.int y), none, none, none] mrX4_book.1 (fun _ q => qX_len q) (Nat.le_of_ble_eq_true rfl) rfl (fun X => ?_)
  have e0 : ∀ i, i < 100 → tn (nI i) = i := fun i hi => nI_clamp (by omega)
  cases cx : inR x (nI 0) (nI 3) with
  | false =>
    rw [o_book, bkL, cx]
    refine r_aload_n dX4_book_0 rfl ?_
    refine r_iload_n dX4_book_1 rfl ?_
    refine r_iload_n dX4_book_2 rfl ?_
    refine r_v2r (Z_fobA cx) (Nat.le_of_ble_eq_true rfl) mrX4_findingOfBook lkX4_225 rfl rfl rfl dX4_book_3 (Nat.le_of_ble_eq_true rfl) ?_
    refine r_istore_n (lv' := [_, _, _, _, _, _]) dX4_book_6 (by decide) rfl ?_
    refine r_iload_n dX4_book_7 rfl ?_
    refine r_if_eq 17 dX4_book_8 (by decide) (fun c8 => ?_) (fun c8 => ?_)
    · exact absurd c8 (by decide)
    · refine r_aload_n dX4_book_11 rfl ?_
      refine r_iload_n dX4_book_12 rfl ?_
      refine r_v1r (Z_tell 0 (by decide) (by decide)) (Nat.le_of_ble_eq_true rfl) mrX4_tell lkX4_46 rfl rfl rfl dX4_book_13 (Nat.le_of_ble_eq_true rfl) ?_
      refine r_iret dX4_book_16 rfl rfl ?_ ?_
      · rfl
      · exact ⟨A, f1, f2, f3, tok, s, b, nu, HE.rf⟩
  | true =>
    obtain ⟨i, -, hi, rfl⟩ := inR_of cx (by decide) (by decide)
    obtain ⟨z, hz, ez⟩ := hZ i (by omega)
    have t1 : tn (Z i).2.1 = z := by rw [ez]; exact e0 z (by omega)
    rw [o_book, bkL, cx]
    dsimp only
    rw [e0 i (by omega), t1]
    rcases (show i = 0 ∨ i = 1 ∨ i = 2 ∨ i = 3 by omega) with rfl | rfl | rfl | rfl
    · by_cases hm : (Z 0).1 = 0
      · rw [if_pos hm]
        refine r_aload_n dX4_book_0 rfl ?_
        refine r_iload_n dX4_book_1 rfl ?_
        refine r_iload_n dX4_book_2 rfl ?_
        refine r_v2r (Z_fobB0 hm) (Nat.le_of_ble_eq_true rfl) mrX4_findingOfBook lkX4_225 rfl rfl rfl dX4_book_3 (Nat.le_of_ble_eq_true rfl) ?_
        refine r_istore_n (lv' := [_, _, _, _, _, _]) dX4_book_6 (by decide) rfl ?_
        refine r_iload_n dX4_book_7 rfl ?_
        refine r_if_eq 17 dX4_book_8 (by decide) (fun c8 => ?_) (fun c8 => ?_)
        · exact absurd c8 (by decide)
        · refine r_aload_n dX4_book_11 rfl ?_
          refine r_iload_n dX4_book_12 rfl ?_
          refine r_v1r (Z_tell 5 (by decide) (by decide)) (Nat.le_of_ble_eq_true rfl) mrX4_tell lkX4_46 rfl rfl rfl dX4_book_13 (Nat.le_of_ble_eq_true rfl) ?_
          refine r_iret dX4_book_16 rfl rfl ?_ ?_
          · rfl
          · exact ⟨A, f1, f2, f3, tok, s, b, nu, HE.rf⟩
      · rw [if_neg hm]
        cases cy : hasB (cnt R) y with
        | false =>
          refine r_aload_n dX4_book_0 rfl ?_
          refine r_iload_n dX4_book_1 rfl ?_
          refine r_iload_n dX4_book_2 rfl ?_
          refine r_v2r (Z_fobC0 hm cy) (Nat.le_of_ble_eq_true rfl) mrX4_findingOfBook lkX4_225 rfl rfl rfl dX4_book_3 (Nat.le_of_ble_eq_true rfl) ?_
          refine r_istore_n (lv' := [_, _, _, _, _, _]) dX4_book_6 (by decide) rfl ?_
          refine r_iload_n dX4_book_7 rfl ?_
          refine r_if_eq 17 dX4_book_8 (by decide) (fun c8 => ?_) (fun c8 => ?_)
          · exact absurd c8 (by decide)
          · refine r_aload_n dX4_book_11 rfl ?_
            refine r_iload_n dX4_book_12 rfl ?_
            refine r_v1r (Z_tell 0 (by decide) (by decide)) (Nat.le_of_ble_eq_true rfl) mrX4_tell lkX4_46 rfl rfl rfl dX4_book_13 (Nat.le_of_ble_eq_true rfl) ?_
            refine r_iret dX4_book_16 rfl rfl ?_ ?_
            · rfl
            · exact ⟨A, f1, f2, f3, tok, s, b, nu, HE.rf⟩
        | true =>
          obtain ⟨p, hp, rfl⟩ := hasB_of cy (by omega)
          rw [e0 p (by omega)]
          have L : ∀ (k j : Nat) (f2 : Int32), j + k = z → RunQ X 11 mX4_book 32 [some (.ref 0), some (.int (nI 0)), some (.int (nI p)), none, some (.ref 21), some (.int (nI j))] [] (hX R K kp tc n T (updZ Z 0 ((Z 0).1, (Z 0).2.1, bkF (Z 0).1 (fun j => rS (stpN j R) p) (Z 0).2.2 j)) (stpN j R) f1 f2 f3 tok s b nu) (some (.int (Z 0).2.1)) (qX ((R, K, kp, tc), (n, T), (updZ Z 0 ((Z 0).1, (Z 0).2.1, bkF (Z 0).1 (fun j => rS (stpN j R) p) (Z 0).2.2 z)))) := by
            intro k
            induction k with
            | zero =>
              intro j f2 hj
              obtain rfl : j = z := by omega
              refine r_iload dX4_book_32 rfl ?_
              refine r_aload dX4_book_34 rfl ?_
              refine r_getfield dX4_book_36 gfX4_191 rfl rfl ?_
              rw [show ((updZ Z 0 ((Z 0).1, (Z 0).2.1, bkF (Z 0).1 (fun j => rS (stpN j R) p) (Z 0).2.2 j)) 0).2.1 = nI j from ez]
              refine r_icmp_ge 72 dX4_book_39 (by decide) (fun c39 => ?_) (fun c39 => ?_)
              · refine r_aload dX4_book_72 rfl ?_
                refine r_getfield dX4_book_74 gfX4_191 rfl rfl ?_
                refine r_iret dX4_book_77 rfl rfl ?_ ?_
                · rfl
                · exact ⟨stpN j R, f1, f2, f3, tok, s, b, nu, HE.rf⟩
              · exact absurd (nI_le (Nat.le_refl _) (by omega)) c39
            | succ k ih =>
              intro j f2 hj
              refine r_iload dX4_book_32 rfl ?_
              refine r_aload dX4_book_34 rfl ?_
              refine r_getfield dX4_book_36 gfX4_191 rfl rfl ?_
              rw [show ((updZ Z 0 ((Z 0).1, (Z 0).2.1, bkF (Z 0).1 (fun j => rS (stpN j R) p) (Z 0).2.2 j)) 0).2.1 = nI z from ez]
              refine r_icmp_ge 72 dX4_book_39 (by decide) (fun c39 => ?_) (fun c39 => ?_)
              · exact absurd c39 (nI_ge (by omega) (by omega))
              · refine r_aload dX4_book_42 rfl ?_
                refine r_iload dX4_book_44 rfl ?_
                refine r_aload_n dX4_book_46 rfl ?_
                refine r_getfield dX4_book_47 gfX4_16 rfl rfl ?_
                refine r_getfield dX4_book_50 gfX4_104 rfl rfl ?_
                refine r_iload_n dX4_book_53 rfl ?_
                refine r_ialdN dX4_book_54 rfl (by omega) (Nat.le_of_ble_eq_true rfl) rfl ?_
                refine r_i2l dX4_book_55 ?_
                refine r_v2n (Z_put0 (Z := (updZ Z 0 ((Z 0).1, (Z 0).2.1, bkF (Z 0).1 (fun j => rS (stpN j R) p) (Z 0).2.2 j))) (z := z) ez hz (by omega)) (Nat.le_of_ble_eq_true rfl) mrX2_put lkX4_202 rfl rfl rfl dX4_book_56 (Nat.le_of_ble_eq_true rfl) ?_
                refine r_aload_n dX4_book_59 rfl ?_
                refine r_getfield dX4_book_60 gfX4_16 rfl rfl ?_
                refine r_v0n (Z_goStep6 (by rw [stpN_cnt]; exact hc)) (Nat.le_of_ble_eq_true rfl) mrX1_goStep lkX4_146 rfl rfl rfl dX4_book_63 (Nat.le_of_ble_eq_true rfl) ?_
                refine r_iinc (lv' := [_, _, _, _, _, _]) dX4_book_66 (by decide) rfl (by first | exact inc1 _ | exact inc1_ _) rfl ?_
                refine r_goto 32 dX4_book_69 (by decide) ?_
                refine r_heq (h' := hX R K kp tc n T (updZ Z 0 ((Z 0).1, (Z 0).2.1, bkF (Z 0).1 (fun j => rS (stpN j R) p) (Z 0).2.2 (j + 1))) (stpN (j + 1) R) f1 (stpF (stpN j R)) f3 tok s b nu) (HE.of ?_) (ih (j + 1) _ (by omega))
                rw [stpN_s, ← bkF_s]
                rfl
          refine r_aload_n dX4_book_0 rfl ?_
          refine r_iload_n dX4_book_1 rfl ?_
          refine r_iload_n dX4_book_2 rfl ?_
          refine r_v2r (Z_fobD0 hm cy) (Nat.le_of_ble_eq_true rfl) mrX4_findingOfBook lkX4_225 rfl rfl rfl dX4_book_3 (Nat.le_of_ble_eq_true rfl) ?_
          refine r_istore_n (lv' := [_, _, _, _, _, _]) dX4_book_6 (by decide) rfl ?_
          refine r_iload_n dX4_book_7 rfl ?_
          refine r_if_eq 17 dX4_book_8 (by decide) (fun c8 => ?_) (fun c8 => ?_)
          · refine r_aload_n dX4_book_17 rfl ?_
            refine r_getfield dX4_book_18 gfX4_31 rfl rfl ?_
            refine r_iload_n dX4_book_21 rfl ?_
            refine r_aaldN dX4_book_22 rfl (by first | decide | omega) (Nat.le_of_ble_eq_true rfl) rfl ?_
            refine r_astore (lv' := [_, _, _, _, _, _]) dX4_book_23 (by decide) rfl ?_
            refine r_aload_n dX4_book_25 rfl ?_
            refine r_v0n Z_lookAhead (Nat.le_of_ble_eq_true rfl) mrX4_lookAhead lkX4_140 rfl rfl rfl dX4_book_26 (Nat.le_of_ble_eq_true rfl) ?_
            refine r_iconst (v := nI 0) dX4_book_29 (by decide) ?_
            refine r_istore (lv' := [_, _, _, _, _, _]) dX4_book_30 (by decide) rfl ?_
            refine r_lv (lv' := [_, _, _, none, _, _]) (lvDrop 3 rfl) ?_
            refine r_heq (h' := hX R K kp tc n T (updZ Z 0 ((Z 0).1, (Z 0).2.1, bkF (Z 0).1 (fun j => rS (stpN j R) p) (Z 0).2.2 0)) (stpN 0 R) f1 f2 f3 tok s b nu) ⟨CE.rf, CE.rf, CE.rf, CE.rf, CE.rf, CE.rf, CE.rf, CE.rf, CE.rf, CE.rf, CE.rf, CE.rf, CE.rf, CE.rf, CE.rf, CE.rf, CE.rf, CE.rf, CE.rf, CE.rf, CE.rf, CE.rf, CE.longs (fun j hj => rfl), CE.rf, CE.rf, CE.rf, CE.rf, CE.rf, CE.rf, trivial⟩ ?_
            exact L z 0 f2 (by omega)
          · exact absurd rfl c8
    · by_cases hm : (Z 1).1 = 0
      · rw [if_pos hm]
        refine r_aload_n dX4_book_0 rfl ?_
        refine r_iload_n dX4_book_1 rfl ?_
        refine r_iload_n dX4_book_2 rfl ?_
        refine r_v2r (Z_fobB1 hm) (Nat.le_of_ble_eq_true rfl) mrX4_findingOfBook lkX4_225 rfl rfl rfl dX4_book_3 (Nat.le_of_ble_eq_true rfl) ?_
        refine r_istore_n (lv' := [_, _, _, _, _, _]) dX4_book_6 (by decide) rfl ?_
        refine r_iload_n dX4_book_7 rfl ?_
        refine r_if_eq 17 dX4_book_8 (by decide) (fun c8 => ?_) (fun c8 => ?_)
        · exact absurd c8 (by decide)
        · refine r_aload_n dX4_book_11 rfl ?_
          refine r_iload_n dX4_book_12 rfl ?_
          refine r_v1r (Z_tell 5 (by decide) (by decide)) (Nat.le_of_ble_eq_true rfl) mrX4_tell lkX4_46 rfl rfl rfl dX4_book_13 (Nat.le_of_ble_eq_true rfl) ?_
          refine r_iret dX4_book_16 rfl rfl ?_ ?_
          · rfl
          · exact ⟨A, f1, f2, f3, tok, s, b, nu, HE.rf⟩
      · rw [if_neg hm]
        cases cy : hasB (cnt R) y with
        | false =>
          refine r_aload_n dX4_book_0 rfl ?_
          refine r_iload_n dX4_book_1 rfl ?_
          refine r_iload_n dX4_book_2 rfl ?_
          refine r_v2r (Z_fobC1 hm cy) (Nat.le_of_ble_eq_true rfl) mrX4_findingOfBook lkX4_225 rfl rfl rfl dX4_book_3 (Nat.le_of_ble_eq_true rfl) ?_
          refine r_istore_n (lv' := [_, _, _, _, _, _]) dX4_book_6 (by decide) rfl ?_
          refine r_iload_n dX4_book_7 rfl ?_
          refine r_if_eq 17 dX4_book_8 (by decide) (fun c8 => ?_) (fun c8 => ?_)
          · exact absurd c8 (by decide)
          · refine r_aload_n dX4_book_11 rfl ?_
            refine r_iload_n dX4_book_12 rfl ?_
            refine r_v1r (Z_tell 0 (by decide) (by decide)) (Nat.le_of_ble_eq_true rfl) mrX4_tell lkX4_46 rfl rfl rfl dX4_book_13 (Nat.le_of_ble_eq_true rfl) ?_
            refine r_iret dX4_book_16 rfl rfl ?_ ?_
            · rfl
            · exact ⟨A, f1, f2, f3, tok, s, b, nu, HE.rf⟩
        | true =>
          obtain ⟨p, hp, rfl⟩ := hasB_of cy (by omega)
          rw [e0 p (by omega)]
          have L : ∀ (k j : Nat) (f2 : Int32), j + k = z → RunQ X 11 mX4_book 32 [some (.ref 0), some (.int (nI 1)), some (.int (nI p)), none, some (.ref 23), some (.int (nI j))] [] (hX R K kp tc n T (updZ Z 1 ((Z 1).1, (Z 1).2.1, bkF (Z 1).1 (fun j => rS (stpN j R) p) (Z 1).2.2 j)) (stpN j R) f1 f2 f3 tok s b nu) (some (.int (Z 1).2.1)) (qX ((R, K, kp, tc), (n, T), (updZ Z 1 ((Z 1).1, (Z 1).2.1, bkF (Z 1).1 (fun j => rS (stpN j R) p) (Z 1).2.2 z)))) := by
            intro k
            induction k with
            | zero =>
              intro j f2 hj
              obtain rfl : j = z := by omega
              refine r_iload dX4_book_32 rfl ?_
              refine r_aload dX4_book_34 rfl ?_
              refine r_getfield dX4_book_36 gfX4_191 rfl rfl ?_
              rw [show ((updZ Z 1 ((Z 1).1, (Z 1).2.1, bkF (Z 1).1 (fun j => rS (stpN j R) p) (Z 1).2.2 j)) 1).2.1 = nI j from ez]
              refine r_icmp_ge 72 dX4_book_39 (by decide) (fun c39 => ?_) (fun c39 => ?_)
              · refine r_aload dX4_book_72 rfl ?_
                refine r_getfield dX4_book_74 gfX4_191 rfl rfl ?_
                refine r_iret dX4_book_77 rfl rfl ?_ ?_
                · rfl
                · exact ⟨stpN j R, f1, f2, f3, tok, s, b, nu, HE.rf⟩
              · exact absurd (nI_le (Nat.le_refl _) (by omega)) c39
            | succ k ih =>
              intro j f2 hj
              refine r_iload dX4_book_32 rfl ?_
              refine r_aload dX4_book_34 rfl ?_
              refine r_getfield dX4_book_36 gfX4_191 rfl rfl ?_
              rw [show ((updZ Z 1 ((Z 1).1, (Z 1).2.1, bkF (Z 1).1 (fun j => rS (stpN j R) p) (Z 1).2.2 j)) 1).2.1 = nI z from ez]
              refine r_icmp_ge 72 dX4_book_39 (by decide) (fun c39 => ?_) (fun c39 => ?_)
              · exact absurd c39 (nI_ge (by omega) (by omega))
              · refine r_aload dX4_book_42 rfl ?_
                refine r_iload dX4_book_44 rfl ?_
                refine r_aload_n dX4_book_46 rfl ?_
                refine r_getfield dX4_book_47 gfX4_16 rfl rfl ?_
                refine r_getfield dX4_book_50 gfX4_104 rfl rfl ?_
                refine r_iload_n dX4_book_53 rfl ?_
                refine r_ialdN dX4_book_54 rfl (by omega) (Nat.le_of_ble_eq_true rfl) rfl ?_
                refine r_i2l dX4_book_55 ?_
                refine r_v2n (Z_put1 (Z := (updZ Z 1 ((Z 1).1, (Z 1).2.1, bkF (Z 1).1 (fun j => rS (stpN j R) p) (Z 1).2.2 j))) (z := z) ez hz (by omega)) (Nat.le_of_ble_eq_true rfl) mrX2_put lkX4_202 rfl rfl rfl dX4_book_56 (Nat.le_of_ble_eq_true rfl) ?_
                refine r_aload_n dX4_book_59 rfl ?_
                refine r_getfield dX4_book_60 gfX4_16 rfl rfl ?_
                refine r_v0n (Z_goStep6 (by rw [stpN_cnt]; exact hc)) (Nat.le_of_ble_eq_true rfl) mrX1_goStep lkX4_146 rfl rfl rfl dX4_book_63 (Nat.le_of_ble_eq_true rfl) ?_
                refine r_iinc (lv' := [_, _, _, _, _, _]) dX4_book_66 (by decide) rfl (by first | exact inc1 _ | exact inc1_ _) rfl ?_
                refine r_goto 32 dX4_book_69 (by decide) ?_
                refine r_heq (h' := hX R K kp tc n T (updZ Z 1 ((Z 1).1, (Z 1).2.1, bkF (Z 1).1 (fun j => rS (stpN j R) p) (Z 1).2.2 (j + 1))) (stpN (j + 1) R) f1 (stpF (stpN j R)) f3 tok s b nu) (HE.of ?_) (ih (j + 1) _ (by omega))
                rw [stpN_s, ← bkF_s]
                rfl
          refine r_aload_n dX4_book_0 rfl ?_
          refine r_iload_n dX4_book_1 rfl ?_
          refine r_iload_n dX4_book_2 rfl ?_
          refine r_v2r (Z_fobD1 hm cy) (Nat.le_of_ble_eq_true rfl) mrX4_findingOfBook lkX4_225 rfl rfl rfl dX4_book_3 (Nat.le_of_ble_eq_true rfl) ?_
          refine r_istore_n (lv' := [_, _, _, _, _, _]) dX4_book_6 (by decide) rfl ?_
          refine r_iload_n dX4_book_7 rfl ?_
          refine r_if_eq 17 dX4_book_8 (by decide) (fun c8 => ?_) (fun c8 => ?_)
          · refine r_aload_n dX4_book_17 rfl ?_
            refine r_getfield dX4_book_18 gfX4_31 rfl rfl ?_
            refine r_iload_n dX4_book_21 rfl ?_
            refine r_aaldN dX4_book_22 rfl (by first | decide | omega) (Nat.le_of_ble_eq_true rfl) rfl ?_
            refine r_astore (lv' := [_, _, _, _, _, _]) dX4_book_23 (by decide) rfl ?_
            refine r_aload_n dX4_book_25 rfl ?_
            refine r_v0n Z_lookAhead (Nat.le_of_ble_eq_true rfl) mrX4_lookAhead lkX4_140 rfl rfl rfl dX4_book_26 (Nat.le_of_ble_eq_true rfl) ?_
            refine r_iconst (v := nI 0) dX4_book_29 (by decide) ?_
            refine r_istore (lv' := [_, _, _, _, _, _]) dX4_book_30 (by decide) rfl ?_
            refine r_lv (lv' := [_, _, _, none, _, _]) (lvDrop 3 rfl) ?_
            refine r_heq (h' := hX R K kp tc n T (updZ Z 1 ((Z 1).1, (Z 1).2.1, bkF (Z 1).1 (fun j => rS (stpN j R) p) (Z 1).2.2 0)) (stpN 0 R) f1 f2 f3 tok s b nu) ⟨CE.rf, CE.rf, CE.rf, CE.rf, CE.rf, CE.rf, CE.rf, CE.rf, CE.rf, CE.rf, CE.rf, CE.rf, CE.rf, CE.rf, CE.rf, CE.rf, CE.rf, CE.rf, CE.rf, CE.rf, CE.rf, CE.rf, CE.rf, CE.rf, CE.longs (fun j hj => rfl), CE.rf, CE.rf, CE.rf, CE.rf, trivial⟩ ?_
            exact L z 0 f2 (by omega)
          · exact absurd rfl c8
    · by_cases hm : (Z 2).1 = 0
      · rw [if_pos hm]
        refine r_aload_n dX4_book_0 rfl ?_
        refine r_iload_n dX4_book_1 rfl ?_
        refine r_iload_n dX4_book_2 rfl ?_
        refine r_v2r (Z_fobB2 hm) (Nat.le_of_ble_eq_true rfl) mrX4_findingOfBook lkX4_225 rfl rfl rfl dX4_book_3 (Nat.le_of_ble_eq_true rfl) ?_
        refine r_istore_n (lv' := [_, _, _, _, _, _]) dX4_book_6 (by decide) rfl ?_
        refine r_iload_n dX4_book_7 rfl ?_
        refine r_if_eq 17 dX4_book_8 (by decide) (fun c8 => ?_) (fun c8 => ?_)
        · exact absurd c8 (by decide)
        · refine r_aload_n dX4_book_11 rfl ?_
          refine r_iload_n dX4_book_12 rfl ?_
          refine r_v1r (Z_tell 5 (by decide) (by decide)) (Nat.le_of_ble_eq_true rfl) mrX4_tell lkX4_46 rfl rfl rfl dX4_book_13 (Nat.le_of_ble_eq_true rfl) ?_
          refine r_iret dX4_book_16 rfl rfl ?_ ?_
          · rfl
          · exact ⟨A, f1, f2, f3, tok, s, b, nu, HE.rf⟩
      · rw [if_neg hm]
        cases cy : hasB (cnt R) y with
        | false =>
          refine r_aload_n dX4_book_0 rfl ?_
          refine r_iload_n dX4_book_1 rfl ?_
          refine r_iload_n dX4_book_2 rfl ?_
          refine r_v2r (Z_fobC2 hm cy) (Nat.le_of_ble_eq_true rfl) mrX4_findingOfBook lkX4_225 rfl rfl rfl dX4_book_3 (Nat.le_of_ble_eq_true rfl) ?_
          refine r_istore_n (lv' := [_, _, _, _, _, _]) dX4_book_6 (by decide) rfl ?_
          refine r_iload_n dX4_book_7 rfl ?_
          refine r_if_eq 17 dX4_book_8 (by decide) (fun c8 => ?_) (fun c8 => ?_)
          · exact absurd c8 (by decide)
          · refine r_aload_n dX4_book_11 rfl ?_
            refine r_iload_n dX4_book_12 rfl ?_
            refine r_v1r (Z_tell 0 (by decide) (by decide)) (Nat.le_of_ble_eq_true rfl) mrX4_tell lkX4_46 rfl rfl rfl dX4_book_13 (Nat.le_of_ble_eq_true rfl) ?_
            refine r_iret dX4_book_16 rfl rfl ?_ ?_
            · rfl
            · exact ⟨A, f1, f2, f3, tok, s, b, nu, HE.rf⟩
        | true =>
          obtain ⟨p, hp, rfl⟩ := hasB_of cy (by omega)
          rw [e0 p (by omega)]
          have L : ∀ (k j : Nat) (f2 : Int32), j + k = z → RunQ X 11 mX4_book 32 [some (.ref 0), some (.int (nI 2)), some (.int (nI p)), none, some (.ref 25), some (.int (nI j))] [] (hX R K kp tc n T (updZ Z 2 ((Z 2).1, (Z 2).2.1, bkF (Z 2).1 (fun j => rS (stpN j R) p) (Z 2).2.2 j)) (stpN j R) f1 f2 f3 tok s b nu) (some (.int (Z 2).2.1)) (qX ((R, K, kp, tc), (n, T), (updZ Z 2 ((Z 2).1, (Z 2).2.1, bkF (Z 2).1 (fun j => rS (stpN j R) p) (Z 2).2.2 z)))) := by
            intro k
            induction k with
            | zero =>
              intro j f2 hj
              obtain rfl : j = z := by omega
              refine r_iload dX4_book_32 rfl ?_
              refine r_aload dX4_book_34 rfl ?_
              refine r_getfield dX4_book_36 gfX4_191 rfl rfl ?_
              rw [show ((updZ Z 2 ((Z 2).1, (Z 2).2.1, bkF (Z 2).1 (fun j => rS (stpN j R) p) (Z 2).2.2 j)) 2).2.1 = nI j from ez]
              refine r_icmp_ge 72 dX4_book_39 (by decide) (fun c39 => ?_) (fun c39 => ?_)
              · refine r_aload dX4_book_72 rfl ?_
                refine r_getfield dX4_book_74 gfX4_191 rfl rfl ?_
                refine r_iret dX4_book_77 rfl rfl ?_ ?_
                · rfl
                · exact ⟨stpN j R, f1, f2, f3, tok, s, b, nu, HE.rf⟩
              · exact absurd (nI_le (Nat.le_refl _) (by omega)) c39
            | succ k ih =>
              intro j f2 hj
              refine r_iload dX4_book_32 rfl ?_
              refine r_aload dX4_book_34 rfl ?_
              refine r_getfield dX4_book_36 gfX4_191 rfl rfl ?_
              rw [show ((updZ Z 2 ((Z 2).1, (Z 2).2.1, bkF (Z 2).1 (fun j => rS (stpN j R) p) (Z 2).2.2 j)) 2).2.1 = nI z from ez]
              refine r_icmp_ge 72 dX4_book_39 (by decide) (fun c39 => ?_) (fun c39 => ?_)
              · exact absurd c39 (nI_ge (by omega) (by omega))
              · refine r_aload dX4_book_42 rfl ?_
                refine r_iload dX4_book_44 rfl ?_
                refine r_aload_n dX4_book_46 rfl ?_
                refine r_getfield dX4_book_47 gfX4_16 rfl rfl ?_
                refine r_getfield dX4_book_50 gfX4_104 rfl rfl ?_
                refine r_iload_n dX4_book_53 rfl ?_
                refine r_ialdN dX4_book_54 rfl (by omega) (Nat.le_of_ble_eq_true rfl) rfl ?_
                refine r_i2l dX4_book_55 ?_
                refine r_v2n (Z_put2 (Z := (updZ Z 2 ((Z 2).1, (Z 2).2.1, bkF (Z 2).1 (fun j => rS (stpN j R) p) (Z 2).2.2 j))) (z := z) ez hz (by omega)) (Nat.le_of_ble_eq_true rfl) mrX2_put lkX4_202 rfl rfl rfl dX4_book_56 (Nat.le_of_ble_eq_true rfl) ?_
                refine r_aload_n dX4_book_59 rfl ?_
                refine r_getfield dX4_book_60 gfX4_16 rfl rfl ?_
                refine r_v0n (Z_goStep6 (by rw [stpN_cnt]; exact hc)) (Nat.le_of_ble_eq_true rfl) mrX1_goStep lkX4_146 rfl rfl rfl dX4_book_63 (Nat.le_of_ble_eq_true rfl) ?_
                refine r_iinc (lv' := [_, _, _, _, _, _]) dX4_book_66 (by decide) rfl (by first | exact inc1 _ | exact inc1_ _) rfl ?_
                refine r_goto 32 dX4_book_69 (by decide) ?_
                refine r_heq (h' := hX R K kp tc n T (updZ Z 2 ((Z 2).1, (Z 2).2.1, bkF (Z 2).1 (fun j => rS (stpN j R) p) (Z 2).2.2 (j + 1))) (stpN (j + 1) R) f1 (stpF (stpN j R)) f3 tok s b nu) (HE.of ?_) (ih (j + 1) _ (by omega))
                rw [stpN_s, ← bkF_s]
                rfl
          refine r_aload_n dX4_book_0 rfl ?_
          refine r_iload_n dX4_book_1 rfl ?_
          refine r_iload_n dX4_book_2 rfl ?_
          refine r_v2r (Z_fobD2 hm cy) (Nat.le_of_ble_eq_true rfl) mrX4_findingOfBook lkX4_225 rfl rfl rfl dX4_book_3 (Nat.le_of_ble_eq_true rfl) ?_
          refine r_istore_n (lv' := [_, _, _, _, _, _]) dX4_book_6 (by decide) rfl ?_
          refine r_iload_n dX4_book_7 rfl ?_
          refine r_if_eq 17 dX4_book_8 (by decide) (fun c8 => ?_) (fun c8 => ?_)
          · refine r_aload_n dX4_book_17 rfl ?_
            refine r_getfield dX4_book_18 gfX4_31 rfl rfl ?_
            refine r_iload_n dX4_book_21 rfl ?_
            refine r_aaldN dX4_book_22 rfl (by first | decide | omega) (Nat.le_of_ble_eq_true rfl) rfl ?_
            refine r_astore (lv' := [_, _, _, _, _, _]) dX4_book_23 (by decide) rfl ?_
            refine r_aload_n dX4_book_25 rfl ?_
            refine r_v0n Z_lookAhead (Nat.le_of_ble_eq_true rfl) mrX4_lookAhead lkX4_140 rfl rfl rfl dX4_book_26 (Nat.le_of_ble_eq_true rfl) ?_
            refine r_iconst (v := nI 0) dX4_book_29 (by decide) ?_
            refine r_istore (lv' := [_, _, _, _, _, _]) dX4_book_30 (by decide) rfl ?_
            refine r_lv (lv' := [_, _, _, none, _, _]) (lvDrop 3 rfl) ?_
            refine r_heq (h' := hX R K kp tc n T (updZ Z 2 ((Z 2).1, (Z 2).2.1, bkF (Z 2).1 (fun j => rS (stpN j R) p) (Z 2).2.2 0)) (stpN 0 R) f1 f2 f3 tok s b nu) ⟨CE.rf, CE.rf, CE.rf, CE.rf, CE.rf, CE.rf, CE.rf, CE.rf, CE.rf, CE.rf, CE.rf, CE.rf, CE.rf, CE.rf, CE.rf, CE.rf, CE.rf, CE.rf, CE.rf, CE.rf, CE.rf, CE.rf, CE.rf, CE.rf, CE.rf, CE.rf, CE.longs (fun j hj => rfl), CE.rf, CE.rf, trivial⟩ ?_
            exact L z 0 f2 (by omega)
          · exact absurd rfl c8
    · by_cases hm : (Z 3).1 = 0
      · rw [if_pos hm]
        refine r_aload_n dX4_book_0 rfl ?_
        refine r_iload_n dX4_book_1 rfl ?_
        refine r_iload_n dX4_book_2 rfl ?_
        refine r_v2r (Z_fobB3 hm) (Nat.le_of_ble_eq_true rfl) mrX4_findingOfBook lkX4_225 rfl rfl rfl dX4_book_3 (Nat.le_of_ble_eq_true rfl) ?_
        refine r_istore_n (lv' := [_, _, _, _, _, _]) dX4_book_6 (by decide) rfl ?_
        refine r_iload_n dX4_book_7 rfl ?_
        refine r_if_eq 17 dX4_book_8 (by decide) (fun c8 => ?_) (fun c8 => ?_)
        · exact absurd c8 (by decide)
        · refine r_aload_n dX4_book_11 rfl ?_
          refine r_iload_n dX4_book_12 rfl ?_
          refine r_v1r (Z_tell 5 (by decide) (by decide)) (Nat.le_of_ble_eq_true rfl) mrX4_tell lkX4_46 rfl rfl rfl dX4_book_13 (Nat.le_of_ble_eq_true rfl) ?_
          refine r_iret dX4_book_16 rfl rfl ?_ ?_
          · rfl
          · exact ⟨A, f1, f2, f3, tok, s, b, nu, HE.rf⟩
      · rw [if_neg hm]
        cases cy : hasB (cnt R) y with
        | false =>
          refine r_aload_n dX4_book_0 rfl ?_
          refine r_iload_n dX4_book_1 rfl ?_
          refine r_iload_n dX4_book_2 rfl ?_
          refine r_v2r (Z_fobC3 hm cy) (Nat.le_of_ble_eq_true rfl) mrX4_findingOfBook lkX4_225 rfl rfl rfl dX4_book_3 (Nat.le_of_ble_eq_true rfl) ?_
          refine r_istore_n (lv' := [_, _, _, _, _, _]) dX4_book_6 (by decide) rfl ?_
          refine r_iload_n dX4_book_7 rfl ?_
          refine r_if_eq 17 dX4_book_8 (by decide) (fun c8 => ?_) (fun c8 => ?_)
          · exact absurd c8 (by decide)
          · refine r_aload_n dX4_book_11 rfl ?_
            refine r_iload_n dX4_book_12 rfl ?_
            refine r_v1r (Z_tell 0 (by decide) (by decide)) (Nat.le_of_ble_eq_true rfl) mrX4_tell lkX4_46 rfl rfl rfl dX4_book_13 (Nat.le_of_ble_eq_true rfl) ?_
            refine r_iret dX4_book_16 rfl rfl ?_ ?_
            · rfl
            · exact ⟨A, f1, f2, f3, tok, s, b, nu, HE.rf⟩
        | true =>
          obtain ⟨p, hp, rfl⟩ := hasB_of cy (by omega)
          rw [e0 p (by omega)]
          have L : ∀ (k j : Nat) (f2 : Int32), j + k = z → RunQ X 11 mX4_book 32 [some (.ref 0), some (.int (nI 3)), some (.int (nI p)), none, some (.ref 27), some (.int (nI j))] [] (hX R K kp tc n T (updZ Z 3 ((Z 3).1, (Z 3).2.1, bkF (Z 3).1 (fun j => rS (stpN j R) p) (Z 3).2.2 j)) (stpN j R) f1 f2 f3 tok s b nu) (some (.int (Z 3).2.1)) (qX ((R, K, kp, tc), (n, T), (updZ Z 3 ((Z 3).1, (Z 3).2.1, bkF (Z 3).1 (fun j => rS (stpN j R) p) (Z 3).2.2 z)))) := by
            intro k
            induction k with
            | zero =>
              intro j f2 hj
              obtain rfl : j = z := by omega
              refine r_iload dX4_book_32 rfl ?_
              refine r_aload dX4_book_34 rfl ?_
              refine r_getfield dX4_book_36 gfX4_191 rfl rfl ?_
              rw [show ((updZ Z 3 ((Z 3).1, (Z 3).2.1, bkF (Z 3).1 (fun j => rS (stpN j R) p) (Z 3).2.2 j)) 3).2.1 = nI j from ez]
              refine r_icmp_ge 72 dX4_book_39 (by decide) (fun c39 => ?_) (fun c39 => ?_)
              · refine r_aload dX4_book_72 rfl ?_
                refine r_getfield dX4_book_74 gfX4_191 rfl rfl ?_
                refine r_iret dX4_book_77 rfl rfl ?_ ?_
                · rfl
                · exact ⟨stpN j R, f1, f2, f3, tok, s, b, nu, HE.rf⟩
              · exact absurd (nI_le (Nat.le_refl _) (by omega)) c39
            | succ k ih =>
              intro j f2 hj
              refine r_iload dX4_book_32 rfl ?_
              refine r_aload dX4_book_34 rfl ?_
              refine r_getfield dX4_book_36 gfX4_191 rfl rfl ?_
              rw [show ((updZ Z 3 ((Z 3).1, (Z 3).2.1, bkF (Z 3).1 (fun j => rS (stpN j R) p) (Z 3).2.2 j)) 3).2.1 = nI z from ez]
              refine r_icmp_ge 72 dX4_book_39 (by decide) (fun c39 => ?_) (fun c39 => ?_)
              · exact absurd c39 (nI_ge (by omega) (by omega))
              · refine r_aload dX4_book_42 rfl ?_
                refine r_iload dX4_book_44 rfl ?_
                refine r_aload_n dX4_book_46 rfl ?_
                refine r_getfield dX4_book_47 gfX4_16 rfl rfl ?_
                refine r_getfield dX4_book_50 gfX4_104 rfl rfl ?_
                refine r_iload_n dX4_book_53 rfl ?_
                refine r_ialdN dX4_book_54 rfl (by omega) (Nat.le_of_ble_eq_true rfl) rfl ?_
                refine r_i2l dX4_book_55 ?_
                refine r_v2n (Z_put3 (Z := (updZ Z 3 ((Z 3).1, (Z 3).2.1, bkF (Z 3).1 (fun j => rS (stpN j R) p) (Z 3).2.2 j))) (z := z) ez hz (by omega)) (Nat.le_of_ble_eq_true rfl) mrX2_put lkX4_202 rfl rfl rfl dX4_book_56 (Nat.le_of_ble_eq_true rfl) ?_
                refine r_aload_n dX4_book_59 rfl ?_
                refine r_getfield dX4_book_60 gfX4_16 rfl rfl ?_
                refine r_v0n (Z_goStep6 (by rw [stpN_cnt]; exact hc)) (Nat.le_of_ble_eq_true rfl) mrX1_goStep lkX4_146 rfl rfl rfl dX4_book_63 (Nat.le_of_ble_eq_true rfl) ?_
                refine r_iinc (lv' := [_, _, _, _, _, _]) dX4_book_66 (by decide) rfl (by first | exact inc1 _ | exact inc1_ _) rfl ?_
                refine r_goto 32 dX4_book_69 (by decide) ?_
                refine r_heq (h' := hX R K kp tc n T (updZ Z 3 ((Z 3).1, (Z 3).2.1, bkF (Z 3).1 (fun j => rS (stpN j R) p) (Z 3).2.2 (j + 1))) (stpN (j + 1) R) f1 (stpF (stpN j R)) f3 tok s b nu) (HE.of ?_) (ih (j + 1) _ (by omega))
                rw [stpN_s, ← bkF_s]
                rfl
          refine r_aload_n dX4_book_0 rfl ?_
          refine r_iload_n dX4_book_1 rfl ?_
          refine r_iload_n dX4_book_2 rfl ?_
          refine r_v2r (Z_fobD3 hm cy) (Nat.le_of_ble_eq_true rfl) mrX4_findingOfBook lkX4_225 rfl rfl rfl dX4_book_3 (Nat.le_of_ble_eq_true rfl) ?_
          refine r_istore_n (lv' := [_, _, _, _, _, _]) dX4_book_6 (by decide) rfl ?_
          refine r_iload_n dX4_book_7 rfl ?_
          refine r_if_eq 17 dX4_book_8 (by decide) (fun c8 => ?_) (fun c8 => ?_)
          · refine r_aload_n dX4_book_17 rfl ?_
            refine r_getfield dX4_book_18 gfX4_31 rfl rfl ?_
            refine r_iload_n dX4_book_21 rfl ?_
            refine r_aaldN dX4_book_22 rfl (by first | decide | omega) (Nat.le_of_ble_eq_true rfl) rfl ?_
            refine r_astore (lv' := [_, _, _, _, _, _]) dX4_book_23 (by decide) rfl ?_
            refine r_aload_n dX4_book_25 rfl ?_
            refine r_v0n Z_lookAhead (Nat.le_of_ble_eq_true rfl) mrX4_lookAhead lkX4_140 rfl rfl rfl dX4_book_26 (Nat.le_of_ble_eq_true rfl) ?_
            refine r_iconst (v := nI 0) dX4_book_29 (by decide) ?_
            refine r_istore (lv' := [_, _, _, _, _, _]) dX4_book_30 (by decide) rfl ?_
            refine r_lv (lv' := [_, _, _, none, _, _]) (lvDrop 3 rfl) ?_
            refine r_heq (h' := hX R K kp tc n T (updZ Z 3 ((Z 3).1, (Z 3).2.1, bkF (Z 3).1 (fun j => rS (stpN j R) p) (Z 3).2.2 0)) (stpN 0 R) f1 f2 f3 tok s b nu) ⟨CE.rf, CE.rf, CE.rf, CE.rf, CE.rf, CE.rf, CE.rf, CE.rf, CE.rf, CE.rf, CE.rf, CE.rf, CE.rf, CE.rf, CE.rf, CE.rf, CE.rf, CE.rf, CE.rf, CE.rf, CE.rf, CE.rf, CE.rf, CE.rf, CE.rf, CE.rf, CE.rf, CE.rf, CE.longs (fun j hj => rfl), trivial⟩ ?_
            exact L z 0 f2 (by omega)
          · exact absurd rfl c8
theorem Z_jst0 {R K : RS} {kp : Bool} {tc : Nat → Int32} {n : Nat} {T : Nat → Nat} {Z : Nat → SHT} {A : RS} {f1 f2 f3 tok : Int32} {s b : Nat} {nu : Int32} {p z : Nat} (hp : p < 8) (hn : cnt A ≤ 8) (hz : (Z 0).2.1 = nI z) (h4 : z ≤ 40) : SpQ 4 mX4_stumblesJustAs [.ref 0, .ref 21, .int (nI p)] (hX R K kp tc n T Z A f1 f2 f3 tok s b nu) (some (.int (bI (jst (Z 0).2.2 p z 0 A)))) (qX ((R, K, kp, tc), (n, T), Z)) := by
  refine SpQ.of [some (.ref 0), some (.ref 21), some (.int (nI p)), none] mrX4_stumblesJustAs.1 (fun _ q => qX_len q) (Nat.le_of_ble_eq_true rfl) rfl (fun X => ?_)
  have L : ∀ (k j : Nat) (A : RS) (f2 : Int32), cnt A ≤ 8 → j + k = z → RunQ X 4 mX4_stumblesJustAs 2 [some (.ref 0), some (.ref 21), some (.int (nI p)), some (.int (nI j))] [] (hX R K kp tc n T Z A f1 f2 f3 tok s b nu) (some (.int (bI (jst (Z 0).2.2 p k j A)))) (qX ((R, K, kp, tc), (n, T), Z)) := by
    intro k
    induction k with
    | zero =>
      intro j A f2 hn hj
      obtain rfl : j = z := by omega
      refine r_iload_n dX4_stumblesJustAs_2 rfl ?_
      refine r_aload_n dX4_stumblesJustAs_3 rfl ?_
      refine r_getfield dX4_stumblesJustAs_4 gfX4_191 rfl rfl ?_
      rw [hz]
      refine r_icmp_ge 45 dX4_stumblesJustAs_7 (by decide) (fun c7 => ?_) (fun c7 => ?_)
      · refine r_iconst (v := nI 1) dX4_stumblesJustAs_45 (by decide) ?_
        refine r_iret dX4_stumblesJustAs_46 rfl (by first | exact bI_nar _ | rfl) ?_ ?_
        · exact ret_t rfl
        · exact ⟨A, f1, f2, f3, tok, s, b, nu, HE.rf⟩
      · exact absurd (nI_le (Nat.le_refl _) (by omega)) c7
    | succ k ih =>
      intro j A f2 hn hj
      refine r_iload_n dX4_stumblesJustAs_2 rfl ?_
      refine r_aload_n dX4_stumblesJustAs_3 rfl ?_
      refine r_getfield dX4_stumblesJustAs_4 gfX4_191 rfl rfl ?_
      rw [hz]
      refine r_icmp_ge 45 dX4_stumblesJustAs_7 (by decide) (fun c7 => ?_) (fun c7 => ?_)
      · exact absurd c7 (nI_ge (by omega) (by omega))
      · refine r_aload_n dX4_stumblesJustAs_10 rfl ?_
        refine r_getfield dX4_stumblesJustAs_11 gfX4_198 rfl rfl ?_
        refine r_iload_n dX4_stumblesJustAs_14 rfl ?_
        refine r_laldN dX4_stumblesJustAs_15 rfl (by omega) (Nat.le_of_ble_eq_true rfl) rfl ?_
        refine r_aload_n dX4_stumblesJustAs_16 rfl ?_
        refine r_getfield dX4_stumblesJustAs_17 gfX4_16 rfl rfl ?_
        refine r_getfield dX4_stumblesJustAs_20 gfX4_104 rfl rfl ?_
        refine r_iload_n dX4_stumblesJustAs_23 rfl ?_
        refine r_ialdN dX4_stumblesJustAs_24 rfl (by omega) (Nat.le_of_ble_eq_true rfl) rfl ?_
        refine r_i2l dX4_stumblesJustAs_25 ?_
        refine r_lcmp dX4_stumblesJustAs_26 ?_
        refine r_if_eq 32 dX4_stumblesJustAs_27 (by decide) (fun c27 => ?_) (fun c27 => ?_)
        · refine r_aload_n dX4_stumblesJustAs_32 rfl ?_
          refine r_getfield dX4_stumblesJustAs_33 gfX4_16 rfl rfl ?_
          refine r_v0n (Z_goStep6 hn) (Nat.le_of_ble_eq_true rfl) mrX1_goStep lkX4_146 rfl rfl rfl dX4_stumblesJustAs_36 (Nat.le_of_ble_eq_true rfl) ?_
          refine r_iinc (lv' := [_, _, _, _]) dX4_stumblesJustAs_39 (by decide) rfl (by first | exact inc1 _ | exact inc1_ _) rfl ?_
          refine r_goto 2 dX4_stumblesJustAs_42 (by decide) ?_
          have e := ih (j + 1) (stp A) (stpF A) hn (by omega)
          rw [jst, decide_eq_true (cmp_0.mp c27)]
          exact e
        · refine r_iconst (v := nI 0) dX4_stumblesJustAs_30 (by decide) ?_
          refine r_iret dX4_stumblesJustAs_31 rfl (by first | exact bI_nar _ | rfl) ?_ ?_
          · exact ret_f (by rw [jst, decide_eq_false (fun z => c27 (cmp_0.mpr z))])
          · exact ⟨A, f1, f2, f3, tok, s, b, nu, HE.rf⟩
  refine r_iconst (v := nI 0) dX4_stumblesJustAs_0 (by decide) ?_
  refine r_istore_n (lv' := [_, _, _, _]) dX4_stumblesJustAs_1 (by decide) rfl ?_
  exact L z 0 A f2 hn (by omega)
theorem Z_jst1 {R K : RS} {kp : Bool} {tc : Nat → Int32} {n : Nat} {T : Nat → Nat} {Z : Nat → SHT} {A : RS} {f1 f2 f3 tok : Int32} {s b : Nat} {nu : Int32} {p z : Nat} (hp : p < 8) (hn : cnt A ≤ 8) (hz : (Z 1).2.1 = nI z) (h4 : z ≤ 40) : SpQ 4 mX4_stumblesJustAs [.ref 0, .ref 23, .int (nI p)] (hX R K kp tc n T Z A f1 f2 f3 tok s b nu) (some (.int (bI (jst (Z 1).2.2 p z 0 A)))) (qX ((R, K, kp, tc), (n, T), Z)) := by
  refine SpQ.of [some (.ref 0), some (.ref 23), some (.int (nI p)), none] mrX4_stumblesJustAs.1 (fun _ q => qX_len q) (Nat.le_of_ble_eq_true rfl) rfl (fun X => ?_)
  have L : ∀ (k j : Nat) (A : RS) (f2 : Int32), cnt A ≤ 8 → j + k = z → RunQ X 4 mX4_stumblesJustAs 2 [some (.ref 0), some (.ref 23), some (.int (nI p)), some (.int (nI j))] [] (hX R K kp tc n T Z A f1 f2 f3 tok s b nu) (some (.int (bI (jst (Z 1).2.2 p k j A)))) (qX ((R, K, kp, tc), (n, T), Z)) := by
    intro k
    induction k with
    | zero =>
      intro j A f2 hn hj
      obtain rfl : j = z := by omega
      refine r_iload_n dX4_stumblesJustAs_2 rfl ?_
      refine r_aload_n dX4_stumblesJustAs_3 rfl ?_
      refine r_getfield dX4_stumblesJustAs_4 gfX4_191 rfl rfl ?_
      rw [hz]
      refine r_icmp_ge 45 dX4_stumblesJustAs_7 (by decide) (fun c7 => ?_) (fun c7 => ?_)
      · refine r_iconst (v := nI 1) dX4_stumblesJustAs_45 (by decide) ?_
        refine r_iret dX4_stumblesJustAs_46 rfl (by first | exact bI_nar _ | rfl) ?_ ?_
        · exact ret_t rfl
        · exact ⟨A, f1, f2, f3, tok, s, b, nu, HE.rf⟩
      · exact absurd (nI_le (Nat.le_refl _) (by omega)) c7
    | succ k ih =>
      intro j A f2 hn hj
      refine r_iload_n dX4_stumblesJustAs_2 rfl ?_
      refine r_aload_n dX4_stumblesJustAs_3 rfl ?_
      refine r_getfield dX4_stumblesJustAs_4 gfX4_191 rfl rfl ?_
      rw [hz]
      refine r_icmp_ge 45 dX4_stumblesJustAs_7 (by decide) (fun c7 => ?_) (fun c7 => ?_)
      · exact absurd c7 (nI_ge (by omega) (by omega))
      · refine r_aload_n dX4_stumblesJustAs_10 rfl ?_
        refine r_getfield dX4_stumblesJustAs_11 gfX4_198 rfl rfl ?_
        refine r_iload_n dX4_stumblesJustAs_14 rfl ?_
        refine r_laldN dX4_stumblesJustAs_15 rfl (by omega) (Nat.le_of_ble_eq_true rfl) rfl ?_
        refine r_aload_n dX4_stumblesJustAs_16 rfl ?_
        refine r_getfield dX4_stumblesJustAs_17 gfX4_16 rfl rfl ?_
        refine r_getfield dX4_stumblesJustAs_20 gfX4_104 rfl rfl ?_
        refine r_iload_n dX4_stumblesJustAs_23 rfl ?_
        refine r_ialdN dX4_stumblesJustAs_24 rfl (by omega) (Nat.le_of_ble_eq_true rfl) rfl ?_
        refine r_i2l dX4_stumblesJustAs_25 ?_
        refine r_lcmp dX4_stumblesJustAs_26 ?_
        refine r_if_eq 32 dX4_stumblesJustAs_27 (by decide) (fun c27 => ?_) (fun c27 => ?_)
        · refine r_aload_n dX4_stumblesJustAs_32 rfl ?_
          refine r_getfield dX4_stumblesJustAs_33 gfX4_16 rfl rfl ?_
          refine r_v0n (Z_goStep6 hn) (Nat.le_of_ble_eq_true rfl) mrX1_goStep lkX4_146 rfl rfl rfl dX4_stumblesJustAs_36 (Nat.le_of_ble_eq_true rfl) ?_
          refine r_iinc (lv' := [_, _, _, _]) dX4_stumblesJustAs_39 (by decide) rfl (by first | exact inc1 _ | exact inc1_ _) rfl ?_
          refine r_goto 2 dX4_stumblesJustAs_42 (by decide) ?_
          have e := ih (j + 1) (stp A) (stpF A) hn (by omega)
          rw [jst, decide_eq_true (cmp_0.mp c27)]
          exact e
        · refine r_iconst (v := nI 0) dX4_stumblesJustAs_30 (by decide) ?_
          refine r_iret dX4_stumblesJustAs_31 rfl (by first | exact bI_nar _ | rfl) ?_ ?_
          · exact ret_f (by rw [jst, decide_eq_false (fun z => c27 (cmp_0.mpr z))])
          · exact ⟨A, f1, f2, f3, tok, s, b, nu, HE.rf⟩
  refine r_iconst (v := nI 0) dX4_stumblesJustAs_0 (by decide) ?_
  refine r_istore_n (lv' := [_, _, _, _]) dX4_stumblesJustAs_1 (by decide) rfl ?_
  exact L z 0 A f2 hn (by omega)
theorem Z_jst2 {R K : RS} {kp : Bool} {tc : Nat → Int32} {n : Nat} {T : Nat → Nat} {Z : Nat → SHT} {A : RS} {f1 f2 f3 tok : Int32} {s b : Nat} {nu : Int32} {p z : Nat} (hp : p < 8) (hn : cnt A ≤ 8) (hz : (Z 2).2.1 = nI z) (h4 : z ≤ 40) : SpQ 4 mX4_stumblesJustAs [.ref 0, .ref 25, .int (nI p)] (hX R K kp tc n T Z A f1 f2 f3 tok s b nu) (some (.int (bI (jst (Z 2).2.2 p z 0 A)))) (qX ((R, K, kp, tc), (n, T), Z)) := by
  refine SpQ.of [some (.ref 0), some (.ref 25), some (.int (nI p)), none] mrX4_stumblesJustAs.1 (fun _ q => qX_len q) (Nat.le_of_ble_eq_true rfl) rfl (fun X => ?_)
  have L : ∀ (k j : Nat) (A : RS) (f2 : Int32), cnt A ≤ 8 → j + k = z → RunQ X 4 mX4_stumblesJustAs 2 [some (.ref 0), some (.ref 25), some (.int (nI p)), some (.int (nI j))] [] (hX R K kp tc n T Z A f1 f2 f3 tok s b nu) (some (.int (bI (jst (Z 2).2.2 p k j A)))) (qX ((R, K, kp, tc), (n, T), Z)) := by
    intro k
    induction k with
    | zero =>
      intro j A f2 hn hj
      obtain rfl : j = z := by omega
      refine r_iload_n dX4_stumblesJustAs_2 rfl ?_
      refine r_aload_n dX4_stumblesJustAs_3 rfl ?_
      refine r_getfield dX4_stumblesJustAs_4 gfX4_191 rfl rfl ?_
      rw [hz]
      refine r_icmp_ge 45 dX4_stumblesJustAs_7 (by decide) (fun c7 => ?_) (fun c7 => ?_)
      · refine r_iconst (v := nI 1) dX4_stumblesJustAs_45 (by decide) ?_
        refine r_iret dX4_stumblesJustAs_46 rfl (by first | exact bI_nar _ | rfl) ?_ ?_
        · exact ret_t rfl
        · exact ⟨A, f1, f2, f3, tok, s, b, nu, HE.rf⟩
      · exact absurd (nI_le (Nat.le_refl _) (by omega)) c7
    | succ k ih =>
      intro j A f2 hn hj
      refine r_iload_n dX4_stumblesJustAs_2 rfl ?_
      refine r_aload_n dX4_stumblesJustAs_3 rfl ?_
      refine r_getfield dX4_stumblesJustAs_4 gfX4_191 rfl rfl ?_
      rw [hz]
      refine r_icmp_ge 45 dX4_stumblesJustAs_7 (by decide) (fun c7 => ?_) (fun c7 => ?_)
      · exact absurd c7 (nI_ge (by omega) (by omega))
      · refine r_aload_n dX4_stumblesJustAs_10 rfl ?_
        refine r_getfield dX4_stumblesJustAs_11 gfX4_198 rfl rfl ?_
        refine r_iload_n dX4_stumblesJustAs_14 rfl ?_
        refine r_laldN dX4_stumblesJustAs_15 rfl (by omega) (Nat.le_of_ble_eq_true rfl) rfl ?_
        refine r_aload_n dX4_stumblesJustAs_16 rfl ?_
        refine r_getfield dX4_stumblesJustAs_17 gfX4_16 rfl rfl ?_
        refine r_getfield dX4_stumblesJustAs_20 gfX4_104 rfl rfl ?_
        refine r_iload_n dX4_stumblesJustAs_23 rfl ?_
        refine r_ialdN dX4_stumblesJustAs_24 rfl (by omega) (Nat.le_of_ble_eq_true rfl) rfl ?_
        refine r_i2l dX4_stumblesJustAs_25 ?_
        refine r_lcmp dX4_stumblesJustAs_26 ?_
        refine r_if_eq 32 dX4_stumblesJustAs_27 (by decide) (fun c27 => ?_) (fun c27 => ?_)
        · refine r_aload_n dX4_stumblesJustAs_32 rfl ?_
          refine r_getfield dX4_stumblesJustAs_33 gfX4_16 rfl rfl ?_
          refine r_v0n (Z_goStep6 hn) (Nat.le_of_ble_eq_true rfl) mrX1_goStep lkX4_146 rfl rfl rfl dX4_stumblesJustAs_36 (Nat.le_of_ble_eq_true rfl) ?_
          refine r_iinc (lv' := [_, _, _, _]) dX4_stumblesJustAs_39 (by decide) rfl (by first | exact inc1 _ | exact inc1_ _) rfl ?_
          refine r_goto 2 dX4_stumblesJustAs_42 (by decide) ?_
          have e := ih (j + 1) (stp A) (stpF A) hn (by omega)
          rw [jst, decide_eq_true (cmp_0.mp c27)]
          exact e
        · refine r_iconst (v := nI 0) dX4_stumblesJustAs_30 (by decide) ?_
          refine r_iret dX4_stumblesJustAs_31 rfl (by first | exact bI_nar _ | rfl) ?_ ?_
          · exact ret_f (by rw [jst, decide_eq_false (fun z => c27 (cmp_0.mpr z))])
          · exact ⟨A, f1, f2, f3, tok, s, b, nu, HE.rf⟩
  refine r_iconst (v := nI 0) dX4_stumblesJustAs_0 (by decide) ?_
  refine r_istore_n (lv' := [_, _, _, _]) dX4_stumblesJustAs_1 (by decide) rfl ?_
  exact L z 0 A f2 hn (by omega)
theorem Z_jst3 {R K : RS} {kp : Bool} {tc : Nat → Int32} {n : Nat} {T : Nat → Nat} {Z : Nat → SHT} {A : RS} {f1 f2 f3 tok : Int32} {s b : Nat} {nu : Int32} {p z : Nat} (hp : p < 8) (hn : cnt A ≤ 8) (hz : (Z 3).2.1 = nI z) (h4 : z ≤ 40) : SpQ 4 mX4_stumblesJustAs [.ref 0, .ref 27, .int (nI p)] (hX R K kp tc n T Z A f1 f2 f3 tok s b nu) (some (.int (bI (jst (Z 3).2.2 p z 0 A)))) (qX ((R, K, kp, tc), (n, T), Z)) := by
  refine SpQ.of [some (.ref 0), some (.ref 27), some (.int (nI p)), none] mrX4_stumblesJustAs.1 (fun _ q => qX_len q) (Nat.le_of_ble_eq_true rfl) rfl (fun X => ?_)
  have L : ∀ (k j : Nat) (A : RS) (f2 : Int32), cnt A ≤ 8 → j + k = z → RunQ X 4 mX4_stumblesJustAs 2 [some (.ref 0), some (.ref 27), some (.int (nI p)), some (.int (nI j))] [] (hX R K kp tc n T Z A f1 f2 f3 tok s b nu) (some (.int (bI (jst (Z 3).2.2 p k j A)))) (qX ((R, K, kp, tc), (n, T), Z)) := by
    intro k
    induction k with
    | zero =>
      intro j A f2 hn hj
      obtain rfl : j = z := by omega
      refine r_iload_n dX4_stumblesJustAs_2 rfl ?_
      refine r_aload_n dX4_stumblesJustAs_3 rfl ?_
      refine r_getfield dX4_stumblesJustAs_4 gfX4_191 rfl rfl ?_
      rw [hz]
      refine r_icmp_ge 45 dX4_stumblesJustAs_7 (by decide) (fun c7 => ?_) (fun c7 => ?_)
      · refine r_iconst (v := nI 1) dX4_stumblesJustAs_45 (by decide) ?_
        refine r_iret dX4_stumblesJustAs_46 rfl (by first | exact bI_nar _ | rfl) ?_ ?_
        · exact ret_t rfl
        · exact ⟨A, f1, f2, f3, tok, s, b, nu, HE.rf⟩
      · exact absurd (nI_le (Nat.le_refl _) (by omega)) c7
    | succ k ih =>
      intro j A f2 hn hj
      refine r_iload_n dX4_stumblesJustAs_2 rfl ?_
      refine r_aload_n dX4_stumblesJustAs_3 rfl ?_
      refine r_getfield dX4_stumblesJustAs_4 gfX4_191 rfl rfl ?_
      rw [hz]
      refine r_icmp_ge 45 dX4_stumblesJustAs_7 (by decide) (fun c7 => ?_) (fun c7 => ?_)
      · exact absurd c7 (nI_ge (by omega) (by omega))
      · refine r_aload_n dX4_stumblesJustAs_10 rfl ?_
        refine r_getfield dX4_stumblesJustAs_11 gfX4_198 rfl rfl ?_
        refine r_iload_n dX4_stumblesJustAs_14 rfl ?_
        refine r_laldN dX4_stumblesJustAs_15 rfl (by omega) (Nat.le_of_ble_eq_true rfl) rfl ?_
        refine r_aload_n dX4_stumblesJustAs_16 rfl ?_
        refine r_getfield dX4_stumblesJustAs_17 gfX4_16 rfl rfl ?_
        refine r_getfield dX4_stumblesJustAs_20 gfX4_104 rfl rfl ?_
        refine r_iload_n dX4_stumblesJustAs_23 rfl ?_
        refine r_ialdN dX4_stumblesJustAs_24 rfl (by omega) (Nat.le_of_ble_eq_true rfl) rfl ?_
        refine r_i2l dX4_stumblesJustAs_25 ?_
        refine r_lcmp dX4_stumblesJustAs_26 ?_
        refine r_if_eq 32 dX4_stumblesJustAs_27 (by decide) (fun c27 => ?_) (fun c27 => ?_)
        · refine r_aload_n dX4_stumblesJustAs_32 rfl ?_
          refine r_getfield dX4_stumblesJustAs_33 gfX4_16 rfl rfl ?_
          refine r_v0n (Z_goStep6 hn) (Nat.le_of_ble_eq_true rfl) mrX1_goStep lkX4_146 rfl rfl rfl dX4_stumblesJustAs_36 (Nat.le_of_ble_eq_true rfl) ?_
          refine r_iinc (lv' := [_, _, _, _]) dX4_stumblesJustAs_39 (by decide) rfl (by first | exact inc1 _ | exact inc1_ _) rfl ?_
          refine r_goto 2 dX4_stumblesJustAs_42 (by decide) ?_
          have e := ih (j + 1) (stp A) (stpF A) hn (by omega)
          rw [jst, decide_eq_true (cmp_0.mp c27)]
          exact e
        · refine r_iconst (v := nI 0) dX4_stumblesJustAs_30 (by decide) ?_
          refine r_iret dX4_stumblesJustAs_31 rfl (by first | exact bI_nar _ | rfl) ?_ ?_
          · exact ret_f (by rw [jst, decide_eq_false (fun z => c27 (cmp_0.mpr z))])
          · exact ⟨A, f1, f2, f3, tok, s, b, nu, HE.rf⟩
  refine r_iconst (v := nI 0) dX4_stumblesJustAs_0 (by decide) ?_
  refine r_istore_n (lv' := [_, _, _, _]) dX4_stumblesJustAs_1 (by decide) rfl ?_
  exact L z 0 A f2 hn (by omega)
theorem X_read {R K : RS} {kp : Bool} {tc : Nat → Int32} {n : Nat} {T : Nat → Nat} {Z : Nat → SHT} {A : RS} {f1 f2 f3 tok : Int32} {s b : Nat} {nu : Int32} {x y : Int32} (hZ : wfZ Z) (hc : cnt R ≤ 8) : SpQ 11 mX4_read [.ref 0, .int x, .int y] (hX R K kp tc n T Z A f1 f2 f3 tok s b nu) (some (.int (o_read ((R, K, kp, tc), (n, T), Z) x y).1)) (qX (o_read ((R, K, kp, tc), (n, T), Z) x y).2) := by
  refine SpQ.of [some (.ref 0), some (.int x), some (.int y), none, none, none, none] mrX4_read.1 (fun _ q => qX_len q) (Nat.le_of_ble_eq_true rfl) rfl (fun X => ?_)
  have e0 : ∀ i, i < 100 → tn (nI i) = i := fun i hi => nI_clamp (by omega)
  cases cx : inR x (nI 0) (nI 3) with
  | false =>
    rw [o_read, bkL, cx]
    refine r_aload_n dX4_read_0 rfl ?_
    refine r_iload_n dX4_read_1 rfl ?_
    refine r_iload_n dX4_read_2 rfl ?_
    refine r_v2r (Z_fobA cx) (Nat.le_of_ble_eq_true rfl) mrX4_findingOfBook lkX4_225 rfl rfl rfl dX4_read_3 (Nat.le_of_ble_eq_true rfl) ?_
    refine r_istore_n (lv' := [_, _, _, _, _, _, _]) dX4_read_6 (by decide) rfl ?_
    refine r_iload_n dX4_read_7 rfl ?_
    refine r_if_eq 17 dX4_read_8 (by decide) (fun c8 => ?_) (fun c8 => ?_)
    · exact absurd c8 (by decide)
    · refine r_aload_n dX4_read_11 rfl ?_
      refine r_iload_n dX4_read_12 rfl ?_
      refine r_v1r (Z_tell 0 (by decide) (by decide)) (Nat.le_of_ble_eq_true rfl) mrX4_tell lkX4_46 rfl rfl rfl dX4_read_13 (Nat.le_of_ble_eq_true rfl) ?_
      refine r_iret dX4_read_16 rfl rfl ?_ ?_
      · rfl
      · exact ⟨A, f1, f2, f3, tok, s, b, nu, HE.rf⟩
  | true =>
    obtain ⟨i, -, hi, rfl⟩ := inR_of cx (by decide) (by decide)
    obtain ⟨z, hz, ez⟩ := hZ i (by omega)
    have t1 : tn (Z i).2.1 = z := by rw [ez]; exact e0 z (by omega)
    rw [o_read, bkL, cx]
    dsimp only
    rw [e0 i (by omega), t1]
    rcases (show i = 0 ∨ i = 1 ∨ i = 2 ∨ i = 3 by omega) with rfl | rfl | rfl | rfl
    · by_cases hm : (Z 0).1 = 0
      · rw [if_pos hm]
        refine r_aload_n dX4_read_0 rfl ?_
        refine r_iload_n dX4_read_1 rfl ?_
        refine r_iload_n dX4_read_2 rfl ?_
        refine r_v2r (Z_fobB0 hm) (Nat.le_of_ble_eq_true rfl) mrX4_findingOfBook lkX4_225 rfl rfl rfl dX4_read_3 (Nat.le_of_ble_eq_true rfl) ?_
        refine r_istore_n (lv' := [_, _, _, _, _, _, _]) dX4_read_6 (by decide) rfl ?_
        refine r_iload_n dX4_read_7 rfl ?_
        refine r_if_eq 17 dX4_read_8 (by decide) (fun c8 => ?_) (fun c8 => ?_)
        · exact absurd c8 (by decide)
        · refine r_aload_n dX4_read_11 rfl ?_
          refine r_iload_n dX4_read_12 rfl ?_
          refine r_v1r (Z_tell 5 (by decide) (by decide)) (Nat.le_of_ble_eq_true rfl) mrX4_tell lkX4_46 rfl rfl rfl dX4_read_13 (Nat.le_of_ble_eq_true rfl) ?_
          refine r_iret dX4_read_16 rfl rfl ?_ ?_
          · rfl
          · exact ⟨A, f1, f2, f3, tok, s, b, nu, HE.rf⟩
      · rw [if_neg hm]
        cases cy : hasB (cnt R) y with
        | false =>
          refine r_aload_n dX4_read_0 rfl ?_
          refine r_iload_n dX4_read_1 rfl ?_
          refine r_iload_n dX4_read_2 rfl ?_
          refine r_v2r (Z_fobC0 hm cy) (Nat.le_of_ble_eq_true rfl) mrX4_findingOfBook lkX4_225 rfl rfl rfl dX4_read_3 (Nat.le_of_ble_eq_true rfl) ?_
          refine r_istore_n (lv' := [_, _, _, _, _, _, _]) dX4_read_6 (by decide) rfl ?_
          refine r_iload_n dX4_read_7 rfl ?_
          refine r_if_eq 17 dX4_read_8 (by decide) (fun c8 => ?_) (fun c8 => ?_)
          · exact absurd c8 (by decide)
          · refine r_aload_n dX4_read_11 rfl ?_
            refine r_iload_n dX4_read_12 rfl ?_
            refine r_v1r (Z_tell 0 (by decide) (by decide)) (Nat.le_of_ble_eq_true rfl) mrX4_tell lkX4_46 rfl rfl rfl dX4_read_13 (Nat.le_of_ble_eq_true rfl) ?_
            refine r_iret dX4_read_16 rfl rfl ?_ ?_
            · rfl
            · exact ⟨A, f1, f2, f3, tok, s, b, nu, HE.rf⟩
        | true =>
          obtain ⟨p, hp, rfl⟩ := hasB_of cy (by omega)
          rw [e0 p (by omega)]
          have L2 : ∀ (k : Nat), k < 6 → ∀ (u q : Nat) (A : RS) (f1 f2 f3 tok : Int32) (s b : Nat) (nu : Int32), q + u = 10 → (∀ (A : RS) (f1 f2 f3 tok : Int32) (s b : Nat) (nu : Int32), RunQ X 11 mX4_read 87 [some (.ref 0), some (.int (nI 0)), some (.int (nI p)), none, some (.int (rdN R (Z 0).2.2 p z (10 * k + 10))), some (.int (nI k)), none] [] (hX R K kp tc n T Z A f1 f2 f3 tok s b nu) (some (.int (rdN R (Z 0).2.2 p z 60))) (qX ((R, K, kp, tc), (n, T), Z))) → RunQ X 11 mX4_read 33 [some (.ref 0), some (.int (nI 0)), some (.int (nI p)), none, some (.int (rdN R (Z 0).2.2 p z (10 * k + q))), some (.int (nI k)), some (.int (nI q))] [] (hX R K kp tc n T Z A f1 f2 f3 tok s b nu) (some (.int (rdN R (Z 0).2.2 p z 60))) (qX ((R, K, kp, tc), (n, T), Z)) := by
            intro k hk u
            induction u with
            | zero =>
              intro q A f1 f2 f3 tok s b nu hq kk
              obtain rfl : q = 10 := by omega
              refine r_iload dX4_read_33 rfl ?_
              refine r_bipush (v := nI 9) dX4_read_35 (by decide) ?_
              refine r_icmp_gt 87 dX4_read_37 (by decide) (fun c37 => ?_) (fun c37 => ?_)
              · exact r_lv (lv' := [_, _, _, _, _, _, none]) (lvDrop 6 rfl) (kk A f1 f2 f3 tok s b nu)
              · exact absurd (nI_lt (by omega) (by omega)) c37
            | succ u ih =>
              intro q A f1 f2 f3 tok s b nu hq kk
              refine r_iload dX4_read_33 rfl ?_
              refine r_bipush (v := nI 9) dX4_read_35 (by decide) ?_
              refine r_icmp_gt 87 dX4_read_37 (by decide) (fun c37 => ?_) (fun c37 => ?_)
              · exact absurd c37 (nI_nlt (by omega) (by omega))
              · refine r_aload_n dX4_read_40 rfl ?_
                refine r_v0n Z_lookAhead (Nat.le_of_ble_eq_true rfl) mrX4_lookAhead lkX4_140 rfl rfl rfl dX4_read_41 (Nat.le_of_ble_eq_true rfl) ?_
                refine r_aload_n dX4_read_44 rfl ?_
                refine r_getfield dX4_read_45 gfX4_16 rfl rfl ?_
                refine r_getfield dX4_read_48 gfX4_95 rfl rfl ?_
                refine r_iload_n dX4_read_51 rfl ?_
                refine r_iload dX4_read_52 rfl ?_
                refine r_iastN (h' := [_, _, _, _, _, _, _, _, _, _, _, _, _, _, _, _, _, _, _, _, _, _, _, _, _, _, _, _, _]) dX4_read_54 rfl (by omega) (Nat.le_of_ble_eq_true rfl) rfl ?_
                refine r_aload_n dX4_read_55 rfl ?_
                refine r_getfield dX4_read_56 gfX4_16 rfl rfl ?_
                refine r_iload dX4_read_59 rfl ?_
                refine r_putfield (fs' := [_, _, _, _, _, _, _, _, _, _]) (h' := [_, _, _, _, _, _, _, _, _, _, _, _, _, _, _, _, _, _, _, _, _, _, _, _, _, _, _, _, _]) dX4_read_61 pfX4_61 rfl (Nat.le_of_ble_eq_true rfl) (fun _ => rfl) rfl rfl rfl rfl ?_
                refine r_aload_n dX4_read_64 rfl ?_
                refine r_aload_n dX4_read_65 rfl ?_
                refine r_getfield dX4_read_66 gfX4_31 rfl rfl ?_
                refine r_iload_n dX4_read_69 rfl ?_
                refine r_aaldN dX4_read_70 rfl (by first | decide | omega) (Nat.le_of_ble_eq_true rfl) rfl ?_
                refine r_iload_n dX4_read_71 rfl ?_
                refine r_v2rq (Z_jst0 (A := (sB (sK R (upd (rK R) p (nI k))) (nI q))) (p := p) (z := z) (by omega) hc ez hz) (Nat.le_of_ble_eq_true rfl) mrX4_stumblesJustAs lkX4_228 rfl rfl rfl dX4_read_72 (Nat.le_of_ble_eq_true rfl) (fun h9 _ q9 => ?_)
                obtain ⟨A9, g1, g2, g3, t9, s9, b9, v9, q9⟩ := q9
                refine r_heq q9 ?_
                refine r_if_eqB 81 dX4_read_75 (by decide) (fun c75 => ?_) (fun c75 => ?_)
                · refine r_iinc (lv' := [_, _, _, _, _, _, _]) dX4_read_81 (by decide) rfl (by first | exact inc1 _ | exact inc1_ _) rfl ?_
                  refine r_goto 33 dX4_read_84 (by decide) ?_
                  have e := ih (q + 1) A9 g1 g2 g3 t9 s9 b9 v9 (by omega) kk
                  rw [show 10 * k + (q + 1) = (10 * k + q) + 1 by omega, rdN, show (10 * k + q) / 10 = k by omega, show (10 * k + q) % 10 = q by omega, c75] at e
                  exact e
                · refine r_iinc (lv' := [_, _, _, _, _, _, _]) dX4_read_78 (by decide) rfl (by first | exact inc1 _ | exact inc1_ _) rfl ?_
                  refine r_iinc (lv' := [_, _, _, _, _, _, _]) dX4_read_81 (by decide) rfl (by first | exact inc1 _ | exact inc1_ _) rfl ?_
                  refine r_goto 33 dX4_read_84 (by decide) ?_
                  have e := ih (q + 1) A9 g1 g2 g3 t9 s9 b9 v9 (by omega) kk
                  rw [show 10 * k + (q + 1) = (10 * k + q) + 1 by omega, rdN, show (10 * k + q) / 10 = k by omega, show (10 * k + q) % 10 = q by omega, c75] at e
                  exact e
          have L1 : ∀ (u k : Nat) (A : RS) (f1 f2 f3 tok : Int32) (s b : Nat) (nu : Int32), k + u = 6 → RunQ X 11 mX4_read 23 [some (.ref 0), some (.int (nI 0)), some (.int (nI p)), none, some (.int (rdN R (Z 0).2.2 p z (10 * k))), some (.int (nI k)), none] [] (hX R K kp tc n T Z A f1 f2 f3 tok s b nu) (some (.int (rdN R (Z 0).2.2 p z 60))) (qX ((R, K, kp, tc), (n, T), Z)) := by
            intro u
            induction u with
            | zero =>
              intro k A f1 f2 f3 tok s b nu hk
              obtain rfl : k = 6 := by omega
              refine r_iload dX4_read_23 rfl ?_
              refine r_bipush (v := nI 6) dX4_read_25 (by decide) ?_
              refine r_icmp_ge 93 dX4_read_27 (by decide) (fun c27 => ?_) (fun c27 => ?_)
              · refine r_iload dX4_read_93 rfl ?_
                refine r_iret dX4_read_95 rfl rfl ?_ ?_
                · rfl
                · exact ⟨A, f1, f2, f3, tok, s, b, nu, HE.rf⟩
              · exact absurd (nI_le (Nat.le_refl _) (by omega)) c27
            | succ u ih =>
              intro k A f1 f2 f3 tok s b nu hk
              refine r_iload dX4_read_23 rfl ?_
              refine r_bipush (v := nI 6) dX4_read_25 (by decide) ?_
              refine r_icmp_ge 93 dX4_read_27 (by decide) (fun c27 => ?_) (fun c27 => ?_)
              · exact absurd c27 (nI_ge (by omega) (by omega))
              · refine r_iconst (v := nI 0) dX4_read_30 (by decide) ?_
                refine r_istore (lv' := [_, _, _, _, _, _, _]) dX4_read_31 (by decide) rfl ?_
                refine L2 k (by omega) 10 0 A f1 f2 f3 tok s b nu (by omega) (fun A f1 f2 f3 tok s b nu => ?_)
                refine r_iinc (lv' := [_, _, _, _, _, _, _]) dX4_read_87 (by decide) rfl (inc1 _) rfl ?_
                refine r_goto 23 dX4_read_90 (by decide) ?_
                exact ih (k + 1) A f1 f2 f3 tok s b nu (by omega)
          refine r_aload_n dX4_read_0 rfl ?_
          refine r_iload_n dX4_read_1 rfl ?_
          refine r_iload_n dX4_read_2 rfl ?_
          refine r_v2r (Z_fobD0 hm cy) (Nat.le_of_ble_eq_true rfl) mrX4_findingOfBook lkX4_225 rfl rfl rfl dX4_read_3 (Nat.le_of_ble_eq_true rfl) ?_
          refine r_istore_n (lv' := [_, _, _, _, _, _, _]) dX4_read_6 (by decide) rfl ?_
          refine r_iload_n dX4_read_7 rfl ?_
          refine r_if_eq 17 dX4_read_8 (by decide) (fun c8 => ?_) (fun c8 => ?_)
          · refine r_iconst (v := nI 0) dX4_read_17 (by decide) ?_
            refine r_istore (lv' := [_, _, _, _, _, _, _]) dX4_read_18 (by decide) rfl ?_
            refine r_iconst (v := nI 0) dX4_read_20 (by decide) ?_
            refine r_istore (lv' := [_, _, _, _, _, _, _]) dX4_read_21 (by decide) rfl ?_
            refine r_lv (lv' := [_, _, _, none, _, _, _]) (lvDrop 3 rfl) ?_
            exact L1 6 0 A f1 f2 f3 tok s b nu (by omega)
          · exact absurd rfl c8
    · by_cases hm : (Z 1).1 = 0
      · rw [if_pos hm]
        refine r_aload_n dX4_read_0 rfl ?_
        refine r_iload_n dX4_read_1 rfl ?_
        refine r_iload_n dX4_read_2 rfl ?_
        refine r_v2r (Z_fobB1 hm) (Nat.le_of_ble_eq_true rfl) mrX4_findingOfBook lkX4_225 rfl rfl rfl dX4_read_3 (Nat.le_of_ble_eq_true rfl) ?_
        refine r_istore_n (lv' := [_, _, _, _, _, _, _]) dX4_read_6 (by decide) rfl ?_
        refine r_iload_n dX4_read_7 rfl ?_
        refine r_if_eq 17 dX4_read_8 (by decide) (fun c8 => ?_) (fun c8 => ?_)
        · exact absurd c8 (by decide)
        · refine r_aload_n dX4_read_11 rfl ?_
          refine r_iload_n dX4_read_12 rfl ?_
          refine r_v1r (Z_tell 5 (by decide) (by decide)) (Nat.le_of_ble_eq_true rfl) mrX4_tell lkX4_46 rfl rfl rfl dX4_read_13 (Nat.le_of_ble_eq_true rfl) ?_
          refine r_iret dX4_read_16 rfl rfl ?_ ?_
          · rfl
          · exact ⟨A, f1, f2, f3, tok, s, b, nu, HE.rf⟩
      · rw [if_neg hm]
        cases cy : hasB (cnt R) y with
        | false =>
          refine r_aload_n dX4_read_0 rfl ?_
          refine r_iload_n dX4_read_1 rfl ?_
          refine r_iload_n dX4_read_2 rfl ?_
          refine r_v2r (Z_fobC1 hm cy) (Nat.le_of_ble_eq_true rfl) mrX4_findingOfBook lkX4_225 rfl rfl rfl dX4_read_3 (Nat.le_of_ble_eq_true rfl) ?_
          refine r_istore_n (lv' := [_, _, _, _, _, _, _]) dX4_read_6 (by decide) rfl ?_
          refine r_iload_n dX4_read_7 rfl ?_
          refine r_if_eq 17 dX4_read_8 (by decide) (fun c8 => ?_) (fun c8 => ?_)
          · exact absurd c8 (by decide)
          · refine r_aload_n dX4_read_11 rfl ?_
            refine r_iload_n dX4_read_12 rfl ?_
            refine r_v1r (Z_tell 0 (by decide) (by decide)) (Nat.le_of_ble_eq_true rfl) mrX4_tell lkX4_46 rfl rfl rfl dX4_read_13 (Nat.le_of_ble_eq_true rfl) ?_
            refine r_iret dX4_read_16 rfl rfl ?_ ?_
            · rfl
            · exact ⟨A, f1, f2, f3, tok, s, b, nu, HE.rf⟩
        | true =>
          obtain ⟨p, hp, rfl⟩ := hasB_of cy (by omega)
          rw [e0 p (by omega)]
          have L2 : ∀ (k : Nat), k < 6 → ∀ (u q : Nat) (A : RS) (f1 f2 f3 tok : Int32) (s b : Nat) (nu : Int32), q + u = 10 → (∀ (A : RS) (f1 f2 f3 tok : Int32) (s b : Nat) (nu : Int32), RunQ X 11 mX4_read 87 [some (.ref 0), some (.int (nI 1)), some (.int (nI p)), none, some (.int (rdN R (Z 1).2.2 p z (10 * k + 10))), some (.int (nI k)), none] [] (hX R K kp tc n T Z A f1 f2 f3 tok s b nu) (some (.int (rdN R (Z 1).2.2 p z 60))) (qX ((R, K, kp, tc), (n, T), Z))) → RunQ X 11 mX4_read 33 [some (.ref 0), some (.int (nI 1)), some (.int (nI p)), none, some (.int (rdN R (Z 1).2.2 p z (10 * k + q))), some (.int (nI k)), some (.int (nI q))] [] (hX R K kp tc n T Z A f1 f2 f3 tok s b nu) (some (.int (rdN R (Z 1).2.2 p z 60))) (qX ((R, K, kp, tc), (n, T), Z)) := by
            intro k hk u
            induction u with
            | zero =>
              intro q A f1 f2 f3 tok s b nu hq kk
              obtain rfl : q = 10 := by omega
              refine r_iload dX4_read_33 rfl ?_
              refine r_bipush (v := nI 9) dX4_read_35 (by decide) ?_
              refine r_icmp_gt 87 dX4_read_37 (by decide) (fun c37 => ?_) (fun c37 => ?_)
              · exact r_lv (lv' := [_, _, _, _, _, _, none]) (lvDrop 6 rfl) (kk A f1 f2 f3 tok s b nu)
              · exact absurd (nI_lt (by omega) (by omega)) c37
            | succ u ih =>
              intro q A f1 f2 f3 tok s b nu hq kk
              refine r_iload dX4_read_33 rfl ?_
              refine r_bipush (v := nI 9) dX4_read_35 (by decide) ?_
              refine r_icmp_gt 87 dX4_read_37 (by decide) (fun c37 => ?_) (fun c37 => ?_)
              · exact absurd c37 (nI_nlt (by omega) (by omega))
              · refine r_aload_n dX4_read_40 rfl ?_
                refine r_v0n Z_lookAhead (Nat.le_of_ble_eq_true rfl) mrX4_lookAhead lkX4_140 rfl rfl rfl dX4_read_41 (Nat.le_of_ble_eq_true rfl) ?_
                refine r_aload_n dX4_read_44 rfl ?_
                refine r_getfield dX4_read_45 gfX4_16 rfl rfl ?_
                refine r_getfield dX4_read_48 gfX4_95 rfl rfl ?_
                refine r_iload_n dX4_read_51 rfl ?_
                refine r_iload dX4_read_52 rfl ?_
                refine r_iastN (h' := [_, _, _, _, _, _, _, _, _, _, _, _, _, _, _, _, _, _, _, _, _, _, _, _, _, _, _, _, _]) dX4_read_54 rfl (by omega) (Nat.le_of_ble_eq_true rfl) rfl ?_
                refine r_aload_n dX4_read_55 rfl ?_
                refine r_getfield dX4_read_56 gfX4_16 rfl rfl ?_
                refine r_iload dX4_read_59 rfl ?_
                refine r_putfield (fs' := [_, _, _, _, _, _, _, _, _, _]) (h' := [_, _, _, _, _, _, _, _, _, _, _, _, _, _, _, _, _, _, _, _, _, _, _, _, _, _, _, _, _]) dX4_read_61 pfX4_61 rfl (Nat.le_of_ble_eq_true rfl) (fun _ => rfl) rfl rfl rfl rfl ?_
                refine r_aload_n dX4_read_64 rfl ?_
                refine r_aload_n dX4_read_65 rfl ?_
                refine r_getfield dX4_read_66 gfX4_31 rfl rfl ?_
                refine r_iload_n dX4_read_69 rfl ?_
                refine r_aaldN dX4_read_70 rfl (by first | decide | omega) (Nat.le_of_ble_eq_true rfl) rfl ?_
                refine r_iload_n dX4_read_71 rfl ?_
                refine r_v2rq (Z_jst1 (A := (sB (sK R (upd (rK R) p (nI k))) (nI q))) (p := p) (z := z) (by omega) hc ez hz) (Nat.le_of_ble_eq_true rfl) mrX4_stumblesJustAs lkX4_228 rfl rfl rfl dX4_read_72 (Nat.le_of_ble_eq_true rfl) (fun h9 _ q9 => ?_)
                obtain ⟨A9, g1, g2, g3, t9, s9, b9, v9, q9⟩ := q9
                refine r_heq q9 ?_
                refine r_if_eqB 81 dX4_read_75 (by decide) (fun c75 => ?_) (fun c75 => ?_)
                · refine r_iinc (lv' := [_, _, _, _, _, _, _]) dX4_read_81 (by decide) rfl (by first | exact inc1 _ | exact inc1_ _) rfl ?_
                  refine r_goto 33 dX4_read_84 (by decide) ?_
                  have e := ih (q + 1) A9 g1 g2 g3 t9 s9 b9 v9 (by omega) kk
                  rw [show 10 * k + (q + 1) = (10 * k + q) + 1 by omega, rdN, show (10 * k + q) / 10 = k by omega, show (10 * k + q) % 10 = q by omega, c75] at e
                  exact e
                · refine r_iinc (lv' := [_, _, _, _, _, _, _]) dX4_read_78 (by decide) rfl (by first | exact inc1 _ | exact inc1_ _) rfl ?_
                  refine r_iinc (lv' := [_, _, _, _, _, _, _]) dX4_read_81 (by decide) rfl (by first | exact inc1 _ | exact inc1_ _) rfl ?_
                  refine r_goto 33 dX4_read_84 (by decide) ?_
                  have e := ih (q + 1) A9 g1 g2 g3 t9 s9 b9 v9 (by omega) kk
                  rw [show 10 * k + (q + 1) = (10 * k + q) + 1 by omega, rdN, show (10 * k + q) / 10 = k by omega, show (10 * k + q) % 10 = q by omega, c75] at e
                  exact e
          have L1 : ∀ (u k : Nat) (A : RS) (f1 f2 f3 tok : Int32) (s b : Nat) (nu : Int32), k + u = 6 → RunQ X 11 mX4_read 23 [some (.ref 0), some (.int (nI 1)), some (.int (nI p)), none, some (.int (rdN R (Z 1).2.2 p z (10 * k))), some (.int (nI k)), none] [] (hX R K kp tc n T Z A f1 f2 f3 tok s b nu) (some (.int (rdN R (Z 1).2.2 p z 60))) (qX ((R, K, kp, tc), (n, T), Z)) := by
            intro u
            induction u with
            | zero =>
              intro k A f1 f2 f3 tok s b nu hk
              obtain rfl : k = 6 := by omega
              refine r_iload dX4_read_23 rfl ?_
              refine r_bipush (v := nI 6) dX4_read_25 (by decide) ?_
              refine r_icmp_ge 93 dX4_read_27 (by decide) (fun c27 => ?_) (fun c27 => ?_)
              · refine r_iload dX4_read_93 rfl ?_
                refine r_iret dX4_read_95 rfl rfl ?_ ?_
                · rfl
                · exact ⟨A, f1, f2, f3, tok, s, b, nu, HE.rf⟩
              · exact absurd (nI_le (Nat.le_refl _) (by omega)) c27
            | succ u ih =>
              intro k A f1 f2 f3 tok s b nu hk
              refine r_iload dX4_read_23 rfl ?_
              refine r_bipush (v := nI 6) dX4_read_25 (by decide) ?_
              refine r_icmp_ge 93 dX4_read_27 (by decide) (fun c27 => ?_) (fun c27 => ?_)
              · exact absurd c27 (nI_ge (by omega) (by omega))
              · refine r_iconst (v := nI 0) dX4_read_30 (by decide) ?_
                refine r_istore (lv' := [_, _, _, _, _, _, _]) dX4_read_31 (by decide) rfl ?_
                refine L2 k (by omega) 10 0 A f1 f2 f3 tok s b nu (by omega) (fun A f1 f2 f3 tok s b nu => ?_)
                refine r_iinc (lv' := [_, _, _, _, _, _, _]) dX4_read_87 (by decide) rfl (inc1 _) rfl ?_
                refine r_goto 23 dX4_read_90 (by decide) ?_
                exact ih (k + 1) A f1 f2 f3 tok s b nu (by omega)
          refine r_aload_n dX4_read_0 rfl ?_
          refine r_iload_n dX4_read_1 rfl ?_
          refine r_iload_n dX4_read_2 rfl ?_
          refine r_v2r (Z_fobD1 hm cy) (Nat.le_of_ble_eq_true rfl) mrX4_findingOfBook lkX4_225 rfl rfl rfl dX4_read_3 (Nat.le_of_ble_eq_true rfl) ?_
          refine r_istore_n (lv' := [_, _, _, _, _, _, _]) dX4_read_6 (by decide) rfl ?_
          refine r_iload_n dX4_read_7 rfl ?_
          refine r_if_eq 17 dX4_read_8 (by decide) (fun c8 => ?_) (fun c8 => ?_)
          · refine r_iconst (v := nI 0) dX4_read_17 (by decide) ?_
            refine r_istore (lv' := [_, _, _, _, _, _, _]) dX4_read_18 (by decide) rfl ?_
            refine r_iconst (v := nI 0) dX4_read_20 (by decide) ?_
            refine r_istore (lv' := [_, _, _, _, _, _, _]) dX4_read_21 (by decide) rfl ?_
            refine r_lv (lv' := [_, _, _, none, _, _, _]) (lvDrop 3 rfl) ?_
            exact L1 6 0 A f1 f2 f3 tok s b nu (by omega)
          · exact absurd rfl c8
    · by_cases hm : (Z 2).1 = 0
      · rw [if_pos hm]
        refine r_aload_n dX4_read_0 rfl ?_
        refine r_iload_n dX4_read_1 rfl ?_
        refine r_iload_n dX4_read_2 rfl ?_
        refine r_v2r (Z_fobB2 hm) (Nat.le_of_ble_eq_true rfl) mrX4_findingOfBook lkX4_225 rfl rfl rfl dX4_read_3 (Nat.le_of_ble_eq_true rfl) ?_
        refine r_istore_n (lv' := [_, _, _, _, _, _, _]) dX4_read_6 (by decide) rfl ?_
        refine r_iload_n dX4_read_7 rfl ?_
        refine r_if_eq 17 dX4_read_8 (by decide) (fun c8 => ?_) (fun c8 => ?_)
        · exact absurd c8 (by decide)
        · refine r_aload_n dX4_read_11 rfl ?_
          refine r_iload_n dX4_read_12 rfl ?_
          refine r_v1r (Z_tell 5 (by decide) (by decide)) (Nat.le_of_ble_eq_true rfl) mrX4_tell lkX4_46 rfl rfl rfl dX4_read_13 (Nat.le_of_ble_eq_true rfl) ?_
          refine r_iret dX4_read_16 rfl rfl ?_ ?_
          · rfl
          · exact ⟨A, f1, f2, f3, tok, s, b, nu, HE.rf⟩
      · rw [if_neg hm]
        cases cy : hasB (cnt R) y with
        | false =>
          refine r_aload_n dX4_read_0 rfl ?_
          refine r_iload_n dX4_read_1 rfl ?_
          refine r_iload_n dX4_read_2 rfl ?_
          refine r_v2r (Z_fobC2 hm cy) (Nat.le_of_ble_eq_true rfl) mrX4_findingOfBook lkX4_225 rfl rfl rfl dX4_read_3 (Nat.le_of_ble_eq_true rfl) ?_
          refine r_istore_n (lv' := [_, _, _, _, _, _, _]) dX4_read_6 (by decide) rfl ?_
          refine r_iload_n dX4_read_7 rfl ?_
          refine r_if_eq 17 dX4_read_8 (by decide) (fun c8 => ?_) (fun c8 => ?_)
          · exact absurd c8 (by decide)
          · refine r_aload_n dX4_read_11 rfl ?_
            refine r_iload_n dX4_read_12 rfl ?_
            refine r_v1r (Z_tell 0 (by decide) (by decide)) (Nat.le_of_ble_eq_true rfl) mrX4_tell lkX4_46 rfl rfl rfl dX4_read_13 (Nat.le_of_ble_eq_true rfl) ?_
            refine r_iret dX4_read_16 rfl rfl ?_ ?_
            · rfl
            · exact ⟨A, f1, f2, f3, tok, s, b, nu, HE.rf⟩
        | true =>
          obtain ⟨p, hp, rfl⟩ := hasB_of cy (by omega)
          rw [e0 p (by omega)]
          have L2 : ∀ (k : Nat), k < 6 → ∀ (u q : Nat) (A : RS) (f1 f2 f3 tok : Int32) (s b : Nat) (nu : Int32), q + u = 10 → (∀ (A : RS) (f1 f2 f3 tok : Int32) (s b : Nat) (nu : Int32), RunQ X 11 mX4_read 87 [some (.ref 0), some (.int (nI 2)), some (.int (nI p)), none, some (.int (rdN R (Z 2).2.2 p z (10 * k + 10))), some (.int (nI k)), none] [] (hX R K kp tc n T Z A f1 f2 f3 tok s b nu) (some (.int (rdN R (Z 2).2.2 p z 60))) (qX ((R, K, kp, tc), (n, T), Z))) → RunQ X 11 mX4_read 33 [some (.ref 0), some (.int (nI 2)), some (.int (nI p)), none, some (.int (rdN R (Z 2).2.2 p z (10 * k + q))), some (.int (nI k)), some (.int (nI q))] [] (hX R K kp tc n T Z A f1 f2 f3 tok s b nu) (some (.int (rdN R (Z 2).2.2 p z 60))) (qX ((R, K, kp, tc), (n, T), Z)) := by
            intro k hk u
            induction u with
            | zero =>
              intro q A f1 f2 f3 tok s b nu hq kk
              obtain rfl : q = 10 := by omega
              refine r_iload dX4_read_33 rfl ?_
              refine r_bipush (v := nI 9) dX4_read_35 (by decide) ?_
              refine r_icmp_gt 87 dX4_read_37 (by decide) (fun c37 => ?_) (fun c37 => ?_)
              · exact r_lv (lv' := [_, _, _, _, _, _, none]) (lvDrop 6 rfl) (kk A f1 f2 f3 tok s b nu)
              · exact absurd (nI_lt (by omega) (by omega)) c37
            | succ u ih =>
              intro q A f1 f2 f3 tok s b nu hq kk
              refine r_iload dX4_read_33 rfl ?_
              refine r_bipush (v := nI 9) dX4_read_35 (by decide) ?_
              refine r_icmp_gt 87 dX4_read_37 (by decide) (fun c37 => ?_) (fun c37 => ?_)
              · exact absurd c37 (nI_nlt (by omega) (by omega))
              · refine r_aload_n dX4_read_40 rfl ?_
                refine r_v0n Z_lookAhead (Nat.le_of_ble_eq_true rfl) mrX4_lookAhead lkX4_140 rfl rfl rfl dX4_read_41 (Nat.le_of_ble_eq_true rfl) ?_
                refine r_aload_n dX4_read_44 rfl ?_
                refine r_getfield dX4_read_45 gfX4_16 rfl rfl ?_
                refine r_getfield dX4_read_48 gfX4_95 rfl rfl ?_
                refine r_iload_n dX4_read_51 rfl ?_
                refine r_iload dX4_read_52 rfl ?_
                refine r_iastN (h' := [_, _, _, _, _, _, _, _, _, _, _, _, _, _, _, _, _, _, _, _, _, _, _, _, _, _, _, _, _]) dX4_read_54 rfl (by omega) (Nat.le_of_ble_eq_true rfl) rfl ?_
                refine r_aload_n dX4_read_55 rfl ?_
                refine r_getfield dX4_read_56 gfX4_16 rfl rfl ?_
                refine r_iload dX4_read_59 rfl ?_
                refine r_putfield (fs' := [_, _, _, _, _, _, _, _, _, _]) (h' := [_, _, _, _, _, _, _, _, _, _, _, _, _, _, _, _, _, _, _, _, _, _, _, _, _, _, _, _, _]) dX4_read_61 pfX4_61 rfl (Nat.le_of_ble_eq_true rfl) (fun _ => rfl) rfl rfl rfl rfl ?_
                refine r_aload_n dX4_read_64 rfl ?_
                refine r_aload_n dX4_read_65 rfl ?_
                refine r_getfield dX4_read_66 gfX4_31 rfl rfl ?_
                refine r_iload_n dX4_read_69 rfl ?_
                refine r_aaldN dX4_read_70 rfl (by first | decide | omega) (Nat.le_of_ble_eq_true rfl) rfl ?_
                refine r_iload_n dX4_read_71 rfl ?_
                refine r_v2rq (Z_jst2 (A := (sB (sK R (upd (rK R) p (nI k))) (nI q))) (p := p) (z := z) (by omega) hc ez hz) (Nat.le_of_ble_eq_true rfl) mrX4_stumblesJustAs lkX4_228 rfl rfl rfl dX4_read_72 (Nat.le_of_ble_eq_true rfl) (fun h9 _ q9 => ?_)
                obtain ⟨A9, g1, g2, g3, t9, s9, b9, v9, q9⟩ := q9
                refine r_heq q9 ?_
                refine r_if_eqB 81 dX4_read_75 (by decide) (fun c75 => ?_) (fun c75 => ?_)
                · refine r_iinc (lv' := [_, _, _, _, _, _, _]) dX4_read_81 (by decide) rfl (by first | exact inc1 _ | exact inc1_ _) rfl ?_
                  refine r_goto 33 dX4_read_84 (by decide) ?_
                  have e := ih (q + 1) A9 g1 g2 g3 t9 s9 b9 v9 (by omega) kk
                  rw [show 10 * k + (q + 1) = (10 * k + q) + 1 by omega, rdN, show (10 * k + q) / 10 = k by omega, show (10 * k + q) % 10 = q by omega, c75] at e
                  exact e
                · refine r_iinc (lv' := [_, _, _, _, _, _, _]) dX4_read_78 (by decide) rfl (by first | exact inc1 _ | exact inc1_ _) rfl ?_
                  refine r_iinc (lv' := [_, _, _, _, _, _, _]) dX4_read_81 (by decide) rfl (by first | exact inc1 _ | exact inc1_ _) rfl ?_
                  refine r_goto 33 dX4_read_84 (by decide) ?_
                  have e := ih (q + 1) A9 g1 g2 g3 t9 s9 b9 v9 (by omega) kk
                  rw [show 10 * k + (q + 1) = (10 * k + q) + 1 by omega, rdN, show (10 * k + q) / 10 = k by omega, show (10 * k + q) % 10 = q by omega, c75] at e
                  exact e
          have L1 : ∀ (u k : Nat) (A : RS) (f1 f2 f3 tok : Int32) (s b : Nat) (nu : Int32), k + u = 6 → RunQ X 11 mX4_read 23 [some (.ref 0), some (.int (nI 2)), some (.int (nI p)), none, some (.int (rdN R (Z 2).2.2 p z (10 * k))), some (.int (nI k)), none] [] (hX R K kp tc n T Z A f1 f2 f3 tok s b nu) (some (.int (rdN R (Z 2).2.2 p z 60))) (qX ((R, K, kp, tc), (n, T), Z)) := by
            intro u
            induction u with
            | zero =>
              intro k A f1 f2 f3 tok s b nu hk
              obtain rfl : k = 6 := by omega
              refine r_iload dX4_read_23 rfl ?_
              refine r_bipush (v := nI 6) dX4_read_25 (by decide) ?_
              refine r_icmp_ge 93 dX4_read_27 (by decide) (fun c27 => ?_) (fun c27 => ?_)
              · refine r_iload dX4_read_93 rfl ?_
                refine r_iret dX4_read_95 rfl rfl ?_ ?_
                · rfl
                · exact ⟨A, f1, f2, f3, tok, s, b, nu, HE.rf⟩
              · exact absurd (nI_le (Nat.le_refl _) (by omega)) c27
            | succ u ih =>
              intro k A f1 f2 f3 tok s b nu hk
              refine r_iload dX4_read_23 rfl ?_
              refine r_bipush (v := nI 6) dX4_read_25 (by decide) ?_
              refine r_icmp_ge 93 dX4_read_27 (by decide) (fun c27 => ?_) (fun c27 => ?_)
              · exact absurd c27 (nI_ge (by omega) (by omega))
              · refine r_iconst (v := nI 0) dX4_read_30 (by decide) ?_
                refine r_istore (lv' := [_, _, _, _, _, _, _]) dX4_read_31 (by decide) rfl ?_
                refine L2 k (by omega) 10 0 A f1 f2 f3 tok s b nu (by omega) (fun A f1 f2 f3 tok s b nu => ?_)
                refine r_iinc (lv' := [_, _, _, _, _, _, _]) dX4_read_87 (by decide) rfl (inc1 _) rfl ?_
                refine r_goto 23 dX4_read_90 (by decide) ?_
                exact ih (k + 1) A f1 f2 f3 tok s b nu (by omega)
          refine r_aload_n dX4_read_0 rfl ?_
          refine r_iload_n dX4_read_1 rfl ?_
          refine r_iload_n dX4_read_2 rfl ?_
          refine r_v2r (Z_fobD2 hm cy) (Nat.le_of_ble_eq_true rfl) mrX4_findingOfBook lkX4_225 rfl rfl rfl dX4_read_3 (Nat.le_of_ble_eq_true rfl) ?_
          refine r_istore_n (lv' := [_, _, _, _, _, _, _]) dX4_read_6 (by decide) rfl ?_
          refine r_iload_n dX4_read_7 rfl ?_
          refine r_if_eq 17 dX4_read_8 (by decide) (fun c8 => ?_) (fun c8 => ?_)
          · refine r_iconst (v := nI 0) dX4_read_17 (by decide) ?_
            refine r_istore (lv' := [_, _, _, _, _, _, _]) dX4_read_18 (by decide) rfl ?_
            refine r_iconst (v := nI 0) dX4_read_20 (by decide) ?_
            refine r_istore (lv' := [_, _, _, _, _, _, _]) dX4_read_21 (by decide) rfl ?_
            refine r_lv (lv' := [_, _, _, none, _, _, _]) (lvDrop 3 rfl) ?_
            exact L1 6 0 A f1 f2 f3 tok s b nu (by omega)
          · exact absurd rfl c8
    · by_cases hm : (Z 3).1 = 0
      · rw [if_pos hm]
        refine r_aload_n dX4_read_0 rfl ?_
        refine r_iload_n dX4_read_1 rfl ?_
        refine r_iload_n dX4_read_2 rfl ?_
        refine r_v2r (Z_fobB3 hm) (Nat.le_of_ble_eq_true rfl) mrX4_findingOfBook lkX4_225 rfl rfl rfl dX4_read_3 (Nat.le_of_ble_eq_true rfl) ?_
        refine r_istore_n (lv' := [_, _, _, _, _, _, _]) dX4_read_6 (by decide) rfl ?_
        refine r_iload_n dX4_read_7 rfl ?_
        refine r_if_eq 17 dX4_read_8 (by decide) (fun c8 => ?_) (fun c8 => ?_)
        · exact absurd c8 (by decide)
        · refine r_aload_n dX4_read_11 rfl ?_
          refine r_iload_n dX4_read_12 rfl ?_
          refine r_v1r (Z_tell 5 (by decide) (by decide)) (Nat.le_of_ble_eq_true rfl) mrX4_tell lkX4_46 rfl rfl rfl dX4_read_13 (Nat.le_of_ble_eq_true rfl) ?_
          refine r_iret dX4_read_16 rfl rfl ?_ ?_
          · rfl
          · exact ⟨A, f1, f2, f3, tok, s, b, nu, HE.rf⟩
      · rw [if_neg hm]
        cases cy : hasB (cnt R) y with
        | false =>
          refine r_aload_n dX4_read_0 rfl ?_
          refine r_iload_n dX4_read_1 rfl ?_
          refine r_iload_n dX4_read_2 rfl ?_
          refine r_v2r (Z_fobC3 hm cy) (Nat.le_of_ble_eq_true rfl) mrX4_findingOfBook lkX4_225 rfl rfl rfl dX4_read_3 (Nat.le_of_ble_eq_true rfl) ?_
          refine r_istore_n (lv' := [_, _, _, _, _, _, _]) dX4_read_6 (by decide) rfl ?_
          refine r_iload_n dX4_read_7 rfl ?_
          refine r_if_eq 17 dX4_read_8 (by decide) (fun c8 => ?_) (fun c8 => ?_)
          · exact absurd c8 (by decide)
          · refine r_aload_n dX4_read_11 rfl ?_
            refine r_iload_n dX4_read_12 rfl ?_
            refine r_v1r (Z_tell 0 (by decide) (by decide)) (Nat.le_of_ble_eq_true rfl) mrX4_tell lkX4_46 rfl rfl rfl dX4_read_13 (Nat.le_of_ble_eq_true rfl) ?_
            refine r_iret dX4_read_16 rfl rfl ?_ ?_
            · rfl
            · exact ⟨A, f1, f2, f3, tok, s, b, nu, HE.rf⟩
        | true =>
          obtain ⟨p, hp, rfl⟩ := hasB_of cy (by omega)
          rw [e0 p (by omega)]
          have L2 : ∀ (k : Nat), k < 6 → ∀ (u q : Nat) (A : RS) (f1 f2 f3 tok : Int32) (s b : Nat) (nu : Int32), q + u = 10 → (∀ (A : RS) (f1 f2 f3 tok : Int32) (s b : Nat) (nu : Int32), RunQ X 11 mX4_read 87 [some (.ref 0), some (.int (nI 3)), some (.int (nI p)), none, some (.int (rdN R (Z 3).2.2 p z (10 * k + 10))), some (.int (nI k)), none] [] (hX R K kp tc n T Z A f1 f2 f3 tok s b nu) (some (.int (rdN R (Z 3).2.2 p z 60))) (qX ((R, K, kp, tc), (n, T), Z))) → RunQ X 11 mX4_read 33 [some (.ref 0), some (.int (nI 3)), some (.int (nI p)), none, some (.int (rdN R (Z 3).2.2 p z (10 * k + q))), some (.int (nI k)), some (.int (nI q))] [] (hX R K kp tc n T Z A f1 f2 f3 tok s b nu) (some (.int (rdN R (Z 3).2.2 p z 60))) (qX ((R, K, kp, tc), (n, T), Z)) := by
            intro k hk u
            induction u with
            | zero =>
              intro q A f1 f2 f3 tok s b nu hq kk
              obtain rfl : q = 10 := by omega
              refine r_iload dX4_read_33 rfl ?_
              refine r_bipush (v := nI 9) dX4_read_35 (by decide) ?_
              refine r_icmp_gt 87 dX4_read_37 (by decide) (fun c37 => ?_) (fun c37 => ?_)
              · exact r_lv (lv' := [_, _, _, _, _, _, none]) (lvDrop 6 rfl) (kk A f1 f2 f3 tok s b nu)
              · exact absurd (nI_lt (by omega) (by omega)) c37
            | succ u ih =>
              intro q A f1 f2 f3 tok s b nu hq kk
              refine r_iload dX4_read_33 rfl ?_
              refine r_bipush (v := nI 9) dX4_read_35 (by decide) ?_
              refine r_icmp_gt 87 dX4_read_37 (by decide) (fun c37 => ?_) (fun c37 => ?_)
              · exact absurd c37 (nI_nlt (by omega) (by omega))
              · refine r_aload_n dX4_read_40 rfl ?_
                refine r_v0n Z_lookAhead (Nat.le_of_ble_eq_true rfl) mrX4_lookAhead lkX4_140 rfl rfl rfl dX4_read_41 (Nat.le_of_ble_eq_true rfl) ?_
                refine r_aload_n dX4_read_44 rfl ?_
                refine r_getfield dX4_read_45 gfX4_16 rfl rfl ?_
                refine r_getfield dX4_read_48 gfX4_95 rfl rfl ?_
                refine r_iload_n dX4_read_51 rfl ?_
                refine r_iload dX4_read_52 rfl ?_
                refine r_iastN (h' := [_, _, _, _, _, _, _, _, _, _, _, _, _, _, _, _, _, _, _, _, _, _, _, _, _, _, _, _, _]) dX4_read_54 rfl (by omega) (Nat.le_of_ble_eq_true rfl) rfl ?_
                refine r_aload_n dX4_read_55 rfl ?_
                refine r_getfield dX4_read_56 gfX4_16 rfl rfl ?_
                refine r_iload dX4_read_59 rfl ?_
                refine r_putfield (fs' := [_, _, _, _, _, _, _, _, _, _]) (h' := [_, _, _, _, _, _, _, _, _, _, _, _, _, _, _, _, _, _, _, _, _, _, _, _, _, _, _, _, _]) dX4_read_61 pfX4_61 rfl (Nat.le_of_ble_eq_true rfl) (fun _ => rfl) rfl rfl rfl rfl ?_
                refine r_aload_n dX4_read_64 rfl ?_
                refine r_aload_n dX4_read_65 rfl ?_
                refine r_getfield dX4_read_66 gfX4_31 rfl rfl ?_
                refine r_iload_n dX4_read_69 rfl ?_
                refine r_aaldN dX4_read_70 rfl (by first | decide | omega) (Nat.le_of_ble_eq_true rfl) rfl ?_
                refine r_iload_n dX4_read_71 rfl ?_
                refine r_v2rq (Z_jst3 (A := (sB (sK R (upd (rK R) p (nI k))) (nI q))) (p := p) (z := z) (by omega) hc ez hz) (Nat.le_of_ble_eq_true rfl) mrX4_stumblesJustAs lkX4_228 rfl rfl rfl dX4_read_72 (Nat.le_of_ble_eq_true rfl) (fun h9 _ q9 => ?_)
                obtain ⟨A9, g1, g2, g3, t9, s9, b9, v9, q9⟩ := q9
                refine r_heq q9 ?_
                refine r_if_eqB 81 dX4_read_75 (by decide) (fun c75 => ?_) (fun c75 => ?_)
                · refine r_iinc (lv' := [_, _, _, _, _, _, _]) dX4_read_81 (by decide) rfl (by first | exact inc1 _ | exact inc1_ _) rfl ?_
                  refine r_goto 33 dX4_read_84 (by decide) ?_
                  have e := ih (q + 1) A9 g1 g2 g3 t9 s9 b9 v9 (by omega) kk
                  rw [show 10 * k + (q + 1) = (10 * k + q) + 1 by omega, rdN, show (10 * k + q) / 10 = k by omega, show (10 * k + q) % 10 = q by omega, c75] at e
                  exact e
                · refine r_iinc (lv' := [_, _, _, _, _, _, _]) dX4_read_78 (by decide) rfl (by first | exact inc1 _ | exact inc1_ _) rfl ?_
                  refine r_iinc (lv' := [_, _, _, _, _, _, _]) dX4_read_81 (by decide) rfl (by first | exact inc1 _ | exact inc1_ _) rfl ?_
                  refine r_goto 33 dX4_read_84 (by decide) ?_
                  have e := ih (q + 1) A9 g1 g2 g3 t9 s9 b9 v9 (by omega) kk
                  rw [show 10 * k + (q + 1) = (10 * k + q) + 1 by omega, rdN, show (10 * k + q) / 10 = k by omega, show (10 * k + q) % 10 = q by omega, c75] at e
                  exact e
          have L1 : ∀ (u k : Nat) (A : RS) (f1 f2 f3 tok : Int32) (s b : Nat) (nu : Int32), k + u = 6 → RunQ X 11 mX4_read 23 [some (.ref 0), some (.int (nI 3)), some (.int (nI p)), none, some (.int (rdN R (Z 3).2.2 p z (10 * k))), some (.int (nI k)), none] [] (hX R K kp tc n T Z A f1 f2 f3 tok s b nu) (some (.int (rdN R (Z 3).2.2 p z 60))) (qX ((R, K, kp, tc), (n, T), Z)) := by
            intro u
            induction u with
            | zero =>
              intro k A f1 f2 f3 tok s b nu hk
              obtain rfl : k = 6 := by omega
              refine r_iload dX4_read_23 rfl ?_
              refine r_bipush (v := nI 6) dX4_read_25 (by decide) ?_
              refine r_icmp_ge 93 dX4_read_27 (by decide) (fun c27 => ?_) (fun c27 => ?_)
              · refine r_iload dX4_read_93 rfl ?_
                refine r_iret dX4_read_95 rfl rfl ?_ ?_
                · rfl
                · exact ⟨A, f1, f2, f3, tok, s, b, nu, HE.rf⟩
              · exact absurd (nI_le (Nat.le_refl _) (by omega)) c27
            | succ u ih =>
              intro k A f1 f2 f3 tok s b nu hk
              refine r_iload dX4_read_23 rfl ?_
              refine r_bipush (v := nI 6) dX4_read_25 (by decide) ?_
              refine r_icmp_ge 93 dX4_read_27 (by decide) (fun c27 => ?_) (fun c27 => ?_)
              · exact absurd c27 (nI_ge (by omega) (by omega))
              · refine r_iconst (v := nI 0) dX4_read_30 (by decide) ?_
                refine r_istore (lv' := [_, _, _, _, _, _, _]) dX4_read_31 (by decide) rfl ?_
                refine L2 k (by omega) 10 0 A f1 f2 f3 tok s b nu (by omega) (fun A f1 f2 f3 tok s b nu => ?_)
                refine r_iinc (lv' := [_, _, _, _, _, _, _]) dX4_read_87 (by decide) rfl (inc1 _) rfl ?_
                refine r_goto 23 dX4_read_90 (by decide) ?_
                exact ih (k + 1) A f1 f2 f3 tok s b nu (by omega)
          refine r_aload_n dX4_read_0 rfl ?_
          refine r_iload_n dX4_read_1 rfl ?_
          refine r_iload_n dX4_read_2 rfl ?_
          refine r_v2r (Z_fobD3 hm cy) (Nat.le_of_ble_eq_true rfl) mrX4_findingOfBook lkX4_225 rfl rfl rfl dX4_read_3 (Nat.le_of_ble_eq_true rfl) ?_
          refine r_istore_n (lv' := [_, _, _, _, _, _, _]) dX4_read_6 (by decide) rfl ?_
          refine r_iload_n dX4_read_7 rfl ?_
          refine r_if_eq 17 dX4_read_8 (by decide) (fun c8 => ?_) (fun c8 => ?_)
          · refine r_iconst (v := nI 0) dX4_read_17 (by decide) ?_
            refine r_istore (lv' := [_, _, _, _, _, _, _]) dX4_read_18 (by decide) rfl ?_
            refine r_iconst (v := nI 0) dX4_read_20 (by decide) ?_
            refine r_istore (lv' := [_, _, _, _, _, _, _]) dX4_read_21 (by decide) rfl ?_
            refine r_lv (lv' := [_, _, _, none, _, _, _]) (lvDrop 3 rfl) ?_
            exact L1 6 0 A f1 f2 f3 tok s b nu (by omega)
          · exact absurd rfl c8

