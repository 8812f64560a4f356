/-! the reference: its small methods, and a STEP -/
abbrev GO : Type := Int32 × Int32 × Int32 × Int32 × Bool
abbrev hM (s ks ot as : Nat → Int32) (fl : Int32) (kp : Bool) (tc : Nat → Int32) (g : GO) : AH := [.inr (5, [.ref 1, .ref 2, .ref 3, .ref 4, .ref 5, .int (bI kp), .int fl, .ref 6, .int g.1, .int g.2.1, .int g.2.2.1, .int g.2.2.2.1, .int (bI g.2.2.2.2), .ref 7, .ref 8, .ref 9, .ref 10]), .inl (0, 37, .inl s), .inl (0, 37, .inl ks), .inl (0, 37, .inl ot), .inl (0, 37, .inl as), .inl (0, 7, .inl tc)]
def inL (v lo hi : Int64) : Bool := decide (lo ≤ v) && decide (v ≤ hi)
theorem cmp_lt {x y : Int64} : (lg_cmp x y < 0) ↔ x < y := by
  rw [← Int32.not_le, lg_cmp_ge, Int64.not_le]
theorem cmp_gt {x y : Int64} : (0 < lg_cmp x y) ↔ y < x := by
  rw [← Int32.not_le, lg_cmp_le, Int64.not_le]
theorem M_inL {x lo hi : Int64} {h : AH} : Sp 0 mX5_in [.long x, .long lo, .long hi] h (some (.int (bI (inL x lo hi)))) h := by
  refine Sp.of [some (.long x), none, some (.long lo), none, some (.long hi), none] mrX5_in.1 rfl (Nat.le_of_ble_eq_true rfl) rfl (fun X => ?_)
  refine r_lload_n dX5_in_0 rfl ?_
  refine r_lload_n dX5_in_1 rfl ?_
  refine r_lcmp dX5_in_2 ?_
  refine r_if_lt 17 dX5_in_3 (by decide) (fun c3 => ?_) (fun c3 => ?_)
  · refine r_iconst (v := nI 0) dX5_in_17 (by decide) ?_
    refine r_iret dX5_in_18 rfl (by first | exact bI_nar _ | rfl) ?_ ?_
    · first | exact ret_t (by rw [inL, decide_eq_true (Int64.not_lt.mp (fun z => c3 (cmp_lt.mpr z))), decide_eq_true (Int64.not_lt.mp (fun z => c10 (cmp_gt.mpr z)))]; rfl) | exact ret_f (by rw [inL, decide_eq_false (Int64.not_le.mpr (cmp_lt.mp c3))]; rfl) | exact ret_f (by rw [inL, decide_eq_false (Int64.not_le.mpr (cmp_gt.mp c10)), Bool.and_false])
    · exact HE.rf
  · refine r_lload_n dX5_in_6 rfl ?_
    refine r_lload dX5_in_7 rfl ?_
    refine r_lcmp dX5_in_9 ?_
    refine r_if_gt 17 dX5_in_10 (by decide) (fun c10 => ?_) (fun c10 => ?_)
    · refine r_iconst (v := nI 0) dX5_in_17 (by decide) ?_
      refine r_iret dX5_in_18 rfl (by first | exact bI_nar _ | rfl) ?_ ?_
      · first | exact ret_t (by rw [inL, decide_eq_true (Int64.not_lt.mp (fun z => c3 (cmp_lt.mpr z))), decide_eq_true (Int64.not_lt.mp (fun z => c10 (cmp_gt.mpr z)))]; rfl) | exact ret_f (by rw [inL, decide_eq_false (Int64.not_le.mpr (cmp_lt.mp c3))]; rfl) | exact ret_f (by rw [inL, decide_eq_false (Int64.not_le.mpr (cmp_gt.mp c10)), Bool.and_false])
      · exact HE.rf
    · refine r_iconst (v := nI 1) dX5_in_13 (by decide) ?_
      refine r_goto 18 dX5_in_14 (by decide) ?_
      refine r_iret dX5_in_18 rfl (by first | exact bI_nar _ | rfl) ?_ ?_
      · first | exact ret_t (by rw [inL, decide_eq_true (Int64.not_lt.mp (fun z => c3 (cmp_lt.mpr z))), decide_eq_true (Int64.not_lt.mp (fun z => c10 (cmp_gt.mpr z)))]; rfl) | exact ret_f (by rw [inL, decide_eq_false (Int64.not_le.mpr (cmp_lt.mp c3))]; rfl) | exact ret_f (by rw [inL, decide_eq_false (Int64.not_le.mpr (cmp_gt.mp c10)), Bool.and_false])
      · exact HE.rf
theorem inL_R (x lo hi : Int32) : inL x.toInt64 lo.toInt64 hi.toInt64 = inR x lo hi := by
  unfold inL inR
  rw [decide_eq_decide.mpr (wide_le lo x), decide_eq_decide.mpr (wide_le x hi)]
theorem M_in {x lo hi : Int32} {L H : Int64} {h : AH} (hL : lo.toInt64 = L) (hH : hi.toInt64 = H) : Sp 0 mX5_in [.long x.toInt64, .long L, .long H] h (some (.int (bI (inR x lo hi)))) h := by
  subst hL
  subst hH
  rw [← inL_R]
  exact M_inL
theorem M_finds {s ks ot as : Nat → Int32} {fl : Int32} {kp : Bool} {tc : Nat → Int32} {g : GO} {fd : Int32} (w : Nat) (hw : w < 7) (hf : (-1000000001) - fd = nI w) : Sp 0 mX5_finds [.ref 0, .int fd] (hM s ks ot as fl kp tc g) (some (.int fd)) (hM s ks ot as fl kp (upd tc w (tc w + nI 1)) g) := by
  refine Sp.of [some (.ref 0), some (.int fd)] mrX5_finds.1 rfl (Nat.le_of_ble_eq_true rfl) rfl (fun X => ?_)
  refine r_aload_n dX5_finds_0 rfl ?_
  refine r_getfield dX5_finds_1 gfX5_22 rfl rfl ?_
  refine r_ldc kX5_41 dX5_finds_4 ?_
  refine r_iload_n dX5_finds_6 rfl ?_
  refine r_isub dX5_finds_7 ?_
  rw [hf]
  refine r_dup2 dX5_finds_8 rfl rfl ?_
  refine r_ialdN dX5_finds_9 rfl (by first | decide | omega) (Nat.le_of_ble_eq_true rfl) rfl ?_
  refine r_iconst (v := nI 1) dX5_finds_10 (by decide) ?_
  refine r_iadd dX5_finds_11 ?_
  refine r_iastN (h' := [_, _, _, _, _, _]) dX5_finds_12 rfl (by first | decide | omega) (Nat.le_of_ble_eq_true rfl) rfl ?_
  refine r_iload_n dX5_finds_13 rfl ?_
  refine r_iret dX5_finds_14 rfl rfl ?_ ?_
  · rfl
  · exact HE.rf
theorem M_saves {s ks ot as : Nat → Int32} {fl : Int32} {kp : Bool} {tc : Nat → Int32} {g : GO} : Sp 0 mX5_saves [.ref 0] (hM s ks ot as fl kp tc g) none (hM s ks s as fl kp tc g) := by
  refine Sp.of [some (.ref 0), none] mrX5_saves.1 rfl (Nat.le_of_ble_eq_true rfl) rfl (fun X => ?_)
  have L : ∀ (k i : Nat), i + k = 37 → Run X 0 mX5_saves 2 [some (.ref 0), some (.int (nI i))] [] (hM s ks (prg i s ot) as fl kp tc g) none (hM s ks s as fl kp tc g) := by
    intro k
    induction k with
    | zero =>
      intro i hi
      obtain rfl : i = 37 := by omega
      refine r_iload_n dX5_saves_2 rfl ?_
      refine r_bipush (v := nI 37) dX5_saves_3 (by decide) ?_
      refine r_icmp_ge 26 dX5_saves_5 (by decide) (fun c5 => ?_) (fun c5 => ?_)
      · refine r_vret dX5_saves_26 rfl ?_ ?_
        · rfl
        · exact ⟨CE.rf, CE.rf, CE.rf, CE.ints (fun i hi => prg_lo hi), CE.rf, CE.rf, trivial⟩
      · exact absurd (nI_le (Nat.le_refl _) (by omega)) c5
    | succ k ih =>
      intro i hi
      refine r_iload_n dX5_saves_2 rfl ?_
      refine r_bipush (v := nI 37) dX5_saves_3 (by decide) ?_
      refine r_icmp_ge 26 dX5_saves_5 (by decide) (fun c5 => ?_) (fun c5 => ?_)
      · exact absurd c5 (nI_ge (by omega) (by omega))
      · refine r_aload_n dX5_saves_8 rfl ?_
        refine r_getfield dX5_saves_9 gfX5_16 rfl rfl ?_
        refine r_iload_n dX5_saves_12 rfl ?_
        refine r_aload_n dX5_saves_13 rfl ?_
        refine r_getfield dX5_saves_14 gfX5_7 rfl rfl ?_
        refine r_iload_n dX5_saves_17 rfl ?_
        refine r_ialdN dX5_saves_18 rfl (by first | decide | omega) (Nat.le_of_ble_eq_true rfl) rfl ?_
        refine r_iastN (h' := [_, _, _, _, _, _]) dX5_saves_19 rfl (by first | decide | omega) (Nat.le_of_ble_eq_true rfl) rfl ?_
        refine r_iinc (lv' := [_, _]) dX5_saves_20 (by decide) rfl (by first | exact inc1 _ | exact inc1_ _) rfl ?_
        refine r_goto 2 dX5_saves_23 (by decide) ?_
        rw [prg_upd rfl]
        exact ih (i + 1) (by omega)
  refine r_iconst (v := nI 0) dX5_saves_0 (by decide) ?_
  refine r_istore_n (lv' := [_, _]) dX5_saves_1 (by decide) rfl ?_
  have e := L 37 0 (by omega)
  rw [prg_0] at e
  exact e
theorem M_laysAside {s ks ot as : Nat → Int32} {fl : Int32} {kp : Bool} {tc : Nat → Int32} {g : GO} : Sp 0 mX5_laysAside [.ref 0] (hM s ks ot as fl kp tc g) none (hM s ks ot s fl kp tc g) := by
  refine Sp.of [some (.ref 0), none] mrX5_laysAside.1 rfl (Nat.le_of_ble_eq_true rfl) rfl (fun X => ?_)
  have L : ∀ (k i : Nat), i + k = 37 → Run X 0 mX5_laysAside 2 [some (.ref 0), some (.int (nI i))] [] (hM s ks ot (prg i s as) fl kp tc g) none (hM s ks ot s fl kp tc g) := by
    intro k
    induction k with
    | zero =>
      intro i hi
      obtain rfl : i = 37 := by omega
      refine r_iload_n dX5_laysAside_2 rfl ?_
      refine r_bipush (v := nI 37) dX5_laysAside_3 (by decide) ?_
      refine r_icmp_ge 26 dX5_laysAside_5 (by decide) (fun c5 => ?_) (fun c5 => ?_)
      · refine r_vret dX5_laysAside_26 rfl ?_ ?_
        · rfl
        · exact ⟨CE.rf, CE.rf, CE.rf, CE.rf, CE.ints (fun i hi => prg_lo hi), CE.rf, trivial⟩
      · exact absurd (nI_le (Nat.le_refl _) (by omega)) c5
    | succ k ih =>
      intro i hi
      refine r_iload_n dX5_laysAside_2 rfl ?_
      refine r_bipush (v := nI 37) dX5_laysAside_3 (by decide) ?_
      refine r_icmp_ge 26 dX5_laysAside_5 (by decide) (fun c5 => ?_) (fun c5 => ?_)
      · exact absurd c5 (nI_ge (by omega) (by omega))
      · refine r_aload_n dX5_laysAside_8 rfl ?_
        refine r_getfield dX5_laysAside_9 gfX5_19 rfl rfl ?_
        refine r_iload_n dX5_laysAside_12 rfl ?_
        refine r_aload_n dX5_laysAside_13 rfl ?_
        refine r_getfield dX5_laysAside_14 gfX5_7 rfl rfl ?_
        refine r_iload_n dX5_laysAside_17 rfl ?_
        refine r_ialdN dX5_laysAside_18 rfl (by first | decide | omega) (Nat.le_of_ble_eq_true rfl) rfl ?_
        refine r_iastN (h' := [_, _, _, _, _, _]) dX5_laysAside_19 rfl (by first | decide | omega) (Nat.le_of_ble_eq_true rfl) rfl ?_
        refine r_iinc (lv' := [_, _]) dX5_laysAside_20 (by decide) rfl (by first | exact inc1 _ | exact inc1_ _) rfl ?_
        refine r_goto 2 dX5_laysAside_23 (by decide) ?_
        rw [prg_upd rfl]
        exact ih (i + 1) (by omega)
  refine r_iconst (v := nI 0) dX5_laysAside_0 (by decide) ?_
  refine r_istore_n (lv' := [_, _]) dX5_laysAside_1 (by decide) rfl ?_
  have e := L 37 0 (by omega)
  rw [prg_0] at e
  exact e
theorem M_putsBack {s ks ot as : Nat → Int32} {fl : Int32} {kp : Bool} {tc : Nat → Int32} {g : GO} : Sp 0 mX5_putsBack [.ref 0] (hM s ks ot as fl kp tc g) none (hM ot ks ot as fl kp tc g) := by
  refine Sp.of [some (.ref 0), none] mrX5_putsBack.1 rfl (Nat.le_of_ble_eq_true rfl) rfl (fun X => ?_)
  have L : ∀ (k i : Nat), i + k = 37 → Run X 0 mX5_putsBack 2 [some (.ref 0), some (.int (nI i))] [] (hM (prg i ot s) ks ot as fl kp tc g) none (hM ot ks ot as fl kp tc g) := by
    intro k
    induction k with
    | zero =>
      intro i hi
      obtain rfl : i = 37 := by omega
      refine r_iload_n dX5_putsBack_2 rfl ?_
      refine r_bipush (v := nI 37) dX5_putsBack_3 (by decide) ?_
      refine r_icmp_ge 26 dX5_putsBack_5 (by decide) (fun c5 => ?_) (fun c5 => ?_)
      · refine r_vret dX5_putsBack_26 rfl ?_ ?_
        · rfl
        · exact ⟨CE.rf, CE.ints (fun i hi => prg_lo hi), CE.rf, CE.rf, CE.rf, CE.rf, trivial⟩
      · exact absurd (nI_le (Nat.le_refl _) (by omega)) c5
    | succ k ih =>
      intro i hi
      refine r_iload_n dX5_putsBack_2 rfl ?_
      refine r_bipush (v := nI 37) dX5_putsBack_3 (by decide) ?_
      refine r_icmp_ge 26 dX5_putsBack_5 (by decide) (fun c5 => ?_) (fun c5 => ?_)
      · exact absurd c5 (nI_ge (by omega) (by omega))
      · refine r_aload_n dX5_putsBack_8 rfl ?_
        refine r_getfield dX5_putsBack_9 gfX5_7 rfl rfl ?_
        refine r_iload_n dX5_putsBack_12 rfl ?_
        refine r_aload_n dX5_putsBack_13 rfl ?_
        refine r_getfield dX5_putsBack_14 gfX5_16 rfl rfl ?_
        refine r_iload_n dX5_putsBack_17 rfl ?_
        refine r_ialdN dX5_putsBack_18 rfl (by first | decide | omega) (Nat.le_of_ble_eq_true rfl) rfl ?_
        refine r_iastN (h' := [_, _, _, _, _, _]) dX5_putsBack_19 rfl (by first | decide | omega) (Nat.le_of_ble_eq_true rfl) rfl ?_
        refine r_iinc (lv' := [_, _]) dX5_putsBack_20 (by decide) rfl (by first | exact inc1 _ | exact inc1_ _) rfl ?_
        refine r_goto 2 dX5_putsBack_23 (by decide) ?_
        rw [prg_upd rfl]
        exact ih (i + 1) (by omega)
  refine r_iconst (v := nI 0) dX5_putsBack_0 (by decide) ?_
  refine r_istore_n (lv' := [_, _]) dX5_putsBack_1 (by decide) rfl ?_
  have e := L 37 0 (by omega)
  rw [prg_0] at e
  exact e
theorem M_takesBack {s ks ot as : Nat → Int32} {fl : Int32} {kp : Bool} {tc : Nat → Int32} {g : GO} {v : Int32} : Sp 0 mX5_takesBack [.ref 0, .int v] (hM s ks ot as fl kp tc g) (some (.int v)) (hM as ks ot as fl kp tc g) := by
  refine Sp.of [some (.ref 0), some (.int v), none] mrX5_takesBack.1 rfl (Nat.le_of_ble_eq_true rfl) rfl (fun X => ?_)
  have L : ∀ (k i : Nat), i + k = 37 → Run X 0 mX5_takesBack 2 [some (.ref 0), some (.int v), some (.int (nI i))] [] (hM (prg i as s) ks ot as fl kp tc g) (some (.int v)) (hM as ks ot as fl kp tc g) := by
    intro k
    induction k with
    | zero =>
      intro i hi
      obtain rfl : i = 37 := by omega
      refine r_iload_n dX5_takesBack_2 rfl ?_
      refine r_bipush (v := nI 37) dX5_takesBack_3 (by decide) ?_
      refine r_icmp_ge 26 dX5_takesBack_5 (by decide) (fun c5 => ?_) (fun c5 => ?_)
      · refine r_iload_n dX5_takesBack_26 rfl ?_
        refine r_iret dX5_takesBack_27 rfl rfl ?_ ?_
        · rfl
        · exact ⟨CE.rf, CE.ints (fun i hi => prg_lo hi), CE.rf, CE.rf, CE.rf, CE.rf, trivial⟩
      · exact absurd (nI_le (Nat.le_refl _) (by omega)) c5
    | succ k ih =>
      intro i hi
      refine r_iload_n dX5_takesBack_2 rfl ?_
      refine r_bipush (v := nI 37) dX5_takesBack_3 (by decide) ?_
      refine r_icmp_ge 26 dX5_takesBack_5 (by decide) (fun c5 => ?_) (fun c5 => ?_)
      · exact absurd c5 (nI_ge (by omega) (by omega))
      · refine r_aload_n dX5_takesBack_8 rfl ?_
        refine r_getfield dX5_takesBack_9 gfX5_7 rfl rfl ?_
        refine r_iload_n dX5_takesBack_12 rfl ?_
        refine r_aload_n dX5_takesBack_13 rfl ?_
        refine r_getfield dX5_takesBack_14 gfX5_19 rfl rfl ?_
        refine r_iload_n dX5_takesBack_17 rfl ?_
        refine r_ialdN dX5_takesBack_18 rfl (by first | decide | omega) (Nat.le_of_ble_eq_true rfl) rfl ?_
        refine r_iastN (h' := [_, _, _, _, _, _]) dX5_takesBack_19 rfl (by first | decide | omega) (Nat.le_of_ble_eq_true rfl) rfl ?_
        refine r_iinc (lv' := [_, _, _]) dX5_takesBack_20 (by decide) rfl (by first | exact inc1 _ | exact inc1_ _) rfl ?_
        refine r_goto 2 dX5_takesBack_23 (by decide) ?_
        rw [prg_upd rfl]
        exact ih (i + 1) (by omega)
  refine r_iconst (v := nI 0) dX5_takesBack_0 (by decide) ?_
  refine r_istore_n (lv' := [_, _, _]) dX5_takesBack_1 (by decide) rfl ?_
  have e := L 37 0 (by omega)
  rw [prg_0] at e
  exact e
theorem M_becomes {s ks ot as : Nat → Int32} {fl : Int32} {kp : Bool} {tc : Nat → Int32} {g : GO} {k : Nat} {v : Int32} (hk : k < 37) : Sp 0 mX5_becomes [.ref 0, .int (nI k), .int v] (hM s ks ot as fl kp tc g) (some (.int (s k))) (hM (upd s k v) ks ot as fl kp tc g) := by
  refine Sp.of [some (.ref 0), some (.int (nI k)), some (.int v), none] mrX5_becomes.1 rfl (Nat.le_of_ble_eq_true rfl) rfl (fun X => ?_)
  refine r_aload_n dX5_becomes_0 rfl ?_
  refine r_getfield dX5_becomes_1 gfX5_7 rfl rfl ?_
  refine r_iload_n dX5_becomes_4 rfl ?_
  refine r_ialdN dX5_becomes_5 rfl (by first | decide | omega) (Nat.le_of_ble_eq_true rfl) rfl ?_
  refine r_istore_n (lv' := [_, _, _, _]) dX5_becomes_6 (by decide) rfl ?_
  refine r_aload_n dX5_becomes_7 rfl ?_
  refine r_getfield dX5_becomes_8 gfX5_7 rfl rfl ?_
  refine r_iload_n dX5_becomes_11 rfl ?_
  refine r_iload_n dX5_becomes_12 rfl ?_
  refine r_iastN (h' := [_, _, _, _, _, _]) dX5_becomes_13 rfl (by first | decide | omega) (Nat.le_of_ble_eq_true rfl) rfl ?_
  refine r_iload_n dX5_becomes_14 rfl ?_
  refine r_iret dX5_becomes_15 rfl rfl ?_ ?_
  · rfl
  · exact HE.rf
theorem M_spot {p w : Nat} {h : AH} : Sp 0 mX5_spot [.int (nI p), .int (nI w)] h (some (.int (nI (5 + 4 * p + w)))) h := by
  refine Sp.of [some (.int (nI p)), some (.int (nI w))] mrX5_spot.1 rfl (Nat.le_of_ble_eq_true rfl) rfl (fun X => ?_)
  refine r_iconst (v := nI 5) dX5_spot_0 (by decide) ?_
  refine r_iconst (v := nI 4) dX5_spot_1 (by decide) ?_
  refine r_iload_n dX5_spot_2 rfl ?_
  refine r_imul dX5_spot_3 ?_
  refine r_iadd dX5_spot_4 ?_
  refine r_iload_n dX5_spot_5 rfl ?_
  refine r_iadd dX5_spot_6 ?_
  refine r_iret dX5_spot_7 rfl rfl ?_ ?_
  · rw [pk_mul, nI_add, nI_add]
  · exact HE.rf
theorem M_its {s ks ot as : Nat → Int32} {fl : Int32} {kp : Bool} {tc : Nat → Int32} {g : GO} {p w : Nat} (hp : p < 8) (hw : w < 4) : Sp 1 mX5_its [.ref 0, .int (nI p), .int (nI w)] (hM s ks ot as fl kp tc g) (some (.int (s (5 + 4 * p + w)))) (hM s ks ot as fl kp tc g) := by
  refine Sp.of [some (.ref 0), some (.int (nI p)), some (.int (nI w))] mrX5_its.1 rfl (Nat.le_of_ble_eq_true rfl) rfl (fun X => ?_)
  refine r_aload_n dX5_its_0 rfl ?_
  refine r_getfield dX5_its_1 gfX5_7 rfl rfl ?_
  refine r_iload_n dX5_its_4 rfl ?_
  refine r_iload_n dX5_its_5 rfl ?_
  refine r_s2r M_spot (Nat.le_of_ble_eq_true rfl) mrX5_spot lkX5_42 dX5_its_6 (Nat.le_of_ble_eq_true rfl) ?_
  refine r_ialdN dX5_its_9 rfl (by first | decide | omega) (Nat.le_of_ble_eq_true rfl) rfl ?_
  refine r_iret dX5_its_10 rfl rfl ?_ ?_
  · rfl
  · exact HE.rf
theorem M_its0 {R : RS} {ks ot as : Nat → Int32} {fl : Int32} {kp : Bool} {tc : Nat → Int32} {g : GO} {p : Nat} (hp : p < 8) : Sp 1 mX5_its [.ref 0, .int (nI p), .int (nI 0)] (hM (enc R) ks ot as fl kp tc g) (some (.int (rK R p))) (hM (enc R) ks ot as fl kp tc g) := by have e := M_its (s := enc R) (ks := ks) (ot := ot) (as := as) (fl := fl) (kp := kp) (tc := tc) (g := g) (w := 0) hp (by decide); rwa [encK] at e
theorem M_its1 {R : RS} {ks ot as : Nat → Int32} {fl : Int32} {kp : Bool} {tc : Nat → Int32} {g : GO} {p : Nat} (hp : p < 8) : Sp 1 mX5_its [.ref 0, .int (nI p), .int (nI 1)] (hM (enc R) ks ot as fl kp tc g) (some (.int (rH R p))) (hM (enc R) ks ot as fl kp tc g) := by have e := M_its (s := enc R) (ks := ks) (ot := ot) (as := as) (fl := fl) (kp := kp) (tc := tc) (g := g) (w := 1) hp (by decide); rwa [encH] at e
theorem M_its2 {R : RS} {ks ot as : Nat → Int32} {fl : Int32} {kp : Bool} {tc : Nat → Int32} {g : GO} {p : Nat} (hp : p < 8) : Sp 1 mX5_its [.ref 0, .int (nI p), .int (nI 2)] (hM (enc R) ks ot as fl kp tc g) (some (.int (rS R p))) (hM (enc R) ks ot as fl kp tc g) := by have e := M_its (s := enc R) (ks := ks) (ot := ot) (as := as) (fl := fl) (kp := kp) (tc := tc) (g := g) (w := 2) hp (by decide); rwa [encS] at e
theorem M_its3 {R : RS} {ks ot as : Nat → Int32} {fl : Int32} {kp : Bool} {tc : Nat → Int32} {g : GO} {p : Nat} (hp : p < 8) : Sp 1 mX5_its [.ref 0, .int (nI p), .int (nI 3)] (hM (enc R) ks ot as fl kp tc g) (some (.int (rN R p))) (hM (enc R) ks ot as fl kp tc g) := by have e := M_its (s := enc R) (ks := ks) (ot := ot) (as := as) (fl := fl) (kp := kp) (tc := tc) (g := g) (w := 3) hp (by decide); rwa [encN] at e
theorem M_isPlace {R : RS} {ks ot as : Nat → Int32} {fl : Int32} {kp : Bool} {tc : Nat → Int32} {g : GO} {x : Int32} (hn : cnt R ≤ 8) : Sp 1 mX5_isPlace [.ref 0, .int x] (hM (enc R) ks ot as fl kp tc g) (some (.int (bI (hasB (cnt R) x)))) (hM (enc R) ks ot as fl kp tc g) := by
  refine Sp.of [some (.ref 0), some (.int x)] mrX5_isPlace.1 rfl (Nat.le_of_ble_eq_true rfl) rfl (fun X => ?_)
  refine r_iload_n dX5_isPlace_0 rfl ?_
  refine r_i2l dX5_isPlace_1 ?_
  refine r_lconst (v := 0) dX5_isPlace_2 (by decide) ?_
  refine r_aload_n dX5_isPlace_3 rfl ?_
  refine r_getfield dX5_isPlace_4 gfX5_7 rfl rfl ?_
  refine r_iconst (v := nI 1) dX5_isPlace_7 (by decide) ?_
  refine r_ialdN dX5_isPlace_8 rfl (by first | decide | omega) (Nat.le_of_ble_eq_true rfl) enc1 ?_
  refine r_iconst (v := nI 1) dX5_isPlace_9 (by decide) ?_
  refine r_isub dX5_isPlace_10 ?_
  refine r_i2l dX5_isPlace_11 ?_
  refine r_s3r (M_in (lo := nI 0) (hi := nI (cnt R) - nI 1) (by decide) rfl) (Nat.le_of_ble_eq_true rfl) mrX5_in lkX5_46 dX5_isPlace_12 (Nat.le_of_ble_eq_true rfl) ?_
  refine r_iret dX5_isPlace_15 rfl (by first | exact bI_nar _ | rfl) ?_ ?_
  · rw [hasB_in (by omega)]
  · exact HE.rf
theorem M_isKind {x : Int32} {h : AH} : Sp 1 mX5_isKind [.int x] h (some (.int (bI (inR x (nI 0) (nI 5))))) h := by
  refine Sp.of [some (.int x)] mrX5_isKind.1 rfl (Nat.le_of_ble_eq_true rfl) rfl (fun X => ?_)
  refine r_iload_n dX5_isKind_0 rfl ?_
  refine r_i2l dX5_isKind_1 ?_
  refine r_lconst (v := 0) dX5_isKind_2 (by decide) ?_
  refine r_ldc2 kX5_52 dX5_isKind_3 ?_
  refine r_s3r (M_in (lo := nI 0) (hi := nI 5) (by decide) (by decide)) (Nat.le_of_ble_eq_true rfl) mrX5_in lkX5_46 dX5_isKind_6 (Nat.le_of_ble_eq_true rfl) ?_
  refine r_iret dX5_isKind_9 rfl (by first | exact bI_nar _ | rfl) ?_ ?_
  · rfl
  · exact HE.rf
theorem M_isAhead {x : Int32} {h : AH} : Sp 1 mX5_isAhead [.int x] h (some (.int (bI (inR x (nI 0) (nI 300))))) h := by
  refine Sp.of [some (.int x)] mrX5_isAhead.1 rfl (Nat.le_of_ble_eq_true rfl) rfl (fun X => ?_)
  refine r_iload_n dX5_isAhead_0 rfl ?_
  refine r_i2l dX5_isAhead_1 ?_
  refine r_lconst (v := 0) dX5_isAhead_2 (by decide) ?_
  refine r_ldc2 kX5_151 dX5_isAhead_3 ?_
  refine r_s3r (M_in (lo := nI 0) (hi := nI 300) (by decide) (by decide)) (Nat.le_of_ble_eq_true rfl) mrX5_in lkX5_46 dX5_isAhead_6 (Nat.le_of_ble_eq_true rfl) ?_
  refine r_iret dX5_isAhead_9 rfl (by first | exact bI_nar _ | rfl) ?_ ?_
  · rfl
  · exact HE.rf
theorem M_isSoon {x : Int32} {h : AH} : Sp 1 mX5_isSoon [.int x] h (some (.int (bI (inR x (nI 1) (nI 100))))) h := by
  refine Sp.of [some (.int x)] mrX5_isSoon.1 rfl (Nat.le_of_ble_eq_true rfl) rfl (fun X => ?_)
  refine r_iload_n dX5_isSoon_0 rfl ?_
  refine r_i2l dX5_isSoon_1 ?_
  refine r_lconst (v := 1) dX5_isSoon_2 (by decide) ?_
  refine r_ldc2 kX5_169 dX5_isSoon_3 ?_
  refine r_s3r (M_in (lo := nI 1) (hi := nI 100) (by decide) (by decide)) (Nat.le_of_ble_eq_true rfl) mrX5_in lkX5_46 dX5_isSoon_6 (Nat.le_of_ble_eq_true rfl) ?_
  refine r_iret dX5_isSoon_9 rfl (by first | exact bI_nar _ | rfl) ?_ ?_
  · rfl
  · exact HE.rf
theorem M_isOne {x : Int32} {h : AH} : Sp 1 mX5_isOne [.int x] h (some (.int (bI (inR x (nI 0) (nI 3))))) h := by
  refine Sp.of [some (.int x)] mrX5_isOne.1 rfl (Nat.le_of_ble_eq_true rfl) rfl (fun X => ?_)
  refine r_iload_n dX5_isOne_0 rfl ?_
  refine r_i2l dX5_isOne_1 ?_
  refine r_lconst (v := 0) dX5_isOne_2 (by decide) ?_
  refine r_ldc2 kX5_285 dX5_isOne_3 ?_
  refine r_s3r (M_in (lo := nI 0) (hi := nI 3) (by decide) (by decide)) (Nat.le_of_ble_eq_true rfl) mrX5_in lkX5_46 dX5_isOne_6 (Nat.le_of_ble_eq_true rfl) ?_
  refine r_iret dX5_isOne_9 rfl (by first | exact bI_nar _ | rfl) ?_ ?_
  · rfl
  · exact HE.rf
theorem M_isLetter {x : Int32} {h : AH} : Sp 1 mX5_isLetter [.int x] h (some (.int (bI (inR x (nI 97) (nI 122))))) h := by
  refine Sp.of [some (.int x)] mrX5_isLetter.1 rfl (Nat.le_of_ble_eq_true rfl) rfl (fun X => ?_)
  refine r_iload_n dX5_isLetter_0 rfl ?_
  refine r_i2l dX5_isLetter_1 ?_
  refine r_ldc2 kX5_186 dX5_isLetter_2 ?_
  refine r_ldc2 kX5_188 dX5_isLetter_5 ?_
  refine r_s3r (M_in (lo := nI 97) (hi := nI 122) (by decide) (by decide)) (Nat.le_of_ble_eq_true rfl) mrX5_in lkX5_46 dX5_isLetter_8 (Nat.le_of_ble_eq_true rfl) ?_
  refine r_iret dX5_isLetter_11 rfl (by first | exact bI_nar _ | rfl) ?_ ?_
  · rfl
  · exact HE.rf
theorem M_isDigit {x : Int32} {h : AH} : Sp 1 mX5_isDigit [.int x] h (some (.int (bI (inR x (nI 48) (nI 57))))) h := by
  refine Sp.of [some (.int x)] mrX5_isDigit.1 rfl (Nat.le_of_ble_eq_true rfl) rfl (fun X => ?_)
  refine r_iload_n dX5_isDigit_0 rfl ?_
  refine r_i2l dX5_isDigit_1 ?_
  refine r_ldc2 kX5_190 dX5_isDigit_2 ?_
  refine r_ldc2 kX5_192 dX5_isDigit_5 ?_
  refine r_s3r (M_in (lo := nI 48) (hi := nI 57) (by decide) (by decide)) (Nat.le_of_ble_eq_true rfl) mrX5_in lkX5_46 dX5_isDigit_8 (Nat.le_of_ble_eq_true rfl) ?_
  refine r_iret dX5_isDigit_11 rfl (by first | exact bI_nar _ | rfl) ?_ ?_
  · rfl
  · exact HE.rf
theorem M_together2 {R : RS} {ks ot as : Nat → Int32} {fl : Int32} {kp : Bool} {tc : Nat → Int32} {g : GO} (hn : cnt R ≤ 8) : Sp 2 mX5_together [.ref 0, .int (nI 2)] (hM (enc R) ks ot as fl kp tc g) (some (.int (sumF (rS R) (cnt R)))) (hM (enc R) ks ot as fl kp tc g) := by
  refine Sp.of [some (.ref 0), some (.int (nI 2)), none, none] mrX5_together.1 rfl (Nat.le_of_ble_eq_true rfl) rfl (fun X => ?_)
  have L : ∀ (k i : Nat), i + k = cnt R → Run X 2 mX5_together 4 [some (.ref 0), some (.int (nI 2)), some (.int (sumF (rS R) i)), some (.int (nI i))] [] (hM (enc R) ks ot as fl kp tc g) (some (.int (sumF (rS R) (cnt R)))) (hM (enc R) ks ot as fl kp tc g) := by
    intro k
    induction k with
    | zero =>
      intro i hi
      obtain rfl : i = cnt R := by omega
      refine r_iload_n dX5_together_4 rfl ?_
      refine r_aload_n dX5_together_5 rfl ?_
      refine r_getfield dX5_together_6 gfX5_7 rfl rfl ?_
      refine r_iconst (v := nI 1) dX5_together_9 (by decide) ?_
      refine r_ialdN dX5_together_10 rfl (by first | decide | omega) (Nat.le_of_ble_eq_true rfl) enc1 ?_
      refine r_icmp_ge 29 dX5_together_11 (by decide) (fun c11 => ?_) (fun c11 => ?_)
      · refine r_iload_n dX5_together_29 rfl ?_
        refine r_iret dX5_together_30 rfl rfl ?_ ?_
        · rfl
        · exact HE.rf
      · exact absurd (nI_le (Nat.le_refl _) (by omega)) c11
    | succ k ih =>
      intro i hi
      refine r_iload_n dX5_together_4 rfl ?_
      refine r_aload_n dX5_together_5 rfl ?_
      refine r_getfield dX5_together_6 gfX5_7 rfl rfl ?_
      refine r_iconst (v := nI 1) dX5_together_9 (by decide) ?_
      refine r_ialdN dX5_together_10 rfl (by first | decide | omega) (Nat.le_of_ble_eq_true rfl) enc1 ?_
      refine r_icmp_ge 29 dX5_together_11 (by decide) (fun c11 => ?_) (fun c11 => ?_)
      · exact absurd c11 (nI_ge (by omega) (by omega))
      · refine r_iload_n dX5_together_14 rfl ?_
        refine r_aload_n dX5_together_15 rfl ?_
        refine r_iload_n dX5_together_16 rfl ?_
        refine r_iload_n dX5_together_17 rfl ?_
        refine r_v2r (M_its2 (by omega)) (Nat.le_of_ble_eq_true rfl) mrX5_its lkX5_54 rfl rfl rfl dX5_together_18 (Nat.le_of_ble_eq_true rfl) ?_
        refine r_iadd dX5_together_21 ?_
        refine r_istore_n (lv' := [_, _, _, _]) dX5_together_22 (by decide) rfl ?_
        refine r_iinc (lv' := [_, _, _, _]) dX5_together_23 (by decide) rfl (by first | exact inc1 _ | exact inc1_ _) rfl ?_
        refine r_goto 4 dX5_together_26 (by decide) ?_
        exact ih (i + 1) (by omega)
  refine r_iconst (v := nI 0) dX5_together_0 (by decide) ?_
  refine r_istore_n (lv' := [_, _, _, _]) dX5_together_1 (by decide) rfl ?_
  refine r_iconst (v := nI 0) dX5_together_2 (by decide) ?_
  refine r_istore_n (lv' := [_, _, _, _]) dX5_together_3 (by decide) rfl ?_
  exact L (cnt R) 0 (by omega)
theorem M_together3 {R : RS} {ks ot as : Nat → Int32} {fl : Int32} {kp : Bool} {tc : Nat → Int32} {g : GO} (hn : cnt R ≤ 8) : Sp 2 mX5_together [.ref 0, .int (nI 3)] (hM (enc R) ks ot as fl kp tc g) (some (.int (sumF (rN R) (cnt R)))) (hM (enc R) ks ot as fl kp tc g) := by
  refine Sp.of [some (.ref 0), some (.int (nI 3)), none, none] mrX5_together.1 rfl (Nat.le_of_ble_eq_true rfl) rfl (fun X => ?_)
  have L : ∀ (k i : Nat), i + k = cnt R → Run X 2 mX5_together 4 [some (.ref 0), some (.int (nI 3)), some (.int (sumF (rN R) i)), some (.int (nI i))] [] (hM (enc R) ks ot as fl kp tc g) (some (.int (sumF (rN R) (cnt R)))) (hM (enc R) ks ot as fl kp tc g) := by
    intro k
    induction k with
    | zero =>
      intro i hi
      obtain rfl : i = cnt R := by omega
      refine r_iload_n dX5_together_4 rfl ?_
      refine r_aload_n dX5_together_5 rfl ?_
      refine r_getfield dX5_together_6 gfX5_7 rfl rfl ?_
      refine r_iconst (v := nI 1) dX5_together_9 (by decide) ?_
      refine r_ialdN dX5_together_10 rfl (by first | decide | omega) (Nat.le_of_ble_eq_true rfl) enc1 ?_
      refine r_icmp_ge 29 dX5_together_11 (by decide) (fun c11 => ?_) (fun c11 => ?_)
      · refine r_iload_n dX5_together_29 rfl ?_
        refine r_iret dX5_together_30 rfl rfl ?_ ?_
        · rfl
        · exact HE.rf
      · exact absurd (nI_le (Nat.le_refl _) (by omega)) c11
    | succ k ih =>
      intro i hi
      refine r_iload_n dX5_together_4 rfl ?_
      refine r_aload_n dX5_together_5 rfl ?_
      refine r_getfield dX5_together_6 gfX5_7 rfl rfl ?_
      refine r_iconst (v := nI 1) dX5_together_9 (by decide) ?_
      refine r_ialdN dX5_together_10 rfl (by first | decide | omega) (Nat.le_of_ble_eq_true rfl) enc1 ?_
      refine r_icmp_ge 29 dX5_together_11 (by decide) (fun c11 => ?_) (fun c11 => ?_)
      · exact absurd c11 (nI_ge (by omega) (by omega))
      · refine r_iload_n dX5_together_14 rfl ?_
        refine r_aload_n dX5_together_15 rfl ?_
        refine r_iload_n dX5_together_16 rfl ?_
        refine r_iload_n dX5_together_17 rfl ?_
        refine r_v2r (M_its3 (by omega)) (Nat.le_of_ble_eq_true rfl) mrX5_its lkX5_54 rfl rfl rfl dX5_together_18 (Nat.le_of_ble_eq_true rfl) ?_
        refine r_iadd dX5_together_21 ?_
        refine r_istore_n (lv' := [_, _, _, _]) dX5_together_22 (by decide) rfl ?_
        refine r_iinc (lv' := [_, _, _, _]) dX5_together_23 (by decide) rfl (by first | exact inc1 _ | exact inc1_ _) rfl ?_
        refine r_goto 4 dX5_together_26 (by decide) ?_
        exact ih (i + 1) (by omega)
  refine r_iconst (v := nI 0) dX5_together_0 (by decide) ?_
  refine r_istore_n (lv' := [_, _, _, _]) dX5_together_1 (by decide) rfl ?_
  refine r_iconst (v := nI 0) dX5_together_2 (by decide) ?_
  refine r_istore_n (lv' := [_, _, _, _]) dX5_together_3 (by decide) rfl ?_
  exact L (cnt R) 0 (by omega)
theorem M_paceOf {R : RS} {ks ot as : Nat → Int32} {fl : Int32} {kp : Bool} {tc : Nat → Int32} {g : GO} {x : Int32} : Sp 0 mX5_paceOf [.ref 0, .int x] (hM (enc R) ks ot as fl kp tc g) (some (.int (pcO (rT R) x))) (hM (enc R) ks ot as fl kp tc g) := by
  refine Sp.of [some (.ref 0), some (.int x), none] mrX5_paceOf.1 rfl (Nat.le_of_ble_eq_true rfl) rfl (fun X => ?_)
  refine r_aload_n dX5_paceOf_0 rfl ?_
  refine r_getfield dX5_paceOf_1 gfX5_7 rfl rfl ?_
  refine r_iconst (v := nI 0) dX5_paceOf_4 (by decide) ?_
  refine r_ialdN dX5_paceOf_5 rfl (by first | decide | omega) (Nat.le_of_ble_eq_true rfl) enc0 ?_
  refine r_iload_n dX5_paceOf_6 rfl ?_
  refine r_isub dX5_paceOf_7 ?_
  refine r_bipush (v := nI 30) dX5_paceOf_8 (by decide) ?_
  refine r_irem dX5_paceOf_10 (by decide) ?_
  refine r_istore_n (lv' := [_, _, _]) dX5_paceOf_11 (by decide) rfl ?_
  refine r_iload_n dX5_paceOf_12 rfl ?_
  refine r_if_ge 23 dX5_paceOf_13 (by decide) (fun c13 => ?_) (fun c13 => ?_)
  · refine r_iload_n dX5_paceOf_23 rfl ?_
    refine r_iret dX5_paceOf_24 rfl rfl ?_ ?_
    · rw [pcO, pc_eq]
      first | (rw [if_pos (show 0 ≤ rm30 (rT R - x) from c13)]; rfl) | (rw [if_neg (show ¬ 0 ≤ rm30 (rT R - x) from c13)]; rfl)
    · exact HE.rf
  · refine r_iload_n dX5_paceOf_16 rfl ?_
    refine r_bipush (v := nI 30) dX5_paceOf_17 (by decide) ?_
    refine r_iadd dX5_paceOf_19 ?_
    refine r_goto 24 dX5_paceOf_20 (by decide) ?_
    refine r_iret dX5_paceOf_24 rfl rfl ?_ ?_
    · rw [pcO, pc_eq]
      first | (rw [if_pos (show 0 ≤ rm30 (rT R - x) from c13)]; rfl) | (rw [if_neg (show ¬ 0 ≤ rm30 (rT R - x) from c13)]; rfl)
    · exact HE.rf
theorem M_isAtRoot {R : RS} {ks ot as : Nat → Int32} {fl : Int32} {kp : Bool} {tc : Nat → Int32} {g : GO} {p : Nat} : Sp 1 mX5_isAtRoot [.ref 0, .int (nI p)] (hM (enc R) ks ot as fl kp tc g) (some (.int (bI (atR (rT R) (rR R) p)))) (hM (enc R) ks ot as fl kp tc g) := by
  refine Sp.of [some (.ref 0), some (.int (nI p))] mrX5_isAtRoot.1 rfl (Nat.le_of_ble_eq_true rfl) rfl (fun X => ?_)
  refine r_aload_n dX5_isAtRoot_0 rfl ?_
  refine r_getfield dX5_isAtRoot_1 gfX5_7 rfl rfl ?_
  refine r_iconst (v := nI 2) dX5_isAtRoot_4 (by decide) ?_
  refine r_ialdN dX5_isAtRoot_5 rfl (by first | decide | omega) (Nat.le_of_ble_eq_true rfl) enc2 ?_
  refine r_aload_n dX5_isAtRoot_6 rfl ?_
  refine r_iload_n dX5_isAtRoot_7 rfl ?_
  refine r_v1r M_paceOf (Nat.le_of_ble_eq_true rfl) mrX5_paceOf lkX5_57 rfl rfl rfl dX5_isAtRoot_8 (Nat.le_of_ble_eq_true rfl) ?_
  refine r_ishr dX5_isAtRoot_11 ?_
  refine r_iconst (v := nI 1) dX5_isAtRoot_12 (by decide) ?_
  refine r_iand dX5_isAtRoot_13 ?_
  refine r_iconst (v := nI 1) dX5_isAtRoot_14 (by decide) ?_
  refine r_icmp_ne 22 dX5_isAtRoot_15 (by decide) (fun c15 => ?_) (fun c15 => ?_)
  · refine r_iconst (v := nI 0) dX5_isAtRoot_22 (by decide) ?_
    refine r_iret dX5_isAtRoot_23 rfl (by first | exact bI_nar _ | rfl) ?_ ?_
    · first | exact ret_t (decide_eq_true c15) | exact ret_f (decide_eq_false c15)
    · exact HE.rf
  · refine r_iconst (v := nI 1) dX5_isAtRoot_18 (by decide) ?_
    refine r_goto 23 dX5_isAtRoot_19 (by decide) ?_
    refine r_iret dX5_isAtRoot_23 rfl (by first | exact bI_nar _ | rfl) ?_ ?_
    · first | exact ret_t (decide_eq_true c15) | exact ret_f (decide_eq_false c15)
    · exact HE.rf
theorem M_shadesOf {R : RS} {ks ot as : Nat → Int32} {fl : Int32} {kp : Bool} {tc : Nat → Int32} {g : GO} {p : Nat} (hp : p < 8) : Sp 2 mX5_shadesOf [.ref 0, .int (nI p)] (hM (enc R) ks ot as fl kp tc g) (some (.int (shd (rK R p)))) (hM (enc R) ks ot as fl kp tc g) := by
  refine Sp.of [some (.ref 0), some (.int (nI p)), none] mrX5_shadesOf.1 rfl (Nat.le_of_ble_eq_true rfl) rfl (fun X => ?_)
  refine r_aload_n dX5_shadesOf_0 rfl ?_
  refine r_iload_n dX5_shadesOf_1 rfl ?_
  refine r_iconst (v := nI 0) dX5_shadesOf_2 (by decide) ?_
  refine r_v2r (M_its0 (by omega)) (Nat.le_of_ble_eq_true rfl) mrX5_its lkX5_54 rfl rfl rfl dX5_shadesOf_3 (Nat.le_of_ble_eq_true rfl) ?_
  refine r_istore_n (lv' := [_, _, _]) dX5_shadesOf_6 (by decide) rfl ?_
  refine r_iload_n dX5_shadesOf_7 rfl ?_
  refine r_iconst (v := nI 1) dX5_shadesOf_8 (by decide) ?_
  refine r_icmp_ne 16 dX5_shadesOf_9 (by decide) (fun c9 => ?_) (fun c9 => ?_)
  · refine r_iload_n dX5_shadesOf_16 rfl ?_
    refine r_iconst (v := nI 4) dX5_shadesOf_17 (by decide) ?_
    refine r_icmp_ne 25 dX5_shadesOf_18 (by decide) (fun c18 => ?_) (fun c18 => ?_)
    · refine r_iconst (v := nI 0) dX5_shadesOf_25 (by decide) ?_
      refine r_iret dX5_shadesOf_26 rfl rfl ?_ ?_
      · first | (rw [shd, if_pos c9]; done) | (rw [shd, if_neg c9, if_pos c18]; done) | (rw [shd, if_neg c9, if_neg c18]; done)
      · exact HE.rf
    · refine r_iconst (v := nI 2) dX5_shadesOf_21 (by decide) ?_
      refine r_goto 26 dX5_shadesOf_22 (by decide) ?_
      refine r_iret dX5_shadesOf_26 rfl rfl ?_ ?_
      · first | (rw [shd, if_pos c9]; done) | (rw [shd, if_neg c9, if_pos c18]; done) | (rw [shd, if_neg c9, if_neg c18]; done)
      · exact HE.rf
  · refine r_iconst (v := nI 1) dX5_shadesOf_12 (by decide) ?_
    refine r_goto 26 dX5_shadesOf_13 (by decide) ?_
    refine r_iret dX5_shadesOf_26 rfl rfl ?_ ?_
    · first | (rw [shd, if_pos c9]; done) | (rw [shd, if_neg c9, if_pos c18]; done) | (rw [shd, if_neg c9, if_neg c18]; done)
    · exact HE.rf
def farF (l x : Int32) : Int32 := if l ≤ x then x - l else l - x
theorem M_farOf {R : RS} {ks ot as : Nat → Int32} {fl : Int32} {kp : Bool} {tc : Nat → Int32} {g : GO} {x : Int32} : Sp 0 mX5_farOf [.ref 0, .int x] (hM (enc R) ks ot as fl kp tc g) (some (.int (farF (rL R) x))) (hM (enc R) ks ot as fl kp tc g) := by
  refine Sp.of [some (.ref 0), some (.int x)] mrX5_farOf.1 rfl (Nat.le_of_ble_eq_true rfl) rfl (fun X => ?_)
  refine r_iload_n dX5_farOf_0 rfl ?_
  refine r_aload_n dX5_farOf_1 rfl ?_
  refine r_getfield dX5_farOf_2 gfX5_7 rfl rfl ?_
  refine r_iconst (v := nI 3) dX5_farOf_5 (by decide) ?_
  refine r_ialdN dX5_farOf_6 rfl (by first | decide | omega) (Nat.le_of_ble_eq_true rfl) enc3 ?_
  refine r_icmp_ge 21 dX5_farOf_7 (by decide) (fun c7 => ?_) (fun c7 => ?_)
  · refine r_iload_n dX5_farOf_21 rfl ?_
    refine r_aload_n dX5_farOf_22 rfl ?_
    refine r_getfield dX5_farOf_23 gfX5_7 rfl rfl ?_
    refine r_iconst (v := nI 3) dX5_farOf_26 (by decide) ?_
    refine r_ialdN dX5_farOf_27 rfl (by first | decide | omega) (Nat.le_of_ble_eq_true rfl) enc3 ?_
    refine r_isub dX5_farOf_28 ?_
    refine r_iret dX5_farOf_29 rfl rfl ?_ ?_
    · first | (rw [farF, if_pos c7]; done) | (rw [farF, if_neg c7]; done)
    · exact HE.rf
  · refine r_aload_n dX5_farOf_10 rfl ?_
    refine r_getfield dX5_farOf_11 gfX5_7 rfl rfl ?_
    refine r_iconst (v := nI 3) dX5_farOf_14 (by decide) ?_
    refine r_ialdN dX5_farOf_15 rfl (by first | decide | omega) (Nat.le_of_ble_eq_true rfl) enc3 ?_
    refine r_iload_n dX5_farOf_16 rfl ?_
    refine r_isub dX5_farOf_17 ?_
    refine r_goto 29 dX5_farOf_18 (by decide) ?_
    refine r_iret dX5_farOf_29 rfl rfl ?_ ?_
    · first | (rw [farF, if_pos c7]; done) | (rw [farF, if_neg c7]; done)
    · exact HE.rf
theorem far_n {a p : Nat} (ha : a < 2 ^ 30) (hp : p < 2 ^ 30) : farF (nI a) (nI p) = if a ≤ p then nI (p - a) else nI (a - p) := by
  unfold farF
  by_cases h : a ≤ p
  · rw [if_pos (nI_le h (by omega)), if_pos h, pk_sub h]
  · rw [if_neg (nI_ge (by omega) (by omega)), if_neg h, pk_sub (by omega)]
theorem lit_far {b : Int32} {K : Nat → Int32} {a p : Nat} (ha : a < 8) (hp : p < 8) (hb : 0 ≤ b) : litF b K a p = (decide (farF (nI a) (nI p) = 0) || decide (farF (nI a) (nI p) ≤ rck b K a (p - (a + 1)))) := by
  rw [far_n (by omega) (by omega)]
  by_cases h : p ≤ a
  · rw [litF_lo h, show p - (a + 1) = 0 by omega, pk_sub h]
    by_cases q : p = a
    · subst q
      rw [if_pos (Nat.le_refl _), Nat.sub_self]
      have h1 : decide (nI 0 ≤ b) = true := decide_eq_true hb
      rw [h1]
      rfl
    · rw [if_neg (by omega), decide_eq_false (nI_ne0 (by omega) (by omega)), Bool.false_or]
      rfl
  · obtain ⟨j, rfl⟩ : ∃ j, p = a + 1 + j := ⟨p - (a + 1), by omega⟩
    rw [litF_hi, if_pos (by omega), decide_eq_false (nI_ne0 (by omega) (by omega)), Bool.false_or, show a + 1 + j - (a + 1) = j by omega, pk_sub (by omega)]
theorem M_isLit {R : RS} {ks ot as : Nat → Int32} {fl : Int32} {kp : Bool} {tc : Nat → Int32} {g : GO} {p : Nat} (hn : cnt R ≤ 8) (hp : p < 8) (hb : 0 ≤ rB R) : Sp 3 mX5_isLit [.ref 0, .int (nI p)] (hM (enc R) ks ot as fl kp tc g) (some (.int (bI (lit (rL R) (rB R) (cnt R) (rK R) p)))) (hM (enc R) ks ot as fl kp tc g) := by
  refine Sp.of [some (.ref 0), some (.int (nI p)), none, none] mrX5_isLit.1 rfl (Nat.le_of_ble_eq_true rfl) rfl (fun X => ?_)
  cases hl : hasB (cnt R) (rL R) with
  | false =>
    refine r_aload_n dX5_isLit_0 rfl ?_
    refine r_aload_n dX5_isLit_1 rfl ?_
    refine r_getfield dX5_isLit_2 gfX5_7 rfl rfl ?_
    refine r_iconst (v := nI 3) dX5_isLit_5 (by decide) ?_
    refine r_ialdN dX5_isLit_6 rfl (by first | decide | omega) (Nat.le_of_ble_eq_true rfl) enc3 ?_
    refine r_v1r (M_isPlace hn) (Nat.le_of_ble_eq_true rfl) mrX5_isPlace lkX5_69 rfl rfl rfl dX5_isLit_7 (Nat.le_of_ble_eq_true rfl) ?_
    refine r_if_neB 15 dX5_isLit_10 (by decide) (fun c10 => ?_) (fun c10 => ?_)
    · exact absurd c10 (by rw [hl]; decide)
    · refine r_iconst (v := nI 0) dX5_isLit_13 (by decide) ?_
      refine r_iret dX5_isLit_14 rfl (by first | exact bI_nar _ | rfl) ?_ ?_
      · exact ret_f (by rw [lit, hl]; rfl)
      · exact HE.rf
  | true =>
    obtain ⟨a, ha, ea⟩ := hasB_of hl (by omega)
    have ev : lit (rL R) (rB R) (cnt R) (rK R) p = (decide (farF (rL R) (nI p) = 0) || decide (farF (rL R) (nI p) ≤ rck (rB R) (rK R) a (p - (a + 1)))) := by
      rw [lit, hl, Bool.true_and, ea, nI_clamp (by omega)]
      exact lit_far (by omega) (by omega) hb
    rw [ev]
    have E : ∀ z : Int32, Run X 3 mX5_isLit 50 [some (.ref 0), some (.int (nI p)), some (.int (rck (rB R) (rK R) a (p - (a + 1)))), some (.int z)] [] (hM (enc R) ks ot as fl kp tc g) (some (.int (bI (decide (farF (rL R) (nI p) = 0) || decide (farF (rL R) (nI p) ≤ rck (rB R) (rK R) a (p - (a + 1))))))) (hM (enc R) ks ot as fl kp tc g) := by
      intro z
      refine r_aload_n dX5_isLit_50 rfl ?_
      refine r_iload_n dX5_isLit_51 rfl ?_
      refine r_v1r M_farOf (Nat.le_of_ble_eq_true rfl) mrX5_farOf lkX5_78 rfl rfl rfl dX5_isLit_52 (Nat.le_of_ble_eq_true rfl) ?_
      refine r_if_eq 67 dX5_isLit_55 (by decide) (fun c55 => ?_) (fun c55 => ?_)
      · refine r_iconst (v := nI 1) dX5_isLit_67 (by decide) ?_
        refine r_goto 72 dX5_isLit_68 (by decide) ?_
        refine r_iret dX5_isLit_72 rfl (by first | exact bI_nar _ | rfl) ?_ ?_
        · first | exact ret_t (by rw [decide_eq_true c55]; rfl) | exact ret_t (by rw [decide_eq_true (Int32.not_lt.mp c64), Bool.or_true]) | exact ret_f (by rw [decide_eq_false c55, decide_eq_false (Int32.not_le.mpr c64)]; rfl)
        · exact HE.rf
      · refine r_aload_n dX5_isLit_58 rfl ?_
        refine r_iload_n dX5_isLit_59 rfl ?_
        refine r_v1r M_farOf (Nat.le_of_ble_eq_true rfl) mrX5_farOf lkX5_78 rfl rfl rfl dX5_isLit_60 (Nat.le_of_ble_eq_true rfl) ?_
        refine r_iload_n dX5_isLit_63 rfl ?_
        refine r_icmp_gt 71 dX5_isLit_64 (by decide) (fun c64 => ?_) (fun c64 => ?_)
        · refine r_iconst (v := nI 0) dX5_isLit_71 (by decide) ?_
          refine r_iret dX5_isLit_72 rfl (by first | exact bI_nar _ | rfl) ?_ ?_
          · first | exact ret_t (by rw [decide_eq_true c55]; rfl) | exact ret_t (by rw [decide_eq_true (Int32.not_lt.mp c64), Bool.or_true]) | exact ret_f (by rw [decide_eq_false c55, decide_eq_false (Int32.not_le.mpr c64)]; rfl)
          · exact HE.rf
        · refine r_iconst (v := nI 1) dX5_isLit_67 (by decide) ?_
          refine r_goto 72 dX5_isLit_68 (by decide) ?_
          refine r_iret dX5_isLit_72 rfl (by first | exact bI_nar _ | rfl) ?_ ?_
          · first | exact ret_t (by rw [decide_eq_true c55]; rfl) | exact ret_t (by rw [decide_eq_true (Int32.not_lt.mp c64), Bool.or_true]) | exact ret_f (by rw [decide_eq_false c55, decide_eq_false (Int32.not_le.mpr c64)]; rfl)
          · exact HE.rf
    have L : ∀ (k j : Nat), j + k = p - (a + 1) → Run X 3 mX5_isLit 31 [some (.ref 0), some (.int (nI p)), some (.int (rck (rB R) (rK R) a j)), some (.int (nI (a + 1 + j)))] [] (hM (enc R) ks ot as fl kp tc g) (some (.int (bI (decide (farF (rL R) (nI p) = 0) || decide (farF (rL R) (nI p) ≤ rck (rB R) (rK R) a (p - (a + 1))))))) (hM (enc R) ks ot as fl kp tc g) := by
      intro k
      induction k with
      | zero =>
        intro j hj
        obtain rfl : j = p - (a + 1) := by omega
        refine r_iload_n dX5_isLit_31 rfl ?_
        refine r_iload_n dX5_isLit_32 rfl ?_
        refine r_icmp_ge 50 dX5_isLit_33 (by decide) (fun c33 => ?_) (fun c33 => ?_)
        · exact E _
        · exact absurd (nI_le (by omega) (by omega)) c33
      | succ k ih =>
        intro j hj
        refine r_iload_n dX5_isLit_31 rfl ?_
        refine r_iload_n dX5_isLit_32 rfl ?_
        refine r_icmp_ge 50 dX5_isLit_33 (by decide) (fun c33 => ?_) (fun c33 => ?_)
        · exact absurd c33 (nI_ge (by omega) (by omega))
        · refine r_iload_n dX5_isLit_36 rfl ?_
          refine r_aload_n dX5_isLit_37 rfl ?_
          refine r_iload_n dX5_isLit_38 rfl ?_
          refine r_v1r (M_shadesOf (by omega)) (Nat.le_of_ble_eq_true rfl) mrX5_shadesOf lkX5_75 rfl rfl rfl dX5_isLit_39 (Nat.le_of_ble_eq_true rfl) ?_
          refine r_isub dX5_isLit_42 ?_
          refine r_istore_n (lv' := [_, _, _, _]) dX5_isLit_43 (by decide) rfl ?_
          refine r_iinc (lv' := [_, _, _, _]) dX5_isLit_44 (by decide) rfl (by first | exact inc1 _ | exact inc1_ _) rfl ?_
          refine r_goto 31 dX5_isLit_47 (by decide) ?_
          exact ih (j + 1) (by omega)
    refine r_aload_n dX5_isLit_0 rfl ?_
    refine r_aload_n dX5_isLit_1 rfl ?_
    refine r_getfield dX5_isLit_2 gfX5_7 rfl rfl ?_
    refine r_iconst (v := nI 3) dX5_isLit_5 (by decide) ?_
    refine r_ialdN dX5_isLit_6 rfl (by first | decide | omega) (Nat.le_of_ble_eq_true rfl) enc3 ?_
    refine r_v1r (M_isPlace hn) (Nat.le_of_ble_eq_true rfl) mrX5_isPlace lkX5_69 rfl rfl rfl dX5_isLit_7 (Nat.le_of_ble_eq_true rfl) ?_
    refine r_if_neB 15 dX5_isLit_10 (by decide) (fun c10 => ?_) (fun c10 => ?_)
    · refine r_aload_n dX5_isLit_15 rfl ?_
      refine r_getfield dX5_isLit_16 gfX5_7 rfl rfl ?_
      refine r_iconst (v := nI 4) dX5_isLit_19 (by decide) ?_
      refine r_ialdN dX5_isLit_20 rfl (by first | decide | omega) (Nat.le_of_ble_eq_true rfl) enc4 ?_
      refine r_istore_n (lv' := [_, _, _, _]) dX5_isLit_21 (by decide) rfl ?_
      refine r_aload_n dX5_isLit_22 rfl ?_
      refine r_getfield dX5_isLit_23 gfX5_7 rfl rfl ?_
      refine r_iconst (v := nI 3) dX5_isLit_26 (by decide) ?_
      refine r_ialdN dX5_isLit_27 rfl (by first | decide | omega) (Nat.le_of_ble_eq_true rfl) enc3 ?_
      refine r_iconst (v := nI 1) dX5_isLit_28 (by decide) ?_
      refine r_iadd dX5_isLit_29 ?_
      refine r_istore_n (lv' := [_, _, _, _]) dX5_isLit_30 (by decide) rfl ?_
      rw [ea, nI_add]
      have e := L (p - (a + 1)) 0 (by omega)
      rw [ea] at e
      exact e
    · exact absurd c10 (by rw [hl]; decide)
theorem lit_set {l b : Int32} {n : Nat} {K : Nat → Int32} : setOf (lit l b n K) n = litS l b n K := by
  unfold litS
  cases h : hasB n l with
  | true => exact setOf_cong (fun p _ => by rw [lit, h, Bool.true_and])
  | false =>
    have : ∀ m, setOf (lit l b n K) m = nI 0 := by
      intro m
      induction m with
      | zero => rfl
      | succ m ih => rw [setOf_f (by rw [lit, h, Bool.false_and]), ih]
    exact this n
theorem M_litOnes {R : RS} {ks ot as : Nat → Int32} {fl : Int32} {kp : Bool} {tc : Nat → Int32} {g : GO} (hn : cnt R ≤ 8) (hb : 0 ≤ rB R) : Sp 4 mX5_litOnes [.ref 0] (hM (enc R) ks ot as fl kp tc g) (some (.int (setOf (lit (rL R) (rB R) (cnt R) (rK R)) (cnt R)))) (hM (enc R) ks ot as fl kp tc g) := by
  refine Sp.of [some (.ref 0), none, none] mrX5_litOnes.1 rfl (Nat.le_of_ble_eq_true rfl) rfl (fun X => ?_)
  have L : ∀ (k i : Nat), i + k = cnt R → Run X 4 mX5_litOnes 4 [some (.ref 0), some (.int (setOf (lit (rL R) (rB R) (cnt R) (rK R)) i)), some (.int (nI i))] [] (hM (enc R) ks ot as fl kp tc g) (some (.int (setOf (lit (rL R) (rB R) (cnt R) (rK R)) (cnt R)))) (hM (enc R) ks ot as fl kp tc g) := by
    intro k
    induction k with
    | zero =>
      intro i hi
      obtain rfl : i = cnt R := by omega
      refine r_iload_n dX5_litOnes_4 rfl ?_
      refine r_aload_n dX5_litOnes_5 rfl ?_
      refine r_getfield dX5_litOnes_6 gfX5_7 rfl rfl ?_
      refine r_iconst (v := nI 1) dX5_litOnes_9 (by decide) ?_
      refine r_ialdN dX5_litOnes_10 rfl (by first | decide | omega) (Nat.le_of_ble_eq_true rfl) enc1 ?_
      refine r_icmp_ge 38 dX5_litOnes_11 (by decide) (fun c11 => ?_) (fun c11 => ?_)
      · refine r_iload_n dX5_litOnes_38 rfl ?_
        refine r_iret dX5_litOnes_39 rfl rfl ?_ ?_
        · rfl
        · exact HE.rf
      · exact absurd (nI_le (Nat.le_refl _) (by omega)) c11
    | succ k ih =>
      intro i hi
      refine r_iload_n dX5_litOnes_4 rfl ?_
      refine r_aload_n dX5_litOnes_5 rfl ?_
      refine r_getfield dX5_litOnes_6 gfX5_7 rfl rfl ?_
      refine r_iconst (v := nI 1) dX5_litOnes_9 (by decide) ?_
      refine r_ialdN dX5_litOnes_10 rfl (by first | decide | omega) (Nat.le_of_ble_eq_true rfl) enc1 ?_
      refine r_icmp_ge 38 dX5_litOnes_11 (by decide) (fun c11 => ?_) (fun c11 => ?_)
      · exact absurd c11 (nI_ge (by omega) (by omega))
      · refine r_iload_n dX5_litOnes_14 rfl ?_
        refine r_aload_n dX5_litOnes_15 rfl ?_
        refine r_iload_n dX5_litOnes_16 rfl ?_
        refine r_v1r (M_isLit hn (by omega) hb) (Nat.le_of_ble_eq_true rfl) mrX5_isLit lkX5_81 rfl rfl rfl dX5_litOnes_17 (Nat.le_of_ble_eq_true rfl) ?_
        refine r_if_eqB 29 dX5_litOnes_20 (by decide) (fun c20 => ?_) (fun c20 => ?_)
        · refine r_iconst (v := nI 0) dX5_litOnes_29 (by decide) ?_
          refine r_ior dX5_litOnes_30 ?_
          refine r_istore_n (lv' := [_, _, _]) dX5_litOnes_31 (by decide) rfl ?_
          refine r_iinc (lv' := [_, _, _]) dX5_litOnes_32 (by decide) rfl (by first | exact inc1 _ | exact inc1_ _) rfl ?_
          refine r_goto 4 dX5_litOnes_35 (by decide) ?_
          have e := ih (i + 1) (by omega)
          first | (rw [setOf_t (f := (lit (rL R) (rB R) (cnt R) (rK R))) c20] at e; exact e) | (rw [setOf_f (f := (lit (rL R) (rB R) (cnt R) (rK R))) c20] at e; rw [or_0]; exact e)
        · refine r_iconst (v := nI 1) dX5_litOnes_23 (by decide) ?_
          refine r_iload_n dX5_litOnes_24 rfl ?_
          refine r_ishl dX5_litOnes_25 ?_
          refine r_goto 30 dX5_litOnes_26 (by decide) ?_
          refine r_ior dX5_litOnes_30 ?_
          refine r_istore_n (lv' := [_, _, _]) dX5_litOnes_31 (by decide) rfl ?_
          refine r_iinc (lv' := [_, _, _]) dX5_litOnes_32 (by decide) rfl (by first | exact inc1 _ | exact inc1_ _) rfl ?_
          refine r_goto 4 dX5_litOnes_35 (by decide) ?_
          have e := ih (i + 1) (by omega)
          first | (rw [setOf_t (f := (lit (rL R) (rB R) (cnt R) (rK R))) c20] at e; exact e) | (rw [setOf_f (f := (lit (rL R) (rB R) (cnt R) (rK R))) c20] at e; rw [or_0]; exact e)
  refine r_iconst (v := nI 0) dX5_litOnes_0 (by decide) ?_
  refine r_istore_n (lv' := [_, _, _]) dX5_litOnes_1 (by decide) rfl ?_
  refine r_iconst (v := nI 0) dX5_litOnes_2 (by decide) ?_
  refine r_istore_n (lv' := [_, _, _]) dX5_litOnes_3 (by decide) rfl ?_
  exact L (cnt R) 0 (by omega)
theorem M_rootedOnes {R : RS} {ks ot as : Nat → Int32} {fl : Int32} {kp : Bool} {tc : Nat → Int32} {g : GO} (hn : cnt R ≤ 8)  : Sp 2 mX5_rootedOnes [.ref 0] (hM (enc R) ks ot as fl kp tc g) (some (.int (setOf (atR (rT R) (rR R)) (cnt R)))) (hM (enc R) ks ot as fl kp tc g) := by
  refine Sp.of [some (.ref 0), none, none] mrX5_rootedOnes.1 rfl (Nat.le_of_ble_eq_true rfl) rfl (fun X => ?_)
  have L : ∀ (k i : Nat), i + k = cnt R → Run X 2 mX5_rootedOnes 4 [some (.ref 0), some (.int (setOf (atR (rT R) (rR R)) i)), some (.int (nI i))] [] (hM (enc R) ks ot as fl kp tc g) (some (.int (setOf (atR (rT R) (rR R)) (cnt R)))) (hM (enc R) ks ot as fl kp tc g) := by
    intro k
    induction k with
    | zero =>
      intro i hi
      obtain rfl : i = cnt R := by omega
      refine r_iload_n dX5_rootedOnes_4 rfl ?_
      refine r_aload_n dX5_rootedOnes_5 rfl ?_
      refine r_getfield dX5_rootedOnes_6 gfX5_7 rfl rfl ?_
      refine r_iconst (v := nI 1) dX5_rootedOnes_9 (by decide) ?_
      refine r_ialdN dX5_rootedOnes_10 rfl (by first | decide | omega) (Nat.le_of_ble_eq_true rfl) enc1 ?_
      refine r_icmp_ge 38 dX5_rootedOnes_11 (by decide) (fun c11 => ?_) (fun c11 => ?_)
      · refine r_iload_n dX5_rootedOnes_38 rfl ?_
        refine r_iret dX5_rootedOnes_39 rfl rfl ?_ ?_
        · rfl
        · exact HE.rf
      · exact absurd (nI_le (Nat.le_refl _) (by omega)) c11
    | succ k ih =>
      intro i hi
      refine r_iload_n dX5_rootedOnes_4 rfl ?_
      refine r_aload_n dX5_rootedOnes_5 rfl ?_
      refine r_getfield dX5_rootedOnes_6 gfX5_7 rfl rfl ?_
      refine r_iconst (v := nI 1) dX5_rootedOnes_9 (by decide) ?_
      refine r_ialdN dX5_rootedOnes_10 rfl (by first | decide | omega) (Nat.le_of_ble_eq_true rfl) enc1 ?_
      refine r_icmp_ge 38 dX5_rootedOnes_11 (by decide) (fun c11 => ?_) (fun c11 => ?_)
      · exact absurd c11 (nI_ge (by omega) (by omega))
      · refine r_iload_n dX5_rootedOnes_14 rfl ?_
        refine r_aload_n dX5_rootedOnes_15 rfl ?_
        refine r_iload_n dX5_rootedOnes_16 rfl ?_
        refine r_v1r M_isAtRoot (Nat.le_of_ble_eq_true rfl) mrX5_isAtRoot lkX5_84 rfl rfl rfl dX5_rootedOnes_17 (Nat.le_of_ble_eq_true rfl) ?_
        refine r_if_eqB 29 dX5_rootedOnes_20 (by decide) (fun c20 => ?_) (fun c20 => ?_)
        · refine r_iconst (v := nI 0) dX5_rootedOnes_29 (by decide) ?_
          refine r_ior dX5_rootedOnes_30 ?_
          refine r_istore_n (lv' := [_, _, _]) dX5_rootedOnes_31 (by decide) rfl ?_
          refine r_iinc (lv' := [_, _, _]) dX5_rootedOnes_32 (by decide) rfl (by first | exact inc1 _ | exact inc1_ _) rfl ?_
          refine r_goto 4 dX5_rootedOnes_35 (by decide) ?_
          have e := ih (i + 1) (by omega)
          first | (rw [setOf_t (f := (atR (rT R) (rR R))) c20] at e; exact e) | (rw [setOf_f (f := (atR (rT R) (rR R))) c20] at e; rw [or_0]; exact e)
        · refine r_iconst (v := nI 1) dX5_rootedOnes_23 (by decide) ?_
          refine r_iload_n dX5_rootedOnes_24 rfl ?_
          refine r_ishl dX5_rootedOnes_25 ?_
          refine r_goto 30 dX5_rootedOnes_26 (by decide) ?_
          refine r_ior dX5_rootedOnes_30 ?_
          refine r_istore_n (lv' := [_, _, _]) dX5_rootedOnes_31 (by decide) rfl ?_
          refine r_iinc (lv' := [_, _, _]) dX5_rootedOnes_32 (by decide) rfl (by first | exact inc1 _ | exact inc1_ _) rfl ?_
          refine r_goto 4 dX5_rootedOnes_35 (by decide) ?_
          have e := ih (i + 1) (by omega)
          first | (rw [setOf_t (f := (atR (rT R) (rR R))) c20] at e; exact e) | (rw [setOf_f (f := (atR (rT R) (rR R))) c20] at e; rw [or_0]; exact e)
  refine r_iconst (v := nI 0) dX5_rootedOnes_0 (by decide) ?_
  refine r_istore_n (lv' := [_, _, _]) dX5_rootedOnes_1 (by decide) rfl ?_
  refine r_iconst (v := nI 0) dX5_rootedOnes_2 (by decide) ?_
  refine r_istore_n (lv' := [_, _, _]) dX5_rootedOnes_3 (by decide) rfl ?_
  exact L (cnt R) 0 (by omega)
theorem M_heardOnes {R : RS} {ks ot as : Nat → Int32} {fl : Int32} {kp : Bool} {tc : Nat → Int32} {g : GO} (hn : cnt R ≤ 8) : Sp 2 mX5_heardOnes [.ref 0] (hM (enc R) ks ot as fl kp tc g) (some (.int (hrdS (rH R) (cnt R)))) (hM (enc R) ks ot as fl kp tc g) := by
  refine Sp.of [some (.ref 0), none, none] mrX5_heardOnes.1 rfl (Nat.le_of_ble_eq_true rfl) rfl (fun X => ?_)
  have L : ∀ (k i : Nat), i + k = cnt R → Run X 2 mX5_heardOnes 4 [some (.ref 0), some (.int (hrdS (rH R) i)), some (.int (nI i))] [] (hM (enc R) ks ot as fl kp tc g) (some (.int (hrdS (rH R) (cnt R)))) (hM (enc R) ks ot as fl kp tc g) := by
    intro k
    induction k with
    | zero =>
      intro i hi
      obtain rfl : i = cnt R := by omega
      refine r_iload_n dX5_heardOnes_4 rfl ?_
      refine r_aload_n dX5_heardOnes_5 rfl ?_
      refine r_getfield dX5_heardOnes_6 gfX5_7 rfl rfl ?_
      refine r_iconst (v := nI 1) dX5_heardOnes_9 (by decide) ?_
      refine r_ialdN dX5_heardOnes_10 rfl (by first | decide | omega) (Nat.le_of_ble_eq_true rfl) enc1 ?_
      refine r_icmp_ge 31 dX5_heardOnes_11 (by decide) (fun c11 => ?_) (fun c11 => ?_)
      · refine r_iload_n dX5_heardOnes_31 rfl ?_
        refine r_iret dX5_heardOnes_32 rfl rfl ?_ ?_
        · rfl
        · exact HE.rf
      · exact absurd (nI_le (Nat.le_refl _) (by omega)) c11
    | succ k ih =>
      intro i hi
      refine r_iload_n dX5_heardOnes_4 rfl ?_
      refine r_aload_n dX5_heardOnes_5 rfl ?_
      refine r_getfield dX5_heardOnes_6 gfX5_7 rfl rfl ?_
      refine r_iconst (v := nI 1) dX5_heardOnes_9 (by decide) ?_
      refine r_ialdN dX5_heardOnes_10 rfl (by first | decide | omega) (Nat.le_of_ble_eq_true rfl) enc1 ?_
      refine r_icmp_ge 31 dX5_heardOnes_11 (by decide) (fun c11 => ?_) (fun c11 => ?_)
      · exact absurd c11 (nI_ge (by omega) (by omega))
      · refine r_iload_n dX5_heardOnes_14 rfl ?_
        refine r_aload_n dX5_heardOnes_15 rfl ?_
        refine r_iload_n dX5_heardOnes_16 rfl ?_
        refine r_iconst (v := nI 1) dX5_heardOnes_17 (by decide) ?_
        refine r_v2r (M_its1 (by omega)) (Nat.le_of_ble_eq_true rfl) mrX5_its lkX5_54 rfl rfl rfl dX5_heardOnes_18 (Nat.le_of_ble_eq_true rfl) ?_
        refine r_iload_n dX5_heardOnes_21 rfl ?_
        refine r_ishl dX5_heardOnes_22 ?_
        refine r_ior dX5_heardOnes_23 ?_
        refine r_istore_n (lv' := [_, _, _]) dX5_heardOnes_24 (by decide) rfl ?_
        refine r_iinc (lv' := [_, _, _]) dX5_heardOnes_25 (by decide) rfl (by first | exact inc1 _ | exact inc1_ _) rfl ?_
        refine r_goto 4 dX5_heardOnes_28 (by decide) ?_
        exact ih (i + 1) (by omega)
  refine r_iconst (v := nI 0) dX5_heardOnes_0 (by decide) ?_
  refine r_istore_n (lv' := [_, _, _]) dX5_heardOnes_1 (by decide) rfl ?_
  refine r_iconst (v := nI 0) dX5_heardOnes_2 (by decide) ?_
  refine r_istore_n (lv' := [_, _, _]) dX5_heardOnes_3 (by decide) rfl ?_
  exact L (cnt R) 0 (by omega)

