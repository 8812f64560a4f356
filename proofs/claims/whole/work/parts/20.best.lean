/-! the class: as, trips, hears, and what is best -/
/-- the way up from a kind, at most u levels -/
def upK (a : Int32) : Nat → Int32 → Bool
  | 0, _ => false
  | u + 1, k => match inR k (nI 0) (nI 5) with
    | true => if k = a then true else upK a u (kAbove (tn k))
    | false => false
theorem S_X4_isUnder {k a : Int32} {h : AH} : Sp 2 mX4_isUnder [.int k, .int a] h (some (.int (bI (upK a 6 k)))) h := by
  refine Sp.of [some (.int k), some (.int a), none, none] mrX4_isUnder.1 rfl (Nat.le_of_ble_eq_true rfl) rfl (fun X => ?_)
  have L : ∀ (u i : Nat) (x : Int32), i + u = 6 → Run X 2 mX4_isUnder 4 [some (.int k), some (.int a), some (.int x), some (.int (nI i))] [] h (some (.int (bI (upK a u x)))) h := by
    intro u
    induction u with
    | zero =>
      intro i x hi
      obtain rfl : i = 6 := by omega
      refine r_iload_n dX4_isUnder_4 rfl ?_
      refine r_bipush (v := nI 6) dX4_isUnder_5 (by decide) ?_
      refine r_icmp_ge 36 dX4_isUnder_7 (by decide) (fun c7 => ?_) (fun c7 => ?_)
      · refine r_iconst (v := nI 0) dX4_isUnder_36 (by decide) ?_
        refine r_iret dX4_isUnder_37 rfl (by first | exact bI_nar _ | rfl) ?_ ?_
        · first | exact ret_f (by rw [upK, c14]) | exact ret_f rfl
        · exact HE.rf
      · exact absurd (nI_le (Nat.le_refl _) (by omega)) c7
    | succ u ih =>
      intro i x hi
      refine r_iload_n dX4_isUnder_4 rfl ?_
      refine r_bipush (v := nI 6) dX4_isUnder_5 (by decide) ?_
      refine r_icmp_ge 36 dX4_isUnder_7 (by decide) (fun c7 => ?_) (fun c7 => ?_)
      · exact absurd c7 (nI_ge (by omega) (by omega))
      · refine r_iload_n dX4_isUnder_10 rfl ?_
        refine r_s1r S_X4_isKind (Nat.le_of_ble_eq_true rfl) mrX4_isKind lkX4_80 dX4_isUnder_11 (Nat.le_of_ble_eq_true rfl) ?_
        refine r_if_eqB 36 dX4_isUnder_14 (by decide) (fun c14 => ?_) (fun c14 => ?_)
        · refine r_iconst (v := nI 0) dX4_isUnder_36 (by decide) ?_
          refine r_iret dX4_isUnder_37 rfl (by first | exact bI_nar _ | rfl) ?_ ?_
          · first | exact ret_f (by rw [upK, c14]) | exact ret_f rfl
          · exact HE.rf
        · refine r_iload_n dX4_isUnder_17 rfl ?_
          refine r_iload_n dX4_isUnder_18 rfl ?_
          refine r_icmp_ne 24 dX4_isUnder_19 (by decide) (fun c19 => ?_) (fun c19 => ?_)
          · obtain ⟨q, h1, h2, rfl⟩ := inR_of c14 (by decide) (by decide)
            have eq9 : tn (nI q) = q := nI_clamp (by omega)
            refine r_kget (gT_mem (tb2 46 rfl) rfl) dX4_isUnder_24 ?_
            refine r_iload_n dX4_isUnder_27 rfl ?_
            refine r_kaldN dX4_isUnder_28 (by first | decide | omega) ?_
            refine r_istore_n (lv' := [_, _, _, _]) dX4_isUnder_29 (by decide) rfl ?_
            refine r_iinc (lv' := [_, _, _, _]) dX4_isUnder_30 (by decide) rfl (by first | exact inc1 _ | exact inc1_ _) rfl ?_
            refine r_goto 4 dX4_isUnder_33 (by decide) ?_
            have e := ih (i + 1) (kAbove q) (by omega)
            rw [show upK a (u + 1) (nI q) = upK a u (kAbove q) by rw [upK, c14]; simp only [c19, if_false, eq9]]
            exact e
          · refine r_iconst (v := nI 1) dX4_isUnder_22 (by decide) ?_
            refine r_iret dX4_isUnder_23 rfl (by first | exact bI_nar _ | rfl) ?_ ?_
            · exact ret_t (by rw [upK, c14]; simp only [c19, if_true])
            · exact HE.rf
  refine r_iload_n dX4_isUnder_0 rfl ?_
  refine r_istore_n (lv' := [_, _, _, _]) dX4_isUnder_1 (by decide) rfl ?_
  refine r_iconst (v := nI 0) dX4_isUnder_2 (by decide) ?_
  refine r_istore_n (lv' := [_, _, _, _]) dX4_isUnder_3 (by decide) rfl ?_
  exact L 6 0 k (by omega)
theorem upK_und : ∀ k, k < 6 → ∀ a, a < 6 → upK (nI a) 6 (nI k) = undB (nI k) (nI a) := by decide +kernel
theorem Q_as {R A K : RS} {f1 f2 f3 : Int32} {kp : Bool} {tc : Nat → Int32} {x k : Int32} (hn : cnt R ≤ 8) (hk : ∀ p, p < cnt R → ∃ z, z < 6 ∧ rK R p = nI z) : SpQ 11 mX4_as [.ref 0, .int x, .int k] (hC R A K f1 f2 f3 kp tc) (some (.int (o_as R K kp tc x k).1)) (qC (o_as R K kp tc x k).2) := by
  refine SpQ.of [some (.ref 0), some (.int x), some (.int k)] mrX4_as.1 (fun _ q => qC_len q) (Nat.le_of_ble_eq_true rfl) rfl (fun X => ?_)
  refine r_aload_n dX4_as_0 rfl ?_
  refine r_getfield dX4_as_1 gfX4_12 rfl rfl ?_
  refine r_iload_n dX4_as_4 rfl ?_
  refine r_v1r C_has (Nat.le_of_ble_eq_true rfl) mrX1_has lkX4_54 rfl rfl rfl dX4_as_5 (Nat.le_of_ble_eq_true rfl) ?_
  refine r_if_eqB 18 dX4_as_8 (by decide) (fun c8 => ?_) (fun c8 => ?_)
  · refine r_aload_n dX4_as_18 rfl ?_
    refine r_ldc kX4_45 dX4_as_19 ?_
    refine r_v1r (C_tell 0 (by decide) (by decide)) (Nat.le_of_ble_eq_true rfl) mrX4_tell lkX4_46 rfl rfl rfl dX4_as_21 (Nat.le_of_ble_eq_true rfl) ?_
    refine r_iret dX4_as_24 rfl rfl ?_ ?_
    · simp only [o_as, c8, if_true, if_false, eq_self, decide_true, decide_false, not_true, not_false_eq_true, Bool.true_and, Bool.and_true, Bool.false_and, Bool.and_false, Bool.true_or, Bool.or_true, Bool.false_or, Bool.or_false, Bool.not_true, Bool.not_false]
      rfl
    · simp only [o_as, c8, if_true, if_false, eq_self, decide_true, decide_false, not_true, not_false_eq_true, Bool.true_and, Bool.and_true, Bool.false_and, Bool.and_false, Bool.true_or, Bool.or_true, Bool.false_or, Bool.or_false, Bool.not_true, Bool.not_false]
      exact ⟨A, f1, f2, f3, HE.rf⟩
  · refine r_iload_n dX4_as_11 rfl ?_
    refine r_s1r S_X4_isKind (Nat.le_of_ble_eq_true rfl) mrX4_isKind lkX4_80 dX4_as_12 (Nat.le_of_ble_eq_true rfl) ?_
    refine r_if_neB 25 dX4_as_15 (by decide) (fun c15 => ?_) (fun c15 => ?_)
    · obtain ⟨p, hp, rfl⟩ := hasB_of c8 (by omega)
      have et : tn (nI p) = p := nI_clamp (by omega)
      obtain ⟨q, h1, h2, rfl⟩ := inR_of c15 (by decide) (by decide)
      obtain ⟨z, hz, ez⟩ := hk p hp
      refine r_aload_n dX4_as_25 rfl ?_
      refine r_getfield dX4_as_26 gfX4_12 rfl rfl ?_
      refine r_getfield dX4_as_29 gfX4_95 rfl rfl ?_
      refine r_iload_n dX4_as_32 rfl ?_
      refine r_ialdN dX4_as_33 rfl (by first | decide | omega) (Nat.le_of_ble_eq_true rfl) rfl ?_
      refine r_iload_n dX4_as_34 rfl ?_
      refine r_s2r S_X4_isUnder (Nat.le_of_ble_eq_true rfl) mrX4_isUnder lkX4_131 dX4_as_35 (Nat.le_of_ble_eq_true rfl) ?_
      refine r_if_neB 48 dX4_as_38 (by decide) (fun c38 => ?_) (fun c38 => ?_)
      · refine r_aload_n dX4_as_48 rfl ?_
        refine r_getfield dX4_as_49 gfX4_12 rfl rfl ?_
        refine r_getfield dX4_as_52 gfX4_107 rfl rfl ?_
        refine r_iload_n dX4_as_55 rfl ?_
        refine r_ialdN dX4_as_56 rfl (by first | decide | omega) (Nat.le_of_ble_eq_true rfl) rfl ?_
        refine r_iret dX4_as_57 rfl rfl ?_ ?_
        · rw [ez, upK_und z (by omega) q (by omega), ← ez] at c38
          simp only [o_as, c8, c15, et, c38]
        · rw [ez, upK_und z (by omega) q (by omega), ← ez] at c38
          simp only [o_as, c8, c15, et, c38]
          exact ⟨A, f1, f2, f3, HE.rf⟩
      · refine r_aload_n dX4_as_41 rfl ?_
        refine r_ldc kX4_134 dX4_as_42 ?_
        refine r_v1r (C_tell 2 (by decide) (by decide)) (Nat.le_of_ble_eq_true rfl) mrX4_tell lkX4_46 rfl rfl rfl dX4_as_44 (Nat.le_of_ble_eq_true rfl) ?_
        refine r_iret dX4_as_47 rfl rfl ?_ ?_
        · rw [ez, upK_und z (by omega) q (by omega), ← ez] at c38
          simp only [o_as, c8, c15, et, c38]
          rfl
        · rw [ez, upK_und z (by omega) q (by omega), ← ez] at c38
          simp only [o_as, c8, c15, et, c38]
          exact ⟨A, f1, f2, f3, HE.rf⟩
    · refine r_aload_n dX4_as_18 rfl ?_
      refine r_ldc kX4_45 dX4_as_19 ?_
      refine r_v1r (C_tell 0 (by decide) (by decide)) (Nat.le_of_ble_eq_true rfl) mrX4_tell lkX4_46 rfl rfl rfl dX4_as_21 (Nat.le_of_ble_eq_true rfl) ?_
      refine r_iret dX4_as_24 rfl rfl ?_ ?_
      · simp only [o_as, c8, c15, if_true, if_false, eq_self, decide_true, decide_false, not_true, not_false_eq_true, Bool.true_and, Bool.and_true, Bool.false_and, Bool.and_false, Bool.true_or, Bool.or_true, Bool.false_or, Bool.or_false, Bool.not_true, Bool.not_false]
        rfl
      · simp only [o_as, c8, c15, if_true, if_false, eq_self, decide_true, decide_false, not_true, not_false_eq_true, Bool.true_and, Bool.and_true, Bool.false_and, Bool.and_false, Bool.true_or, Bool.or_true, Bool.false_or, Bool.or_false, Bool.not_true, Bool.not_false]
        exact ⟨A, f1, f2, f3, HE.rf⟩
theorem Q_trips {R A K : RS} {f1 f2 f3 : Int32} {kp : Bool} {tc : Nat → Int32} {x : Int32} (hn : cnt R ≤ 8) : SpQ 11 mX4_trips [.ref 0, .int x] (hC R A K f1 f2 f3 kp tc) (some (.int (o_trips R K kp tc x).1)) (qC (o_trips R K kp tc x).2) := by
  refine SpQ.of [some (.ref 0), some (.int x), none] mrX4_trips.1 (fun _ q => qC_len q) (Nat.le_of_ble_eq_true rfl) rfl (fun X => ?_)
  have L : ∀ (p : Nat), p < 8 → ∀ (k i : Nat) (A : RS) (f2 : Int32), cnt A ≤ 8 → i + k = 301 → RunQ X 11 mX4_trips 24 [some (.ref 0), some (.int (nI p)), some (.int (nI i))] [] (hC R A K f1 f2 f3 kp tc) (some (.int (fnd R K kp tc (trp p k i A)).1)) (qC (fnd R K kp tc (trp p k i A)).2) := by
    intro p hp k
    induction k with
    | zero =>
      intro i A f2 hn hi
      obtain rfl : i = 301 := by omega
      refine r_iload_n dX4_trips_24 rfl ?_
      refine r_sipush (v := nI 300) dX4_trips_25 (by decide) ?_
      refine r_icmp_gt 60 dX4_trips_28 (by decide) (fun c28 => ?_) (fun c28 => ?_)
      · refine r_aload_n dX4_trips_60 rfl ?_
        refine r_ldc kX4_152 dX4_trips_61 ?_
        refine r_v1r (C_tell 3 (by decide) (by decide)) (Nat.le_of_ble_eq_true rfl) mrX4_tell lkX4_46 rfl rfl rfl dX4_trips_63 (Nat.le_of_ble_eq_true rfl) ?_
        refine r_iret dX4_trips_66 rfl rfl ?_ ?_
        · rfl
        · exact ⟨A, f1, f2, f3, HE.rf⟩
      · exact absurd (nI_lt (by omega) (by omega)) c28
    | succ k ih =>
      intro i A f2 hn hi
      refine r_iload_n dX4_trips_24 rfl ?_
      refine r_sipush (v := nI 300) dX4_trips_25 (by decide) ?_
      refine r_icmp_gt 60 dX4_trips_28 (by decide) (fun c28 => ?_) (fun c28 => ?_)
      · exact absurd c28 (nI_nlt (by omega) (by omega))
      · refine r_aload_n dX4_trips_31 rfl ?_
        refine r_getfield dX4_trips_32 gfX4_16 rfl rfl ?_
        refine r_v0n (C_goStep6 hn) (Nat.le_of_ble_eq_true rfl) mrX1_goStep lkX4_146 rfl rfl rfl dX4_trips_35 (Nat.le_of_ble_eq_true rfl) ?_
        refine r_aload_n dX4_trips_38 rfl ?_
        refine r_getfield dX4_trips_39 gfX4_16 rfl rfl ?_
        refine r_getfield dX4_trips_42 gfX4_149 rfl rfl ?_
        refine r_iload_n dX4_trips_45 rfl ?_
        refine r_s2r S_X4_isIn (Nat.le_of_ble_eq_true rfl) mrX4_isIn lkX4_116 dX4_trips_46 (Nat.le_of_ble_eq_true rfl) ?_
        refine r_if_eqB 54 dX4_trips_49 (by decide) (fun c49 => ?_) (fun c49 => ?_)
        · refine r_iinc (lv' := [_, _, _]) dX4_trips_54 (by decide) rfl (by first | exact inc1 _ | exact inc1_ _) rfl ?_
          refine r_goto 24 dX4_trips_57 (by decide) ?_
          have e := ih (i + 1) (stp A) (stpF A) hn (by omega)
          simp only [trp, c49, Bool.false_eq_true, if_false]
          exact e
        · refine r_iload_n dX4_trips_52 rfl ?_
          refine r_iret dX4_trips_53 rfl rfl ?_ ?_
          · simp only [trp, c49, if_true]
            rfl
          · simp only [trp, c49, if_true]
            exact ⟨stp A, f1, stpF A, f3, HE.rf⟩
  refine r_aload_n dX4_trips_0 rfl ?_
  refine r_getfield dX4_trips_1 gfX4_12 rfl rfl ?_
  refine r_iload_n dX4_trips_4 rfl ?_
  refine r_v1r C_has (Nat.le_of_ble_eq_true rfl) mrX1_has lkX4_54 rfl rfl rfl dX4_trips_5 (Nat.le_of_ble_eq_true rfl) ?_
  refine r_if_neB 18 dX4_trips_8 (by decide) (fun c8 => ?_) (fun c8 => ?_)
  · obtain ⟨p, hp, rfl⟩ := hasB_of c8 (by omega)
    have et : tn (nI p) = p := nI_clamp (by omega)
    refine r_aload_n dX4_trips_18 rfl ?_
    refine r_v0n C_lookAhead (Nat.le_of_ble_eq_true rfl) mrX4_lookAhead lkX4_140 rfl rfl rfl dX4_trips_19 (Nat.le_of_ble_eq_true rfl) ?_
    refine r_iconst (v := nI 1) dX4_trips_22 (by decide) ?_
    refine r_istore_n (lv' := [_, _, _]) dX4_trips_23 (by decide) rfl ?_
    simp only [o_trips, c8, et]
    exact L p (by omega) 300 1 R f2 hn (by omega)
  · refine r_aload_n dX4_trips_11 rfl ?_
    refine r_ldc kX4_45 dX4_trips_12 ?_
    refine r_v1r (C_tell 0 (by decide) (by decide)) (Nat.le_of_ble_eq_true rfl) mrX4_tell lkX4_46 rfl rfl rfl dX4_trips_14 (Nat.le_of_ble_eq_true rfl) ?_
    refine r_iret dX4_trips_17 rfl rfl ?_ ?_
    · simp only [o_trips, c8, if_true, if_false, eq_self, decide_true, decide_false, not_true, not_false_eq_true, Bool.true_and, Bool.and_true, Bool.false_and, Bool.and_false, Bool.true_or, Bool.or_true, Bool.false_or, Bool.or_false, Bool.not_true, Bool.not_false]
      rfl
    · simp only [o_trips, c8, if_true, if_false, eq_self, decide_true, decide_false, not_true, not_false_eq_true, Bool.true_and, Bool.and_true, Bool.false_and, Bool.and_false, Bool.true_or, Bool.or_true, Bool.false_or, Bool.or_false, Bool.not_true, Bool.not_false]
      exact ⟨A, f1, f2, f3, HE.rf⟩
theorem Q_hears {R A K : RS} {f1 f2 f3 : Int32} {kp : Bool} {tc : Nat → Int32} {x : Int32} (hn : cnt R ≤ 8) : SpQ 11 mX4_hears [.ref 0, .int x] (hC R A K f1 f2 f3 kp tc) (some (.int (o_hears R K kp tc x).1)) (qC (o_hears R K kp tc x).2) := by
  refine SpQ.of [some (.ref 0), some (.int x), none] mrX4_hears.1 (fun _ q => qC_len q) (Nat.le_of_ble_eq_true rfl) rfl (fun X => ?_)
  have L : ∀ (p : Nat), p < 8 → ∀ (k i : Nat) (A : RS) (f2 : Int32), cnt A ≤ 8 → i + k = 301 → RunQ X 11 mX4_hears 24 [some (.ref 0), some (.int (nI p)), some (.int (nI i))] [] (hC R A K f1 f2 f3 kp tc) (some (.int (fnd R K kp tc (her p k i A)).1)) (qC (fnd R K kp tc (her p k i A)).2) := by
    intro p hp k
    induction k with
    | zero =>
      intro i A f2 hn hi
      obtain rfl : i = 301 := by omega
      refine r_iload_n dX4_hears_24 rfl ?_
      refine r_sipush (v := nI 300) dX4_hears_25 (by decide) ?_
      refine r_icmp_gt 59 dX4_hears_28 (by decide) (fun c28 => ?_) (fun c28 => ?_)
      · refine r_aload_n dX4_hears_59 rfl ?_
        refine r_ldc kX4_152 dX4_hears_60 ?_
        refine r_v1r (C_tell 3 (by decide) (by decide)) (Nat.le_of_ble_eq_true rfl) mrX4_tell lkX4_46 rfl rfl rfl dX4_hears_62 (Nat.le_of_ble_eq_true rfl) ?_
        refine r_iret dX4_hears_65 rfl rfl ?_ ?_
        · rfl
        · exact ⟨A, f1, f2, f3, HE.rf⟩
      · exact absurd (nI_lt (by omega) (by omega)) c28
    | succ k ih =>
      intro i A f2 hn hi
      refine r_iload_n dX4_hears_24 rfl ?_
      refine r_sipush (v := nI 300) dX4_hears_25 (by decide) ?_
      refine r_icmp_gt 59 dX4_hears_28 (by decide) (fun c28 => ?_) (fun c28 => ?_)
      · exact absurd c28 (nI_nlt (by omega) (by omega))
      · refine r_aload_n dX4_hears_31 rfl ?_
        refine r_getfield dX4_hears_32 gfX4_16 rfl rfl ?_
        refine r_getfield dX4_hears_35 gfX4_101 rfl rfl ?_
        refine r_iload_n dX4_hears_38 rfl ?_
        refine r_ialdN dX4_hears_39 rfl (by first | decide | omega) (Nat.le_of_ble_eq_true rfl) rfl ?_
        refine r_iconst (v := nI 1) dX4_hears_40 (by decide) ?_
        refine r_icmp_ne 46 dX4_hears_41 (by decide) (fun c41 => ?_) (fun c41 => ?_)
        · refine r_aload_n dX4_hears_46 rfl ?_
          refine r_getfield dX4_hears_47 gfX4_16 rfl rfl ?_
          refine r_v0n (C_goStep6 hn) (Nat.le_of_ble_eq_true rfl) mrX1_goStep lkX4_146 rfl rfl rfl dX4_hears_50 (Nat.le_of_ble_eq_true rfl) ?_
          refine r_iinc (lv' := [_, _, _]) dX4_hears_53 (by decide) rfl (by first | exact inc1 _ | exact inc1_ _) rfl ?_
          refine r_goto 24 dX4_hears_56 (by decide) ?_
          have e := ih (i + 1) (stp A) (stpF A) hn (by omega)
          simp only [her, c41, if_false]
          exact e
        · refine r_iload_n dX4_hears_44 rfl ?_
          refine r_iret dX4_hears_45 rfl rfl ?_ ?_
          · simp only [her, c41, if_true]
            rfl
          · simp only [her, c41, if_true]
            exact ⟨A, f1, f2, f3, HE.rf⟩
  refine r_aload_n dX4_hears_0 rfl ?_
  refine r_getfield dX4_hears_1 gfX4_12 rfl rfl ?_
  refine r_iload_n dX4_hears_4 rfl ?_
  refine r_v1r C_has (Nat.le_of_ble_eq_true rfl) mrX1_has lkX4_54 rfl rfl rfl dX4_hears_5 (Nat.le_of_ble_eq_true rfl) ?_
  refine r_if_neB 18 dX4_hears_8 (by decide) (fun c8 => ?_) (fun c8 => ?_)
  · obtain ⟨p, hp, rfl⟩ := hasB_of c8 (by omega)
    have et : tn (nI p) = p := nI_clamp (by omega)
    refine r_aload_n dX4_hears_18 rfl ?_
    refine r_v0n C_lookAhead (Nat.le_of_ble_eq_true rfl) mrX4_lookAhead lkX4_140 rfl rfl rfl dX4_hears_19 (Nat.le_of_ble_eq_true rfl) ?_
    refine r_iconst (v := nI 0) dX4_hears_22 (by decide) ?_
    refine r_istore_n (lv' := [_, _, _]) dX4_hears_23 (by decide) rfl ?_
    simp only [o_hears, c8, et]
    exact L p (by omega) 301 0 R f2 hn (by omega)
  · refine r_aload_n dX4_hears_11 rfl ?_
    refine r_ldc kX4_45 dX4_hears_12 ?_
    refine r_v1r (C_tell 0 (by decide) (by decide)) (Nat.le_of_ble_eq_true rfl) mrX4_tell lkX4_46 rfl rfl rfl dX4_hears_14 (Nat.le_of_ble_eq_true rfl) ?_
    refine r_iret dX4_hears_17 rfl rfl ?_ ?_
    · simp only [o_hears, c8, if_true, if_false, eq_self, decide_true, decide_false, not_true, not_false_eq_true, Bool.true_and, Bool.and_true, Bool.false_and, Bool.and_false, Bool.true_or, Bool.or_true, Bool.false_or, Bool.or_false, Bool.not_true, Bool.not_false]
      rfl
    · simp only [o_hears, c8, if_true, if_false, eq_self, decide_true, decide_false, not_true, not_false_eq_true, Bool.true_and, Bool.and_true, Bool.false_and, Bool.and_false, Bool.true_or, Bool.or_true, Bool.false_or, Bool.or_false, Bool.not_true, Bool.not_false]
      exact ⟨A, f1, f2, f3, HE.rf⟩
theorem Q_carry {R A K : RS} {f1 f2 f3 : Int32} {kp : Bool} {tc : Nat → Int32} {m : Int32} (hn : cnt R ≤ 8) : SpQ 11 mX4_carry [.ref 0, .int m] (hC R A K f1 f2 f3 kp tc) (some (.int (o_carry R K kp tc m).1)) (qC (o_carry R K kp tc m).2) := by
  refine SpQ.of [some (.ref 0), some (.int m), none, none, none, none] mrX4_carry.1 (fun _ q => qC_len q) (Nat.le_of_ble_eq_true rfl) rfl (fun X => ?_)
  have L : ∀ (m : Nat), m < 2 ^ 31 → ∀ (k i : Nat) (A : RS) (f2 : Int32), i + k = cnt R → RunQ X 11 mX4_carry 42 [some (.ref 0), some (.int (nI m)), some (.int (mnB (fun p => fut m (sL R (nI p))) (nI 0, 79993) i).1), some (.int (mnB (fun p => fut m (sL R (nI p))) (nI 0, 79993) i).2), some (.int (nI i)), none] [] (hC R A K f1 f2 f3 kp tc) (some (.int (mnB (fun p => fut m (sL R (nI p))) (nI 0, 79993) (cnt R)).1)) (qC (R, K, kp, tc)) := by
    intro m hm k
    induction k with
    | zero =>
      intro i A f2 hi
      obtain rfl : i = cnt R := by omega
      refine r_iload dX4_carry_42 rfl ?_
      refine r_aload_n dX4_carry_44 rfl ?_
      refine r_getfield dX4_carry_45 gfX4_12 rfl rfl ?_
      refine r_getfield dX4_carry_48 gfX4_92 rfl rfl ?_
      refine r_icmp_ge 92 dX4_carry_51 (by decide) (fun c51 => ?_) (fun c51 => ?_)
      · refine r_iload_n dX4_carry_92 rfl ?_
        refine r_iret dX4_carry_93 rfl rfl ?_ ?_
        · rfl
        · exact ⟨A, f1, f2, f3, HE.rf⟩
      · exact absurd (nI_le (Nat.le_refl _) (by omega)) c51
    | succ k ih =>
      intro i A f2 hi
      refine r_iload dX4_carry_42 rfl ?_
      refine r_aload_n dX4_carry_44 rfl ?_
      refine r_getfield dX4_carry_45 gfX4_12 rfl rfl ?_
      refine r_getfield dX4_carry_48 gfX4_92 rfl rfl ?_
      refine r_icmp_ge 92 dX4_carry_51 (by decide) (fun c51 => ?_) (fun c51 => ?_)
      · exact absurd c51 (nI_ge (by omega) (by omega))
      · refine r_aload_n dX4_carry_54 rfl ?_
        refine r_v0n C_lookAhead (Nat.le_of_ble_eq_true rfl) mrX4_lookAhead lkX4_140 rfl rfl rfl dX4_carry_55 (Nat.le_of_ble_eq_true rfl) ?_
        refine r_aload_n dX4_carry_58 rfl ?_
        refine r_getfield dX4_carry_59 gfX4_16 rfl rfl ?_
        refine r_iload dX4_carry_62 rfl ?_
        refine r_putfield (fs' := [_, _, _, _, _, _, _, _, _, _]) (h' := [_, _, _, _, _, _, _, _, _, _, _, _, _, _, _, _, _]) dX4_carry_64 pfX4_58 rfl (Nat.le_of_ble_eq_true rfl) (fun _ => rfl) rfl rfl rfl rfl ?_
        refine r_aload_n dX4_carry_67 rfl ?_
        refine r_iload_n dX4_carry_68 rfl ?_
        refine r_v1r (C_stumbledIn (A := sL R (nI i)) hn hm) (Nat.le_of_ble_eq_true rfl) mrX4_stumbledIn lkX4_143 rfl rfl rfl dX4_carry_69 (Nat.le_of_ble_eq_true rfl) ?_
        refine r_istore (lv' := [_, _, _, _, _, _]) dX4_carry_72 (by decide) rfl ?_
        refine r_iload dX4_carry_74 rfl ?_
        refine r_iload_n dX4_carry_76 rfl ?_
        refine r_icmp_ge 86 dX4_carry_77 (by decide) (fun c77 => ?_) (fun c77 => ?_)
        · refine r_iinc (lv' := [_, _, _, _, _, _]) dX4_carry_86 (by decide) rfl (by first | exact inc1 _ | exact inc1_ _) rfl ?_
          refine r_goto 42 dX4_carry_89 (by decide) ?_
          refine r_lv (lv' := [_, _, _, _, _, none]) (lvDrop 5 rfl) ?_
          have e := ih (i + 1) (stpN m (sL R (nI i))) (stpFN m (sL R (nI i)) f2) (by omega)
          first
          | (rw [mnB_t (f := fun p => fut m (sL R (nI p))) (Int32.not_le.mp c77)] at e; exact e)
          | (rw [mnB_f (f := fun p => fut m (sL R (nI p))) (Int32.not_lt.mpr c77)] at e; exact e)
        · refine r_iload dX4_carry_80 rfl ?_
          refine r_istore_n (lv' := [_, _, _, _, _, _]) dX4_carry_82 (by decide) rfl ?_
          refine r_iload dX4_carry_83 rfl ?_
          refine r_istore_n (lv' := [_, _, _, _, _, _]) dX4_carry_85 (by decide) rfl ?_
          refine r_iinc (lv' := [_, _, _, _, _, _]) dX4_carry_86 (by decide) rfl (by first | exact inc1 _ | exact inc1_ _) rfl ?_
          refine r_goto 42 dX4_carry_89 (by decide) ?_
          refine r_lv (lv' := [_, _, _, _, _, none]) (lvDrop 5 rfl) ?_
          have e := ih (i + 1) (stpN m (sL R (nI i))) (stpFN m (sL R (nI i)) f2) (by omega)
          first
          | (rw [mnB_t (f := fun p => fut m (sL R (nI p))) (Int32.not_le.mp c77)] at e; exact e)
          | (rw [mnB_f (f := fun p => fut m (sL R (nI p))) (Int32.not_lt.mpr c77)] at e; exact e)
  refine r_iload_n dX4_carry_0 rfl ?_
  refine r_iconst (v := nI 1) dX4_carry_1 (by decide) ?_
  refine r_bipush (v := nI 100) dX4_carry_2 (by decide) ?_
  refine r_s3r S_X4_within (Nat.le_of_ble_eq_true rfl) mrX4_within lkX4_41 dX4_carry_4 (Nat.le_of_ble_eq_true rfl) ?_
  refine r_if_neB 17 dX4_carry_7 (by decide) (fun c7 => ?_) (fun c7 => ?_)
  · refine r_aload_n dX4_carry_17 rfl ?_
    refine r_getfield dX4_carry_18 gfX4_12 rfl rfl ?_
    refine r_getfield dX4_carry_21 gfX4_92 rfl rfl ?_
    refine r_if_ne 34 dX4_carry_24 (by decide) (fun c24 => ?_) (fun c24 => ?_)
    · obtain ⟨m, h1, h2, rfl⟩ := inR_of c7 (by decide) (by decide)
      have em : tn (nI m) = m := nI_clamp (by omega)
      refine r_iconst (v := nI 0) dX4_carry_34 (by decide) ?_
      refine r_istore_n (lv' := [_, _, _, _, _, _]) dX4_carry_35 (by decide) rfl ?_
      refine r_ldc kX4_153 dX4_carry_36 ?_
      refine r_istore_n (lv' := [_, _, _, _, _, _]) dX4_carry_38 (by decide) rfl ?_
      refine r_iconst (v := nI 0) dX4_carry_39 (by decide) ?_
      refine r_istore (lv' := [_, _, _, _, _, _]) dX4_carry_40 (by decide) rfl ?_
      simp only [o_carry, c7, c24, em, if_false]
      exact L m (by omega) (cnt R) 0 A f2 (by omega)
    · refine r_aload_n dX4_carry_27 rfl ?_
      refine r_ldc kX4_152 dX4_carry_28 ?_
      refine r_v1r (C_tell 3 (by decide) (by decide)) (Nat.le_of_ble_eq_true rfl) mrX4_tell lkX4_46 rfl rfl rfl dX4_carry_30 (Nat.le_of_ble_eq_true rfl) ?_
      refine r_iret dX4_carry_33 rfl rfl ?_ ?_
      · simp only [o_carry, c7, c24, if_true, if_false, eq_self, decide_true, decide_false, not_true, not_false_eq_true, Bool.true_and, Bool.and_true, Bool.false_and, Bool.and_false, Bool.true_or, Bool.or_true, Bool.false_or, Bool.or_false, Bool.not_true, Bool.not_false]
        rfl
      · simp only [o_carry, c7, c24, if_true, if_false, eq_self, decide_true, decide_false, not_true, not_false_eq_true, Bool.true_and, Bool.and_true, Bool.false_and, Bool.and_false, Bool.true_or, Bool.or_true, Bool.false_or, Bool.or_false, Bool.not_true, Bool.not_false]
        exact ⟨A, f1, f2, f3, HE.rf⟩
  · refine r_aload_n dX4_carry_10 rfl ?_
    refine r_ldc kX4_45 dX4_carry_11 ?_
    refine r_v1r (C_tell 0 (by decide) (by decide)) (Nat.le_of_ble_eq_true rfl) mrX4_tell lkX4_46 rfl rfl rfl dX4_carry_13 (Nat.le_of_ble_eq_true rfl) ?_
    refine r_iret dX4_carry_16 rfl rfl ?_ ?_
    · simp only [o_carry, c7, if_true, if_false, eq_self, decide_true, decide_false, not_true, not_false_eq_true, Bool.true_and, Bool.and_true, Bool.false_and, Bool.and_false, Bool.true_or, Bool.or_true, Bool.false_or, Bool.or_false, Bool.not_true, Bool.not_false]
      rfl
    · simp only [o_carry, c7, if_true, if_false, eq_self, decide_true, decide_false, not_true, not_false_eq_true, Bool.true_and, Bool.and_true, Bool.false_and, Bool.and_false, Bool.true_or, Bool.or_true, Bool.false_or, Bool.or_false, Bool.not_true, Bool.not_false]
      exact ⟨A, f1, f2, f3, HE.rf⟩

