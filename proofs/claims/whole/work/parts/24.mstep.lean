/-! the reference: who sees, heeds, says; a STEP -/
theorem lit_pl {l b : Int32} {n p : Nat} {K : Nat → Int32} (hn : n ≤ 8) (h : lit l b n K p = true) : ∃ a, a < 8 ∧ l = nI a := by
  unfold lit at h
  rw [Bool.and_eq_true] at h
  obtain ⟨a, ha, e⟩ := hasB_of h.1 (by omega)
  exact ⟨a, by omega, e⟩
theorem near_far {a p : Nat} (ha : a < 8) (hp : p < 8) : nearB (nI a) (nI p) = decide (farF (nI a) (nI p) ≤ nI 2) := by
  have key : ∀ a, a < 8 → ∀ p, p < 8 → nearB (nI a) (nI p) = decide (farF (nI a) (nI p) ≤ nI 2) := by decide +kernel
  exact key a ha p hp
theorem far_pos {a p : Nat} (ha : a < 8) (hp : p < 8) : decide (¬ nI a = nI p) = decide (0 < farF (nI a) (nI p)) := by
  have key : ∀ a, a < 8 → ∀ p, p < 8 → decide (¬ nI a = nI p) = decide (0 < farF (nI a) (nI p)) := by decide +kernel
  exact key a ha p hp
theorem M_isSeeing {R : RS} {ks ot as : Nat → Int32} {fl : Int32} {kp : Bool} {tc : Nat → Int32} {g : GO} {p : Nat} (hn : cnt R ≤ 8) (hp : p < 8) (hb : 0 ≤ rB R) : Sp 4 mX5_isSeeing [.ref 0, .int (nI p)] (hM (enc R) ks ot as fl kp tc g) (some (.int (bI (seeP (rT R) (rL R) (rB R) (cnt R) (rK R) p)))) (hM (enc R) ks ot as fl kp tc g) := by
  refine Sp.of [some (.ref 0), some (.int (nI p)), none] mrX5_isSeeing.1 rfl (Nat.le_of_ble_eq_true rfl) rfl (fun X => ?_)
  refine r_aload_n dX5_isSeeing_0 rfl ?_
  refine r_iload_n dX5_isSeeing_1 rfl ?_
  refine r_v1r (M_isLit hn hp hb) (Nat.le_of_ble_eq_true rfl) mrX5_isLit lkX5_81 rfl rfl rfl dX5_isSeeing_2 (Nat.le_of_ble_eq_true rfl) ?_
  refine r_istore_n (lv' := [_, _, _]) dX5_isSeeing_5 (by decide) rfl ?_
  refine r_aload_n dX5_isSeeing_6 rfl ?_
  refine r_iload_n dX5_isSeeing_7 rfl ?_
  refine r_iconst (v := nI 0) dX5_isSeeing_8 (by decide) ?_
  refine r_v2r (M_its0 (by omega)) (Nat.le_of_ble_eq_true rfl) mrX5_its lkX5_54 rfl rfl rfl dX5_isSeeing_9 (Nat.le_of_ble_eq_true rfl) ?_
  refine r_tsw 118 dX5_isSeeing_12 (by decide) (fun v12 h12 g12 e12 => ?_) (fun e12 => ?_)
  · rcases (show v12 = 1 ∨ v12 = 2 ∨ v12 = 3 ∨ v12 = 4 ∨ v12 = 5 by omega) with rfl | rfl | rfl | rfl | rfl
    · refine ⟨36, 48, by decide, by decide, ?_⟩
      have c12 := toI_eq 1 e12 (by decide)
      refine r_iload_n dX5_isSeeing_48 rfl ?_
      refine r_if_eqB 65 dX5_isSeeing_49 (by decide) (fun c49 => ?_) (fun c49 => ?_)
      · refine r_iconst (v := nI 0) dX5_isSeeing_65 (by decide) ?_
        refine r_iret dX5_isSeeing_66 rfl (by first | exact bI_nar _ | rfl) ?_ ?_
        · first | exact ret_f (by rw [seeP, c12, seesF_1, c49]; rfl) | (obtain ⟨a, ha, ea⟩ := lit_pl hn c49; exact ret_t (by rw [seeP, c12, seesF_1, c49, ea, near_far ha hp]; rw [ea] at c58; rw [decide_eq_true (Int32.not_lt.mp c58)]; rfl)) | (obtain ⟨a, ha, ea⟩ := lit_pl hn c49; exact ret_f (by rw [seeP, c12, seesF_1, c49, ea, near_far ha hp]; rw [ea] at c58; rw [decide_eq_false (Int32.not_le.mpr c58)]; rfl))
        · exact HE.rf
      · refine r_aload_n dX5_isSeeing_52 rfl ?_
        refine r_iload_n dX5_isSeeing_53 rfl ?_
        refine r_v1r M_farOf (Nat.le_of_ble_eq_true rfl) mrX5_farOf lkX5_78 rfl rfl rfl dX5_isSeeing_54 (Nat.le_of_ble_eq_true rfl) ?_
        refine r_iconst (v := nI 2) dX5_isSeeing_57 (by decide) ?_
        refine r_icmp_gt 65 dX5_isSeeing_58 (by decide) (fun c58 => ?_) (fun c58 => ?_)
        · refine r_iconst (v := nI 0) dX5_isSeeing_65 (by decide) ?_
          refine r_iret dX5_isSeeing_66 rfl (by first | exact bI_nar _ | rfl) ?_ ?_
          · first | exact ret_f (by rw [seeP, c12, seesF_1, c49]; rfl) | (obtain ⟨a, ha, ea⟩ := lit_pl hn c49; exact ret_t (by rw [seeP, c12, seesF_1, c49, ea, near_far ha hp]; rw [ea] at c58; rw [decide_eq_true (Int32.not_lt.mp c58)]; rfl)) | (obtain ⟨a, ha, ea⟩ := lit_pl hn c49; exact ret_f (by rw [seeP, c12, seesF_1, c49, ea, near_far ha hp]; rw [ea] at c58; rw [decide_eq_false (Int32.not_le.mpr c58)]; rfl))
          · exact HE.rf
        · refine r_iconst (v := nI 1) dX5_isSeeing_61 (by decide) ?_
          refine r_goto 66 dX5_isSeeing_62 (by decide) ?_
          refine r_iret dX5_isSeeing_66 rfl (by first | exact bI_nar _ | rfl) ?_ ?_
          · first | exact ret_f (by rw [seeP, c12, seesF_1, c49]; rfl) | (obtain ⟨a, ha, ea⟩ := lit_pl hn c49; exact ret_t (by rw [seeP, c12, seesF_1, c49, ea, near_far ha hp]; rw [ea] at c58; rw [decide_eq_true (Int32.not_lt.mp c58)]; rfl)) | (obtain ⟨a, ha, ea⟩ := lit_pl hn c49; exact ret_f (by rw [seeP, c12, seesF_1, c49, ea, near_far ha hp]; rw [ea] at c58; rw [decide_eq_false (Int32.not_le.mpr c58)]; rfl))
          · exact HE.rf
    · refine ⟨106, 118, by decide, by decide, ?_⟩
      have c12 := toI_eq 2 e12 (by decide)
      refine r_iload_n dX5_isSeeing_118 rfl ?_
      refine r_iret dX5_isSeeing_119 rfl (by first | exact bI_nar _ | rfl) ?_ ?_
      · first | (rw [seeP, c12, seesF_2]; done) | (rw [seeP, seesF, if_neg c12_1, if_neg c12_3, if_neg c12_4, if_neg c12_5])
      · exact HE.rf
    · refine ⟨55, 67, by decide, by decide, ?_⟩
      have c12 := toI_eq 3 e12 (by decide)
      refine r_iconst (v := nI 1) dX5_isSeeing_67 (by decide) ?_
      refine r_iret dX5_isSeeing_68 rfl (by first | exact bI_nar _ | rfl) ?_ ?_
      · exact ret_t (by rw [seeP, c12, seesF_3])
      · exact HE.rf
    · refine ⟨57, 69, by decide, by decide, ?_⟩
      have c12 := toI_eq 4 e12 (by decide)
      refine r_iload_n dX5_isSeeing_69 rfl ?_
      refine r_if_eqB 94 dX5_isSeeing_70 (by decide) (fun c70 => ?_) (fun c70 => ?_)
      · refine r_iconst (v := nI 0) dX5_isSeeing_94 (by decide) ?_
        refine r_iret dX5_isSeeing_95 rfl (by first | exact bI_nar _ | rfl) ?_ ?_
        · first | exact ret_f (by rw [seeP, c12, seesF_4, c70]; rfl) | (obtain ⟨a, ha, ea⟩ := lit_pl hn c70; exact ret_t (by rw [seeP, c12, seesF_4, c70, ea, near_far ha hp, far_pos ha hp]; rw [ea] at c79 c87; rw [decide_eq_true (Int32.not_lt.mp c79), decide_eq_true (Int32.not_le.mp c87)]; rfl)) | (obtain ⟨a, ha, ea⟩ := lit_pl hn c70; exact ret_f (by rw [seeP, c12, seesF_4, c70, ea, near_far ha hp]; rw [ea] at c79; rw [decide_eq_false (Int32.not_le.mpr c79)]; rfl)) | (obtain ⟨a, ha, ea⟩ := lit_pl hn c70; exact ret_f (by rw [seeP, c12, seesF_4, c70, ea, far_pos ha hp]; rw [ea] at c87; rw [decide_eq_false (Int32.not_lt.mpr c87), Bool.and_false]))
        · exact HE.rf
      · refine r_aload_n dX5_isSeeing_73 rfl ?_
        refine r_iload_n dX5_isSeeing_74 rfl ?_
        refine r_v1r M_farOf (Nat.le_of_ble_eq_true rfl) mrX5_farOf lkX5_78 rfl rfl rfl dX5_isSeeing_75 (Nat.le_of_ble_eq_true rfl) ?_
        refine r_iconst (v := nI 2) dX5_isSeeing_78 (by decide) ?_
        refine r_icmp_gt 94 dX5_isSeeing_79 (by decide) (fun c79 => ?_) (fun c79 => ?_)
        · refine r_iconst (v := nI 0) dX5_isSeeing_94 (by decide) ?_
          refine r_iret dX5_isSeeing_95 rfl (by first | exact bI_nar _ | rfl) ?_ ?_
          · first | exact ret_f (by rw [seeP, c12, seesF_4, c70]; rfl) | (obtain ⟨a, ha, ea⟩ := lit_pl hn c70; exact ret_t (by rw [seeP, c12, seesF_4, c70, ea, near_far ha hp, far_pos ha hp]; rw [ea] at c79 c87; rw [decide_eq_true (Int32.not_lt.mp c79), decide_eq_true (Int32.not_le.mp c87)]; rfl)) | (obtain ⟨a, ha, ea⟩ := lit_pl hn c70; exact ret_f (by rw [seeP, c12, seesF_4, c70, ea, near_far ha hp]; rw [ea] at c79; rw [decide_eq_false (Int32.not_le.mpr c79)]; rfl)) | (obtain ⟨a, ha, ea⟩ := lit_pl hn c70; exact ret_f (by rw [seeP, c12, seesF_4, c70, ea, far_pos ha hp]; rw [ea] at c87; rw [decide_eq_false (Int32.not_lt.mpr c87), Bool.and_false]))
          · exact HE.rf
        · refine r_aload_n dX5_isSeeing_82 rfl ?_
          refine r_iload_n dX5_isSeeing_83 rfl ?_
          refine r_v1r M_farOf (Nat.le_of_ble_eq_true rfl) mrX5_farOf lkX5_78 rfl rfl rfl dX5_isSeeing_84 (Nat.le_of_ble_eq_true rfl) ?_
          refine r_if_le 94 dX5_isSeeing_87 (by decide) (fun c87 => ?_) (fun c87 => ?_)
          · refine r_iconst (v := nI 0) dX5_isSeeing_94 (by decide) ?_
            refine r_iret dX5_isSeeing_95 rfl (by first | exact bI_nar _ | rfl) ?_ ?_
            · first | exact ret_f (by rw [seeP, c12, seesF_4, c70]; rfl) | (obtain ⟨a, ha, ea⟩ := lit_pl hn c70; exact ret_t (by rw [seeP, c12, seesF_4, c70, ea, near_far ha hp, far_pos ha hp]; rw [ea] at c79 c87; rw [decide_eq_true (Int32.not_lt.mp c79), decide_eq_true (Int32.not_le.mp c87)]; rfl)) | (obtain ⟨a, ha, ea⟩ := lit_pl hn c70; exact ret_f (by rw [seeP, c12, seesF_4, c70, ea, near_far ha hp]; rw [ea] at c79; rw [decide_eq_false (Int32.not_le.mpr c79)]; rfl)) | (obtain ⟨a, ha, ea⟩ := lit_pl hn c70; exact ret_f (by rw [seeP, c12, seesF_4, c70, ea, far_pos ha hp]; rw [ea] at c87; rw [decide_eq_false (Int32.not_lt.mpr c87), Bool.and_false]))
            · exact HE.rf
          · refine r_iconst (v := nI 1) dX5_isSeeing_90 (by decide) ?_
            refine r_goto 95 dX5_isSeeing_91 (by decide) ?_
            refine r_iret dX5_isSeeing_95 rfl (by first | exact bI_nar _ | rfl) ?_ ?_
            · first | exact ret_f (by rw [seeP, c12, seesF_4, c70]; rfl) | (obtain ⟨a, ha, ea⟩ := lit_pl hn c70; exact ret_t (by rw [seeP, c12, seesF_4, c70, ea, near_far ha hp, far_pos ha hp]; rw [ea] at c79 c87; rw [decide_eq_true (Int32.not_lt.mp c79), decide_eq_true (Int32.not_le.mp c87)]; rfl)) | (obtain ⟨a, ha, ea⟩ := lit_pl hn c70; exact ret_f (by rw [seeP, c12, seesF_4, c70, ea, near_far ha hp]; rw [ea] at c79; rw [decide_eq_false (Int32.not_le.mpr c79)]; rfl)) | (obtain ⟨a, ha, ea⟩ := lit_pl hn c70; exact ret_f (by rw [seeP, c12, seesF_4, c70, ea, far_pos ha hp]; rw [ea] at c87; rw [decide_eq_false (Int32.not_lt.mpr c87), Bool.and_false]))
            · exact HE.rf
    · refine ⟨84, 96, by decide, by decide, ?_⟩
      have c12 := toI_eq 5 e12 (by decide)
      refine r_iload_n dX5_isSeeing_96 rfl ?_
      refine r_if_eqB 116 dX5_isSeeing_97 (by decide) (fun c97 => ?_) (fun c97 => ?_)
      · refine r_iconst (v := nI 0) dX5_isSeeing_116 (by decide) ?_
        refine r_iret dX5_isSeeing_117 rfl (by first | exact bI_nar _ | rfl) ?_ ?_
        · first | exact ret_f (by rw [seeP, c12, seesF_5, c97]; rfl) | exact ret_t (by rw [seeP, c12, seesF_5, c97, decide_eq_true c109]; rfl) | exact ret_f (by rw [seeP, c12, seesF_5, decide_eq_false (fun z => z c109), Bool.and_false])
        · exact HE.rf
      · refine r_aload_n dX5_isSeeing_100 rfl ?_
        refine r_getfield dX5_isSeeing_101 gfX5_7 rfl rfl ?_
        refine r_iconst (v := nI 0) dX5_isSeeing_104 (by decide) ?_
        refine r_ialdN dX5_isSeeing_105 rfl (by first | decide | omega) (Nat.le_of_ble_eq_true rfl) enc0 ?_
        refine r_iconst (v := nI 3) dX5_isSeeing_106 (by decide) ?_
        refine r_irem dX5_isSeeing_107 (by decide) ?_
        refine r_iconst (v := nI 2) dX5_isSeeing_108 (by decide) ?_
        refine r_icmp_eq 116 dX5_isSeeing_109 (by decide) (fun c109 => ?_) (fun c109 => ?_)
        · refine r_iconst (v := nI 0) dX5_isSeeing_116 (by decide) ?_
          refine r_iret dX5_isSeeing_117 rfl (by first | exact bI_nar _ | rfl) ?_ ?_
          · first | exact ret_f (by rw [seeP, c12, seesF_5, c97]; rfl) | exact ret_t (by rw [seeP, c12, seesF_5, c97, decide_eq_true c109]; rfl) | exact ret_f (by rw [seeP, c12, seesF_5, decide_eq_false (fun z => z c109), Bool.and_false])
          · exact HE.rf
        · refine r_iconst (v := nI 1) dX5_isSeeing_112 (by decide) ?_
          refine r_goto 117 dX5_isSeeing_113 (by decide) ?_
          refine r_iret dX5_isSeeing_117 rfl (by first | exact bI_nar _ | rfl) ?_ ?_
          · first | exact ret_f (by rw [seeP, c12, seesF_5, c97]; rfl) | exact ret_t (by rw [seeP, c12, seesF_5, c97, decide_eq_true c109]; rfl) | exact ret_f (by rw [seeP, c12, seesF_5, decide_eq_false (fun z => z c109), Bool.and_false])
          · exact HE.rf
  · have c12_1 := toI_ne 1 e12 (by decide)
    have c12_2 := toI_ne 2 e12 (by decide)
    have c12_3 := toI_ne 3 e12 (by decide)
    have c12_4 := toI_ne 4 e12 (by decide)
    have c12_5 := toI_ne 5 e12 (by decide)
    refine r_iload_n dX5_isSeeing_118 rfl ?_
    refine r_iret dX5_isSeeing_119 rfl (by first | exact bI_nar _ | rfl) ?_ ?_
    · first | (rw [seeP, c12, seesF_2]; done) | (rw [seeP, seesF, if_neg c12_1, if_neg c12_3, if_neg c12_4, if_neg c12_5])
    · exact HE.rf
theorem M_isHeeding {R : RS} {ks ot as : Nat → Int32} {fl : Int32} {kp : Bool} {tc : Nat → Int32} {g : GO} {p : Nat} (hp : p < 8) : Sp 2 mX5_isHeeding [.ref 0, .int (nI p)] (hM (enc R) ks ot as fl kp tc g) (some (.int (bI (heedF (rK R p) (rN R p))))) (hM (enc R) ks ot as fl kp tc g) := by
  refine Sp.of [some (.ref 0), some (.int (nI p)), none] mrX5_isHeeding.1 rfl (Nat.le_of_ble_eq_true rfl) rfl (fun X => ?_)
  refine r_aload_n dX5_isHeeding_0 rfl ?_
  refine r_iload_n dX5_isHeeding_1 rfl ?_
  refine r_iconst (v := nI 0) dX5_isHeeding_2 (by decide) ?_
  refine r_v2r (M_its0 (by omega)) (Nat.le_of_ble_eq_true rfl) mrX5_its lkX5_54 rfl rfl rfl dX5_isHeeding_3 (Nat.le_of_ble_eq_true rfl) ?_
  refine r_istore_n (lv' := [_, _, _]) dX5_isHeeding_6 (by decide) rfl ?_
  refine r_iload_n dX5_isHeeding_7 rfl ?_
  refine r_iconst (v := nI 2) dX5_isHeeding_8 (by decide) ?_
  refine r_icmp_eq 28 dX5_isHeeding_9 (by decide) (fun c9 => ?_) (fun c9 => ?_)
  · refine r_iconst (v := nI 1) dX5_isHeeding_28 (by decide) ?_
    refine r_goto 33 dX5_isHeeding_29 (by decide) ?_
    refine r_iret dX5_isHeeding_33 rfl (by first | exact bI_nar _ | rfl) ?_ ?_
    · first | exact ret_t (by rw [heedF, if_pos c9]) | exact ret_f (by rw [heedF, if_neg c9, if_pos c14]) | exact ret_t (by rw [heedF, if_neg c9, if_neg c14]; exact decide_eq_true (Int32.not_lt.mp c25)) | exact ret_f (by rw [heedF, if_neg c9, if_neg c14]; exact decide_eq_false (Int32.not_le.mpr c25))
    · exact HE.rf
  · refine r_iload_n dX5_isHeeding_12 rfl ?_
    refine r_iconst (v := nI 5) dX5_isHeeding_13 (by decide) ?_
    refine r_icmp_eq 32 dX5_isHeeding_14 (by decide) (fun c14 => ?_) (fun c14 => ?_)
    · refine r_iconst (v := nI 0) dX5_isHeeding_32 (by decide) ?_
      refine r_iret dX5_isHeeding_33 rfl (by first | exact bI_nar _ | rfl) ?_ ?_
      · first | exact ret_t (by rw [heedF, if_pos c9]) | exact ret_f (by rw [heedF, if_neg c9, if_pos c14]) | exact ret_t (by rw [heedF, if_neg c9, if_neg c14]; exact decide_eq_true (Int32.not_lt.mp c25)) | exact ret_f (by rw [heedF, if_neg c9, if_neg c14]; exact decide_eq_false (Int32.not_le.mpr c25))
      · exact HE.rf
    · refine r_aload_n dX5_isHeeding_17 rfl ?_
      refine r_iload_n dX5_isHeeding_18 rfl ?_
      refine r_iconst (v := nI 3) dX5_isHeeding_19 (by decide) ?_
      refine r_v2r (M_its3 (by omega)) (Nat.le_of_ble_eq_true rfl) mrX5_its lkX5_54 rfl rfl rfl dX5_isHeeding_20 (Nat.le_of_ble_eq_true rfl) ?_
      refine r_bipush (v := nI 30) dX5_isHeeding_23 (by decide) ?_
      refine r_icmp_lt 32 dX5_isHeeding_25 (by decide) (fun c25 => ?_) (fun c25 => ?_)
      · refine r_iconst (v := nI 0) dX5_isHeeding_32 (by decide) ?_
        refine r_iret dX5_isHeeding_33 rfl (by first | exact bI_nar _ | rfl) ?_ ?_
        · first | exact ret_t (by rw [heedF, if_pos c9]) | exact ret_f (by rw [heedF, if_neg c9, if_pos c14]) | exact ret_t (by rw [heedF, if_neg c9, if_neg c14]; exact decide_eq_true (Int32.not_lt.mp c25)) | exact ret_f (by rw [heedF, if_neg c9, if_neg c14]; exact decide_eq_false (Int32.not_le.mpr c25))
        · exact HE.rf
      · refine r_iconst (v := nI 1) dX5_isHeeding_28 (by decide) ?_
        refine r_goto 33 dX5_isHeeding_29 (by decide) ?_
        refine r_iret dX5_isHeeding_33 rfl (by first | exact bI_nar _ | rfl) ?_ ?_
        · first | exact ret_t (by rw [heedF, if_pos c9]) | exact ret_f (by rw [heedF, if_neg c9, if_pos c14]) | exact ret_t (by rw [heedF, if_neg c9, if_neg c14]; exact decide_eq_true (Int32.not_lt.mp c25)) | exact ret_f (by rw [heedF, if_neg c9, if_neg c14]; exact decide_eq_false (Int32.not_le.mpr c25))
        · exact HE.rf
theorem M_isSaying {R : RS} {ks ot as : Nat → Int32} {fl : Int32} {kp : Bool} {tc : Nat → Int32} {g : GO} {p : Nat} (hn : cnt R ≤ 8) (hp : p < 8) (hb : 0 ≤ rB R) : Sp 5 mX5_isSaying [.ref 0, .int (nI p)] (hM (enc R) ks ot as fl kp tc g) (some (.int (bI (saysF (rK R p) (rH R p) (rN R p) (isIn fl (nI p)) (atR (rT R) (rR R) p && (seeP (rT R) (rL R) (rB R) (cnt R) (rK R) p)))))) (hM (enc R) ks ot as fl kp tc g) := by
  refine Sp.of [some (.ref 0), some (.int (nI p)), none, none, none] mrX5_isSaying.1 rfl (Nat.le_of_ble_eq_true rfl) rfl (fun X => ?_)
  have J3 : ∀ v : Int32, v = bI ((isIn fl (nI p) || (atR (rT R) (rR R) p && (seeP (rT R) (rL R) (rB R) (cnt R) (rK R) p))) || decide (rH R p = nI 1)) → Run X 5 mX5_isSaying 63 [some (.ref 0), some (.int (nI p)), some (.int (bI (isIn fl (nI p)))), some (.int (bI (isIn fl (nI p) || (atR (rT R) (rR R) p && (seeP (rT R) (rL R) (rB R) (cnt R) (rK R) p))))), none] [.int v] (hM (enc R) ks ot as fl kp tc g) (some (.int (bI (saysF (rK R p) (rH R p) (rN R p) (isIn fl (nI p)) (atR (rT R) (rR R) p && (seeP (rT R) (rL R) (rB R) (cnt R) (rK R) p)))))) (hM (enc R) ks ot as fl kp tc g) := by
    intro v hv
    subst hv
    refine r_istore (lv' := [_, _, _, _, _]) dX5_isSaying_63 (by decide) rfl ?_
    refine r_aload_n dX5_isSaying_65 rfl ?_
    refine r_iload_n dX5_isSaying_66 rfl ?_
    refine r_iconst (v := nI 0) dX5_isSaying_67 (by decide) ?_
    refine r_v2r (M_its0 (by omega)) (Nat.le_of_ble_eq_true rfl) mrX5_its lkX5_54 rfl rfl rfl dX5_isSaying_68 (Nat.le_of_ble_eq_true rfl) ?_
    refine r_tsw 133 dX5_isSaying_71 (by decide) (fun v71 h71 g71 e71 => ?_) (fun e71 => ?_)
    · rcases (show v71 = 1 ∨ v71 = 2 ∨ v71 = 3 ∨ v71 = 4 ∨ v71 = 5 by omega) with rfl | rfl | rfl | rfl | rfl
      · refine ⟨33, 104, by decide, by decide, ?_⟩
        have c71 := toI_eq 1 e71 (by decide)
        refine r_iload dX5_isSaying_104 rfl ?_
        refine r_iret dX5_isSaying_106 rfl (by first | exact bI_nar _ | rfl) ?_ ?_
        · rw [c71, saysF_1]
        · exact HE.rf
      · refine ⟨36, 107, by decide, by decide, ?_⟩
        have c71 := toI_eq 2 e71 (by decide)
        refine r_iload_n dX5_isSaying_107 rfl ?_
        refine r_iret dX5_isSaying_108 rfl (by first | exact bI_nar _ | rfl) ?_ ?_
        · rw [c71, saysF_2]
        · exact HE.rf
      · refine ⟨62, 133, by decide, by decide, ?_⟩
        have c71 := toI_eq 3 e71 (by decide)
        refine r_iload_n dX5_isSaying_133 rfl ?_
        refine r_iret dX5_isSaying_134 rfl (by first | exact bI_nar _ | rfl) ?_ ?_
        · first | (rw [c71, saysF_3]; done) | (rw [saysF, if_neg c71_1, if_neg c71_2, if_neg c71_4, if_neg c71_5])
        · exact HE.rf
      · refine ⟨38, 109, by decide, by decide, ?_⟩
        have c71 := toI_eq 4 e71 (by decide)
        refine r_iload dX5_isSaying_109 rfl ?_
        refine r_if_eqB 129 dX5_isSaying_111 (by decide) (fun c111 => ?_) (fun c111 => ?_)
        · refine r_iconst (v := nI 0) dX5_isSaying_129 (by decide) ?_
          refine r_iret dX5_isSaying_130 rfl (by first | exact bI_nar _ | rfl) ?_ ?_
          · first | exact ret_t (by rw [c71, saysF_4, c111, decide_eq_true (Int32.not_lt.mp c122)]; rfl) | exact ret_f (by rw [c71, saysF_4, c111]; rfl) | exact ret_f (by rw [c71, saysF_4, decide_eq_false (Int32.not_le.mpr c122), Bool.and_false])
          · exact HE.rf
        · refine r_aload_n dX5_isSaying_114 rfl ?_
          refine r_iload_n dX5_isSaying_115 rfl ?_
          refine r_iconst (v := nI 3) dX5_isSaying_116 (by decide) ?_
          refine r_v2r (M_its3 (by omega)) (Nat.le_of_ble_eq_true rfl) mrX5_its lkX5_54 rfl rfl rfl dX5_isSaying_117 (Nat.le_of_ble_eq_true rfl) ?_
          refine r_bipush (v := nI 20) dX5_isSaying_120 (by decide) ?_
          refine r_icmp_lt 129 dX5_isSaying_122 (by decide) (fun c122 => ?_) (fun c122 => ?_)
          · refine r_iconst (v := nI 0) dX5_isSaying_129 (by decide) ?_
            refine r_iret dX5_isSaying_130 rfl (by first | exact bI_nar _ | rfl) ?_ ?_
            · first | exact ret_t (by rw [c71, saysF_4, c111, decide_eq_true (Int32.not_lt.mp c122)]; rfl) | exact ret_f (by rw [c71, saysF_4, c111]; rfl) | exact ret_f (by rw [c71, saysF_4, decide_eq_false (Int32.not_le.mpr c122), Bool.and_false])
            · exact HE.rf
          · refine r_iconst (v := nI 1) dX5_isSaying_125 (by decide) ?_
            refine r_goto 130 dX5_isSaying_126 (by decide) ?_
            refine r_iret dX5_isSaying_130 rfl (by first | exact bI_nar _ | rfl) ?_ ?_
            · first | exact ret_t (by rw [c71, saysF_4, c111, decide_eq_true (Int32.not_lt.mp c122)]; rfl) | exact ret_f (by rw [c71, saysF_4, c111]; rfl) | exact ret_f (by rw [c71, saysF_4, decide_eq_false (Int32.not_le.mpr c122), Bool.and_false])
            · exact HE.rf
      · refine ⟨60, 131, by decide, by decide, ?_⟩
        have c71 := toI_eq 5 e71 (by decide)
        refine r_iconst (v := nI 0) dX5_isSaying_131 (by decide) ?_
        refine r_iret dX5_isSaying_132 rfl (by first | exact bI_nar _ | rfl) ?_ ?_
        · exact ret_f (by rw [c71, saysF_5])
        · exact HE.rf
    · have c71_1 := toI_ne 1 e71 (by decide)
      have c71_2 := toI_ne 2 e71 (by decide)
      have c71_3 := toI_ne 3 e71 (by decide)
      have c71_4 := toI_ne 4 e71 (by decide)
      have c71_5 := toI_ne 5 e71 (by decide)
      refine r_iload_n dX5_isSaying_133 rfl ?_
      refine r_iret dX5_isSaying_134 rfl (by first | exact bI_nar _ | rfl) ?_ ?_
      · first | (rw [c71, saysF_3]; done) | (rw [saysF, if_neg c71_1, if_neg c71_2, if_neg c71_4, if_neg c71_5])
      · exact HE.rf
  have J2 : ∀ v : Int32, v = bI (isIn fl (nI p) || (atR (rT R) (rR R) p && (seeP (rT R) (rL R) (rB R) (cnt R) (rK R) p))) → Run X 5 mX5_isSaying 43 [some (.ref 0), some (.int (nI p)), some (.int (bI (isIn fl (nI p)))), none, none] [.int v] (hM (enc R) ks ot as fl kp tc g) (some (.int (bI (saysF (rK R p) (rH R p) (rN R p) (isIn fl (nI p)) (atR (rT R) (rR R) p && (seeP (rT R) (rL R) (rB R) (cnt R) (rK R) p)))))) (hM (enc R) ks ot as fl kp tc g) := by
    intro v hv
    subst hv
    refine r_istore_n (lv' := [_, _, _, _, _]) dX5_isSaying_43 (by decide) rfl ?_
    refine r_iload_n dX5_isSaying_44 rfl ?_
    refine r_if_neB 58 dX5_isSaying_45 (by decide) (fun c45 => ?_) (fun c45 => ?_)
    · refine r_iconst (v := nI 1) dX5_isSaying_58 (by decide) ?_
      refine r_goto 63 dX5_isSaying_59 (by decide) ?_
      first | exact J3 _ (by rw [c45]; rfl) | exact J3 _ (by rw [c45, decide_eq_true c55]; rfl) | exact J3 _ (by rw [c45, decide_eq_false c55]; rfl)
    · refine r_aload_n dX5_isSaying_48 rfl ?_
      refine r_iload_n dX5_isSaying_49 rfl ?_
      refine r_iconst (v := nI 1) dX5_isSaying_50 (by decide) ?_
      refine r_v2r (M_its1 (by omega)) (Nat.le_of_ble_eq_true rfl) mrX5_its lkX5_54 rfl rfl rfl dX5_isSaying_51 (Nat.le_of_ble_eq_true rfl) ?_
      refine r_iconst (v := nI 1) dX5_isSaying_54 (by decide) ?_
      refine r_icmp_ne 62 dX5_isSaying_55 (by decide) (fun c55 => ?_) (fun c55 => ?_)
      · refine r_iconst (v := nI 0) dX5_isSaying_62 (by decide) ?_
        first | exact J3 _ (by rw [c45]; rfl) | exact J3 _ (by rw [c45, decide_eq_true c55]; rfl) | exact J3 _ (by rw [c45, decide_eq_false c55]; rfl)
      · refine r_iconst (v := nI 1) dX5_isSaying_58 (by decide) ?_
        refine r_goto 63 dX5_isSaying_59 (by decide) ?_
        first | exact J3 _ (by rw [c45]; rfl) | exact J3 _ (by rw [c45, decide_eq_true c55]; rfl) | exact J3 _ (by rw [c45, decide_eq_false c55]; rfl)
  have J1 : ∀ v : Int32, v = bI (isIn fl (nI p)) → Run X 5 mX5_isSaying 17 [some (.ref 0), some (.int (nI p)), none, none, none] [.int v] (hM (enc R) ks ot as fl kp tc g) (some (.int (bI (saysF (rK R p) (rH R p) (rN R p) (isIn fl (nI p)) (atR (rT R) (rR R) p && (seeP (rT R) (rL R) (rB R) (cnt R) (rK R) p)))))) (hM (enc R) ks ot as fl kp tc g) := by
    intro v hv
    subst hv
    refine r_istore_n (lv' := [_, _, _, _, _]) dX5_isSaying_17 (by decide) rfl ?_
    refine r_iload_n dX5_isSaying_18 rfl ?_
    refine r_if_neB 38 dX5_isSaying_19 (by decide) (fun c19 => ?_) (fun c19 => ?_)
    · refine r_iconst (v := nI 1) dX5_isSaying_38 (by decide) ?_
      refine r_goto 43 dX5_isSaying_39 (by decide) ?_
      first | exact J2 _ (by rw [c19]; rfl) | exact J2 _ (by rw [c19, c27]; rfl) | exact J2 _ (by rw [c19, c27, c35]; rfl)
    · refine r_aload_n dX5_isSaying_22 rfl ?_
      refine r_iload_n dX5_isSaying_23 rfl ?_
      refine r_v1r M_isAtRoot (Nat.le_of_ble_eq_true rfl) mrX5_isAtRoot lkX5_84 rfl rfl rfl dX5_isSaying_24 (Nat.le_of_ble_eq_true rfl) ?_
      refine r_if_eqB 42 dX5_isSaying_27 (by decide) (fun c27 => ?_) (fun c27 => ?_)
      · refine r_iconst (v := nI 0) dX5_isSaying_42 (by decide) ?_
        first | exact J2 _ (by rw [c19]; rfl) | exact J2 _ (by rw [c19, c27]; rfl) | exact J2 _ (by rw [c19, c27, c35]; rfl)
      · refine r_aload_n dX5_isSaying_30 rfl ?_
        refine r_iload_n dX5_isSaying_31 rfl ?_
        refine r_v1r (M_isSeeing hn hp hb) (Nat.le_of_ble_eq_true rfl) mrX5_isSeeing lkX5_104 rfl rfl rfl dX5_isSaying_32 (Nat.le_of_ble_eq_true rfl) ?_
        refine r_if_eqB 42 dX5_isSaying_35 (by decide) (fun c35 => ?_) (fun c35 => ?_)
        · refine r_iconst (v := nI 0) dX5_isSaying_42 (by decide) ?_
          first | exact J2 _ (by rw [c19]; rfl) | exact J2 _ (by rw [c19, c27]; rfl) | exact J2 _ (by rw [c19, c27, c35]; rfl)
        · refine r_iconst (v := nI 1) dX5_isSaying_38 (by decide) ?_
          refine r_goto 43 dX5_isSaying_39 (by decide) ?_
          first | exact J2 _ (by rw [c19]; rfl) | exact J2 _ (by rw [c19, c27]; rfl) | exact J2 _ (by rw [c19, c27, c35]; rfl)
  refine r_aload_n dX5_isSaying_0 rfl ?_
  refine r_getfield dX5_isSaying_1 gfX5_100 rfl rfl ?_
  refine r_iload_n dX5_isSaying_4 rfl ?_
  refine r_ishr dX5_isSaying_5 ?_
  refine r_iconst (v := nI 1) dX5_isSaying_6 (by decide) ?_
  refine r_iand dX5_isSaying_7 ?_
  refine r_iconst (v := nI 1) dX5_isSaying_8 (by decide) ?_
  refine r_icmp_ne 16 dX5_isSaying_9 (by decide) (fun c9 => ?_) (fun c9 => ?_)
  · refine r_iconst (v := nI 0) dX5_isSaying_16 (by decide) ?_
    first | exact J1 _ (by rw [isIn, decide_eq_true c9]; rfl) | exact J1 _ (by rw [isIn, decide_eq_false c9]; rfl)
  · refine r_iconst (v := nI 1) dX5_isSaying_12 (by decide) ?_
    refine r_goto 17 dX5_isSaying_13 (by decide) ?_
    first | exact J1 _ (by rw [isIn, decide_eq_true c9]; rfl) | exact J1 _ (by rw [isIn, decide_eq_false c9]; rfl)
theorem nT1 {v : Nat} (hv : v ≤ 99) (h : ¬ 0 ≤ nI v + (-10)) : nwN true (nI v) = nI 0 := by
  have key : ∀ v, v ≤ 99 → (¬ 0 ≤ nI v + (-10)) → nwN true (nI v) = nI 0 := by decide +kernel
  exact key v hv h
theorem nT2 {v : Nat} (hv : v ≤ 99) (h : 0 ≤ nI v + (-10)) : nwN true (nI v) = nI v + (-10) := by
  have key : ∀ v, v ≤ 99 → (0 ≤ nI v + (-10)) → nwN true (nI v) = nI v + (-10) := by decide +kernel
  exact key v hv h
theorem nT3 {v : Nat} (hv : v ≤ 99) : nI v + (-10) ≤ nI 99 := by
  have key : ∀ v, v ≤ 99 → nI v + (-10) ≤ nI 99 := by decide +kernel
  exact key v hv
theorem nF1 {v : Nat} (hv : v ≤ 99) : 0 ≤ nI v + nI 1 := by rw [nI_add]; exact nI_pos' (by omega)
theorem nF2 {v : Nat} (h : nI v + nI 1 ≤ nI 99) : nwN false (nI v) = nI v + nI 1 := if_neg (Int32.not_lt.mpr h)
theorem nF3 {v : Nat} (h : ¬ nI v + nI 1 ≤ nI 99) : nwN false (nI v) = nI 99 := if_pos (Int32.not_le.mp h)
theorem nS1 {v : Nat} (hv : v ≤ 9999) (h : ¬ nI 9999 ≤ nI v) : nwS true (nI v) = nI v + nI 1 := by
  have h1 : v < 9999 := by
    rcases Nat.lt_or_ge v 9999 with q | q
    · exact q
    · exact absurd (nI_le q (by omega)) h
  show (if nI 9999 < nI v + nI 1 then nI 9999 else nI v + nI 1) = _
  rw [nI_add, if_neg (nI_nlt (by omega) (by omega))]
theorem nS2 {v : Nat} (hv : v ≤ 9999) (h : nI 9999 ≤ nI v) : nwS true (nI v) = nI v + nI 0 := by
  have h1 : v = 9999 := by
    have := (nI_leI (by decide) (by omega)).mp h
    omega
  subst h1
  decide
theorem nS3 {x : Int32} : nwS false x = x + nI 0 := (add_0 x).symm
def orF (F : Bool) (fl : Int32) (p : Nat) : Int32 := match F with
  | true => fl ||| (nI 1 <<< (nI p &&& 31))
  | false => fl
/-- what one that falls, or not, becomes -/
def trd (F : Bool) (R : RS) (p : Nat) : RS := sS (sN R (upd (rN R) p (nwN F (rN R p)))) (upd (rS R) p (nwS F (rS R p)))
theorem M_treads {R : RS} {ks ot as : Nat → Int32} {fl : Int32} {kp : Bool} {tc : Nat → Int32} {g : GO} {p : Nat} (hn : cnt R ≤ 8) (hp : p < 8) (hb : 0 ≤ rB R) (hS : ∃ v, v ≤ 9999 ∧ rS R p = nI v) (hN : ∃ v, v ≤ 99 ∧ rN R p = nI v) (F : Bool) (hF : F = ((atR (rT R) (rR R) p && !(seeP (rT R) (rL R) (rB R) (cnt R) (rK R) p)) && !warnF (rK R p) (rH R p) (rN R p))) : Sp 5 mX5_treads [.ref 0, .int (nI p)] (hM (enc R) ks ot as fl kp tc g) none (hM (enc (trd F R p)) ks ot as (orF F fl p) kp tc g) := by
  refine Sp.of [some (.ref 0), some (.int (nI p)), none, none, none] mrX5_treads.1 rfl (Nat.le_of_ble_eq_true rfl) rfl (fun X => ?_)
  obtain ⟨vs, hs1, hs2⟩ := hS
  obtain ⟨vn, hn1, hn2⟩ := hN
  have J : ∀ (z v : Int32), v = bI F → Run X 5 mX5_treads 49 [some (.ref 0), some (.int (nI p)), some (.int z), none, none] [.int v] (hM (enc R) ks ot as fl kp tc g) none (hM (enc (trd F R p)) ks ot as (orF F fl p) kp tc g) := by
    intro z v hv
    subst hv
    cases F with
    | true =>
      refine r_istore_n (lv' := [_, _, _, _, _]) dX5_treads_49 (by decide) rfl ?_
      refine r_aload_n dX5_treads_50 rfl ?_
      refine r_iload_n dX5_treads_51 rfl ?_
      refine r_iconst (v := nI 3) dX5_treads_52 (by decide) ?_
      refine r_v2r (M_its3 (by omega)) (Nat.le_of_ble_eq_true rfl) mrX5_its lkX5_54 rfl rfl rfl dX5_treads_53 (Nat.le_of_ble_eq_true rfl) ?_
      refine r_iload_n dX5_treads_56 rfl ?_
      refine r_if_eqB 65 dX5_treads_57 (by decide) (fun c57 => ?_) (fun c57 => ?_)
      · exact absurd c57 (by decide)
      · refine r_bipush (v := (-10)) dX5_treads_60 (by decide) ?_
        refine r_goto 66 dX5_treads_62 (by decide) ?_
        refine r_iadd dX5_treads_66 ?_
        refine r_istore (lv' := [_, _, _, _, _]) dX5_treads_67 (by decide) rfl ?_
        refine r_aload_n dX5_treads_69 rfl ?_
        refine r_getfield dX5_treads_70 gfX5_7 rfl rfl ?_
        refine r_iload_n dX5_treads_73 rfl ?_
        refine r_iconst (v := nI 3) dX5_treads_74 (by decide) ?_
        refine r_s2r M_spot (Nat.le_of_ble_eq_true rfl) mrX5_spot lkX5_42 dX5_treads_75 (Nat.le_of_ble_eq_true rfl) ?_
        refine r_iload dX5_treads_78 rfl ?_
        refine r_if_ge 87 dX5_treads_80 (by decide) (fun c80 => ?_) (fun c80 => ?_)
        · refine r_iload dX5_treads_87 rfl ?_
          refine r_bipush (v := nI 99) dX5_treads_89 (by decide) ?_
          refine r_icmp_le 99 dX5_treads_91 (by decide) (fun c91 => ?_) (fun c91 => ?_)
          · refine r_iload dX5_treads_99 rfl ?_
            refine r_iastN (h' := [_, _, _, _, _, _]) dX5_treads_101 rfl (by first | decide | omega) (Nat.le_of_ble_eq_true rfl) rfl ?_
            rw [encU3]
            refine r_aload_n dX5_treads_102 rfl ?_
            refine r_getfield dX5_treads_103 gfX5_7 rfl rfl ?_
            refine r_iload_n dX5_treads_106 rfl ?_
            refine r_iconst (v := nI 2) dX5_treads_107 (by decide) ?_
            refine r_s2r M_spot (Nat.le_of_ble_eq_true rfl) mrX5_spot lkX5_42 dX5_treads_108 (Nat.le_of_ble_eq_true rfl) ?_
            refine r_dup2 dX5_treads_111 rfl rfl ?_
            refine r_ialdN dX5_treads_112 rfl (by first | decide | omega) (Nat.le_of_ble_eq_true rfl) encS ?_
            refine r_iload_n dX5_treads_113 rfl ?_
            refine r_if_eqB 133 dX5_treads_114 (by decide) (fun c114 => ?_) (fun c114 => ?_)
            · exact absurd c114 (by decide)
            · refine r_aload_n dX5_treads_117 rfl ?_
              refine r_iload_n dX5_treads_118 rfl ?_
              refine r_iconst (v := nI 2) dX5_treads_119 (by decide) ?_
              refine r_v2r (M_its2 hp) (Nat.le_of_ble_eq_true rfl) mrX5_its lkX5_54 rfl rfl rfl dX5_treads_120 (Nat.le_of_ble_eq_true rfl) ?_
              refine r_sipush (v := nI 9999) dX5_treads_123 (by decide) ?_
              refine r_icmp_ge 133 dX5_treads_126 (by decide) (fun c126 => ?_) (fun c126 => ?_)
              · refine r_iconst (v := nI 0) dX5_treads_133 (by decide) ?_
                refine r_iadd dX5_treads_134 ?_
                refine r_iastN (h' := [_, _, _, _, _, _]) dX5_treads_135 rfl (by first | decide | omega) (Nat.le_of_ble_eq_true rfl) rfl ?_
                rw [encU2]
                refine r_aload_n dX5_treads_136 rfl ?_
                refine r_dup dX5_treads_137 rfl ?_
                refine r_getfield dX5_treads_138 gfX5_100 rfl rfl ?_
                refine r_iload_n dX5_treads_141 rfl ?_
                refine r_if_eqB 151 dX5_treads_142 (by decide) (fun c142 => ?_) (fun c142 => ?_)
                · exact absurd c142 (by decide)
                · refine r_iconst (v := nI 1) dX5_treads_145 (by decide) ?_
                  refine r_iload_n dX5_treads_146 rfl ?_
                  refine r_ishl dX5_treads_147 ?_
                  refine r_goto 152 dX5_treads_148 (by decide) ?_
                  refine r_ior dX5_treads_152 ?_
                  refine r_putfield (fs' := [_, _, _, _, _, _, _, _, _, _, _, _, _, _, _, _, _]) (h' := [_, _, _, _, _, _]) dX5_treads_153 pfX5_100 rfl (Nat.le_of_ble_eq_true rfl) (fun _ => rfl) rfl rfl rfl rfl ?_
                  refine r_vret dX5_treads_156 rfl ?_ ?_
                  · rfl
                  · first
                    | (have e1 : nwN true (rN R p) = nI 0 := by rw [hn2] at c80 ⊢; exact nT1 hn1 c80
                       have e2 : nwS true (rS R p) = rS R p + nI 1 := by rw [hs2]; exact nS1 hs1 (by rw [← hs2]; exact c126)
                       rw [trd, e1, e2]
                       exact HE.rf)
                    | (have e1 : nwN true (rN R p) = nI 0 := by rw [hn2] at c80 ⊢; exact nT1 hn1 c80
                       have e2 : nwS true (rS R p) = rS R p + nI 0 := by rw [hs2]; exact nS2 hs1 (by rw [← hs2]; exact c126)
                       rw [trd, e1, e2]
                       exact HE.rf)
                    | (have e1 : nwN true (rN R p) = rN R p + (-10) := by rw [hn2] at c80 ⊢; exact nT2 hn1 c80
                       have e2 : nwS true (rS R p) = rS R p + nI 1 := by rw [hs2]; exact nS1 hs1 (by rw [← hs2]; exact c126)
                       rw [trd, e1, e2]
                       exact HE.rf)
                    | (have e1 : nwN true (rN R p) = rN R p + (-10) := by rw [hn2] at c80 ⊢; exact nT2 hn1 c80
                       have e2 : nwS true (rS R p) = rS R p + nI 0 := by rw [hs2]; exact nS2 hs1 (by rw [← hs2]; exact c126)
                       rw [trd, e1, e2]
                       exact HE.rf)
              · refine r_iconst (v := nI 1) dX5_treads_129 (by decide) ?_
                refine r_goto 134 dX5_treads_130 (by decide) ?_
                refine r_iadd dX5_treads_134 ?_
                refine r_iastN (h' := [_, _, _, _, _, _]) dX5_treads_135 rfl (by first | decide | omega) (Nat.le_of_ble_eq_true rfl) rfl ?_
                rw [encU2]
                refine r_aload_n dX5_treads_136 rfl ?_
                refine r_dup dX5_treads_137 rfl ?_
                refine r_getfield dX5_treads_138 gfX5_100 rfl rfl ?_
                refine r_iload_n dX5_treads_141 rfl ?_
                refine r_if_eqB 151 dX5_treads_142 (by decide) (fun c142 => ?_) (fun c142 => ?_)
                · exact absurd c142 (by decide)
                · refine r_iconst (v := nI 1) dX5_treads_145 (by decide) ?_
                  refine r_iload_n dX5_treads_146 rfl ?_
                  refine r_ishl dX5_treads_147 ?_
                  refine r_goto 152 dX5_treads_148 (by decide) ?_
                  refine r_ior dX5_treads_152 ?_
                  refine r_putfield (fs' := [_, _, _, _, _, _, _, _, _, _, _, _, _, _, _, _, _]) (h' := [_, _, _, _, _, _]) dX5_treads_153 pfX5_100 rfl (Nat.le_of_ble_eq_true rfl) (fun _ => rfl) rfl rfl rfl rfl ?_
                  refine r_vret dX5_treads_156 rfl ?_ ?_
                  · rfl
                  · first
                    | (have e1 : nwN true (rN R p) = nI 0 := by rw [hn2] at c80 ⊢; exact nT1 hn1 c80
                       have e2 : nwS true (rS R p) = rS R p + nI 1 := by rw [hs2]; exact nS1 hs1 (by rw [← hs2]; exact c126)
                       rw [trd, e1, e2]
                       exact HE.rf)
                    | (have e1 : nwN true (rN R p) = nI 0 := by rw [hn2] at c80 ⊢; exact nT1 hn1 c80
                       have e2 : nwS true (rS R p) = rS R p + nI 0 := by rw [hs2]; exact nS2 hs1 (by rw [← hs2]; exact c126)
                       rw [trd, e1, e2]
                       exact HE.rf)
                    | (have e1 : nwN true (rN R p) = rN R p + (-10) := by rw [hn2] at c80 ⊢; exact nT2 hn1 c80
                       have e2 : nwS true (rS R p) = rS R p + nI 1 := by rw [hs2]; exact nS1 hs1 (by rw [← hs2]; exact c126)
                       rw [trd, e1, e2]
                       exact HE.rf)
                    | (have e1 : nwN true (rN R p) = rN R p + (-10) := by rw [hn2] at c80 ⊢; exact nT2 hn1 c80
                       have e2 : nwS true (rS R p) = rS R p + nI 0 := by rw [hs2]; exact nS2 hs1 (by rw [← hs2]; exact c126)
                       rw [trd, e1, e2]
                       exact HE.rf)
          · exact absurd (by rw [hn2]; exact nT3 hn1) c91
        · refine r_iconst (v := nI 0) dX5_treads_83 (by decide) ?_
          refine r_goto 101 dX5_treads_84 (by decide) ?_
          refine r_iastN (h' := [_, _, _, _, _, _]) dX5_treads_101 rfl (by first | decide | omega) (Nat.le_of_ble_eq_true rfl) rfl ?_
          rw [encU3]
          refine r_aload_n dX5_treads_102 rfl ?_
          refine r_getfield dX5_treads_103 gfX5_7 rfl rfl ?_
          refine r_iload_n dX5_treads_106 rfl ?_
          refine r_iconst (v := nI 2) dX5_treads_107 (by decide) ?_
          refine r_s2r M_spot (Nat.le_of_ble_eq_true rfl) mrX5_spot lkX5_42 dX5_treads_108 (Nat.le_of_ble_eq_true rfl) ?_
          refine r_dup2 dX5_treads_111 rfl rfl ?_
          refine r_ialdN dX5_treads_112 rfl (by first | decide | omega) (Nat.le_of_ble_eq_true rfl) encS ?_
          refine r_iload_n dX5_treads_113 rfl ?_
          refine r_if_eqB 133 dX5_treads_114 (by decide) (fun c114 => ?_) (fun c114 => ?_)
          · exact absurd c114 (by decide)
          · refine r_aload_n dX5_treads_117 rfl ?_
            refine r_iload_n dX5_treads_118 rfl ?_
            refine r_iconst (v := nI 2) dX5_treads_119 (by decide) ?_
            refine r_v2r (M_its2 hp) (Nat.le_of_ble_eq_true rfl) mrX5_its lkX5_54 rfl rfl rfl dX5_treads_120 (Nat.le_of_ble_eq_true rfl) ?_
            refine r_sipush (v := nI 9999) dX5_treads_123 (by decide) ?_
            refine r_icmp_ge 133 dX5_treads_126 (by decide) (fun c126 => ?_) (fun c126 => ?_)
            · refine r_iconst (v := nI 0) dX5_treads_133 (by decide) ?_
              refine r_iadd dX5_treads_134 ?_
              refine r_iastN (h' := [_, _, _, _, _, _]) dX5_treads_135 rfl (by first | decide | omega) (Nat.le_of_ble_eq_true rfl) rfl ?_
              rw [encU2]
              refine r_aload_n dX5_treads_136 rfl ?_
              refine r_dup dX5_treads_137 rfl ?_
              refine r_getfield dX5_treads_138 gfX5_100 rfl rfl ?_
              refine r_iload_n dX5_treads_141 rfl ?_
              refine r_if_eqB 151 dX5_treads_142 (by decide) (fun c142 => ?_) (fun c142 => ?_)
              · exact absurd c142 (by decide)
              · refine r_iconst (v := nI 1) dX5_treads_145 (by decide) ?_
                refine r_iload_n dX5_treads_146 rfl ?_
                refine r_ishl dX5_treads_147 ?_
                refine r_goto 152 dX5_treads_148 (by decide) ?_
                refine r_ior dX5_treads_152 ?_
                refine r_putfield (fs' := [_, _, _, _, _, _, _, _, _, _, _, _, _, _, _, _, _]) (h' := [_, _, _, _, _, _]) dX5_treads_153 pfX5_100 rfl (Nat.le_of_ble_eq_true rfl) (fun _ => rfl) rfl rfl rfl rfl ?_
                refine r_vret dX5_treads_156 rfl ?_ ?_
                · rfl
                · first
                  | (have e1 : nwN true (rN R p) = nI 0 := by rw [hn2] at c80 ⊢; exact nT1 hn1 c80
                     have e2 : nwS true (rS R p) = rS R p + nI 1 := by rw [hs2]; exact nS1 hs1 (by rw [← hs2]; exact c126)
                     rw [trd, e1, e2]
                     exact HE.rf)
                  | (have e1 : nwN true (rN R p) = nI 0 := by rw [hn2] at c80 ⊢; exact nT1 hn1 c80
                     have e2 : nwS true (rS R p) = rS R p + nI 0 := by rw [hs2]; exact nS2 hs1 (by rw [← hs2]; exact c126)
                     rw [trd, e1, e2]
                     exact HE.rf)
                  | (have e1 : nwN true (rN R p) = rN R p + (-10) := by rw [hn2] at c80 ⊢; exact nT2 hn1 c80
                     have e2 : nwS true (rS R p) = rS R p + nI 1 := by rw [hs2]; exact nS1 hs1 (by rw [← hs2]; exact c126)
                     rw [trd, e1, e2]
                     exact HE.rf)
                  | (have e1 : nwN true (rN R p) = rN R p + (-10) := by rw [hn2] at c80 ⊢; exact nT2 hn1 c80
                     have e2 : nwS true (rS R p) = rS R p + nI 0 := by rw [hs2]; exact nS2 hs1 (by rw [← hs2]; exact c126)
                     rw [trd, e1, e2]
                     exact HE.rf)
            · refine r_iconst (v := nI 1) dX5_treads_129 (by decide) ?_
              refine r_goto 134 dX5_treads_130 (by decide) ?_
              refine r_iadd dX5_treads_134 ?_
              refine r_iastN (h' := [_, _, _, _, _, _]) dX5_treads_135 rfl (by first | decide | omega) (Nat.le_of_ble_eq_true rfl) rfl ?_
              rw [encU2]
              refine r_aload_n dX5_treads_136 rfl ?_
              refine r_dup dX5_treads_137 rfl ?_
              refine r_getfield dX5_treads_138 gfX5_100 rfl rfl ?_
              refine r_iload_n dX5_treads_141 rfl ?_
              refine r_if_eqB 151 dX5_treads_142 (by decide) (fun c142 => ?_) (fun c142 => ?_)
              · exact absurd c142 (by decide)
              · refine r_iconst (v := nI 1) dX5_treads_145 (by decide) ?_
                refine r_iload_n dX5_treads_146 rfl ?_
                refine r_ishl dX5_treads_147 ?_
                refine r_goto 152 dX5_treads_148 (by decide) ?_
                refine r_ior dX5_treads_152 ?_
                refine r_putfield (fs' := [_, _, _, _, _, _, _, _, _, _, _, _, _, _, _, _, _]) (h' := [_, _, _, _, _, _]) dX5_treads_153 pfX5_100 rfl (Nat.le_of_ble_eq_true rfl) (fun _ => rfl) rfl rfl rfl rfl ?_
                refine r_vret dX5_treads_156 rfl ?_ ?_
                · rfl
                · first
                  | (have e1 : nwN true (rN R p) = nI 0 := by rw [hn2] at c80 ⊢; exact nT1 hn1 c80
                     have e2 : nwS true (rS R p) = rS R p + nI 1 := by rw [hs2]; exact nS1 hs1 (by rw [← hs2]; exact c126)
                     rw [trd, e1, e2]
                     exact HE.rf)
                  | (have e1 : nwN true (rN R p) = nI 0 := by rw [hn2] at c80 ⊢; exact nT1 hn1 c80
                     have e2 : nwS true (rS R p) = rS R p + nI 0 := by rw [hs2]; exact nS2 hs1 (by rw [← hs2]; exact c126)
                     rw [trd, e1, e2]
                     exact HE.rf)
                  | (have e1 : nwN true (rN R p) = rN R p + (-10) := by rw [hn2] at c80 ⊢; exact nT2 hn1 c80
                     have e2 : nwS true (rS R p) = rS R p + nI 1 := by rw [hs2]; exact nS1 hs1 (by rw [← hs2]; exact c126)
                     rw [trd, e1, e2]
                     exact HE.rf)
                  | (have e1 : nwN true (rN R p) = rN R p + (-10) := by rw [hn2] at c80 ⊢; exact nT2 hn1 c80
                     have e2 : nwS true (rS R p) = rS R p + nI 0 := by rw [hs2]; exact nS2 hs1 (by rw [← hs2]; exact c126)
                     rw [trd, e1, e2]
                     exact HE.rf)
    | false =>
      refine r_istore_n (lv' := [_, _, _, _, _]) dX5_treads_49 (by decide) rfl ?_
      refine r_aload_n dX5_treads_50 rfl ?_
      refine r_iload_n dX5_treads_51 rfl ?_
      refine r_iconst (v := nI 3) dX5_treads_52 (by decide) ?_
      refine r_v2r (M_its3 (by omega)) (Nat.le_of_ble_eq_true rfl) mrX5_its lkX5_54 rfl rfl rfl dX5_treads_53 (Nat.le_of_ble_eq_true rfl) ?_
      refine r_iload_n dX5_treads_56 rfl ?_
      refine r_if_eqB 65 dX5_treads_57 (by decide) (fun c57 => ?_) (fun c57 => ?_)
      · refine r_iconst (v := nI 1) dX5_treads_65 (by decide) ?_
        refine r_iadd dX5_treads_66 ?_
        refine r_istore (lv' := [_, _, _, _, _]) dX5_treads_67 (by decide) rfl ?_
        refine r_aload_n dX5_treads_69 rfl ?_
        refine r_getfield dX5_treads_70 gfX5_7 rfl rfl ?_
        refine r_iload_n dX5_treads_73 rfl ?_
        refine r_iconst (v := nI 3) dX5_treads_74 (by decide) ?_
        refine r_s2r M_spot (Nat.le_of_ble_eq_true rfl) mrX5_spot lkX5_42 dX5_treads_75 (Nat.le_of_ble_eq_true rfl) ?_
        refine r_iload dX5_treads_78 rfl ?_
        refine r_if_ge 87 dX5_treads_80 (by decide) (fun c80 => ?_) (fun c80 => ?_)
        · refine r_iload dX5_treads_87 rfl ?_
          refine r_bipush (v := nI 99) dX5_treads_89 (by decide) ?_
          refine r_icmp_le 99 dX5_treads_91 (by decide) (fun c91 => ?_) (fun c91 => ?_)
          · refine r_iload dX5_treads_99 rfl ?_
            refine r_iastN (h' := [_, _, _, _, _, _]) dX5_treads_101 rfl (by first | decide | omega) (Nat.le_of_ble_eq_true rfl) rfl ?_
            rw [encU3]
            refine r_aload_n dX5_treads_102 rfl ?_
            refine r_getfield dX5_treads_103 gfX5_7 rfl rfl ?_
            refine r_iload_n dX5_treads_106 rfl ?_
            refine r_iconst (v := nI 2) dX5_treads_107 (by decide) ?_
            refine r_s2r M_spot (Nat.le_of_ble_eq_true rfl) mrX5_spot lkX5_42 dX5_treads_108 (Nat.le_of_ble_eq_true rfl) ?_
            refine r_dup2 dX5_treads_111 rfl rfl ?_
            refine r_ialdN dX5_treads_112 rfl (by first | decide | omega) (Nat.le_of_ble_eq_true rfl) encS ?_
            refine r_iload_n dX5_treads_113 rfl ?_
            refine r_if_eqB 133 dX5_treads_114 (by decide) (fun c114 => ?_) (fun c114 => ?_)
            · refine r_iconst (v := nI 0) dX5_treads_133 (by decide) ?_
              refine r_iadd dX5_treads_134 ?_
              refine r_iastN (h' := [_, _, _, _, _, _]) dX5_treads_135 rfl (by first | decide | omega) (Nat.le_of_ble_eq_true rfl) rfl ?_
              rw [encU2]
              refine r_aload_n dX5_treads_136 rfl ?_
              refine r_dup dX5_treads_137 rfl ?_
              refine r_getfield dX5_treads_138 gfX5_100 rfl rfl ?_
              refine r_iload_n dX5_treads_141 rfl ?_
              refine r_if_eqB 151 dX5_treads_142 (by decide) (fun c142 => ?_) (fun c142 => ?_)
              · refine r_iconst (v := nI 0) dX5_treads_151 (by decide) ?_
                refine r_ior dX5_treads_152 ?_
                refine r_putfield (fs' := [_, _, _, _, _, _, _, _, _, _, _, _, _, _, _, _, _]) (h' := [_, _, _, _, _, _]) dX5_treads_153 pfX5_100 rfl (Nat.le_of_ble_eq_true rfl) (fun _ => rfl) rfl rfl rfl rfl ?_
                refine r_vret dX5_treads_156 rfl ?_ ?_
                · rfl
                · rw [or_0]
                  have e2 : nwS false (rS R p) = rS R p + nI 0 := nS3
                  first
                  | (have e1 : nwN false (rN R p) = rN R p + nI 1 := by rw [hn2] at c91 ⊢; exact nF2 c91
                     rw [trd, e1, e2]
                     exact HE.rf)
                  | (have e1 : nwN false (rN R p) = nI 99 := by rw [hn2] at c91 ⊢; exact nF3 c91
                     rw [trd, e1, e2]
                     exact HE.rf)
              · exact absurd c142 (by decide)
            · exact absurd c114 (by decide)
          · refine r_bipush (v := nI 99) dX5_treads_94 (by decide) ?_
            refine r_goto 101 dX5_treads_96 (by decide) ?_
            refine r_iastN (h' := [_, _, _, _, _, _]) dX5_treads_101 rfl (by first | decide | omega) (Nat.le_of_ble_eq_true rfl) rfl ?_
            rw [encU3]
            refine r_aload_n dX5_treads_102 rfl ?_
            refine r_getfield dX5_treads_103 gfX5_7 rfl rfl ?_
            refine r_iload_n dX5_treads_106 rfl ?_
            refine r_iconst (v := nI 2) dX5_treads_107 (by decide) ?_
            refine r_s2r M_spot (Nat.le_of_ble_eq_true rfl) mrX5_spot lkX5_42 dX5_treads_108 (Nat.le_of_ble_eq_true rfl) ?_
            refine r_dup2 dX5_treads_111 rfl rfl ?_
            refine r_ialdN dX5_treads_112 rfl (by first | decide | omega) (Nat.le_of_ble_eq_true rfl) encS ?_
            refine r_iload_n dX5_treads_113 rfl ?_
            refine r_if_eqB 133 dX5_treads_114 (by decide) (fun c114 => ?_) (fun c114 => ?_)
            · refine r_iconst (v := nI 0) dX5_treads_133 (by decide) ?_
              refine r_iadd dX5_treads_134 ?_
              refine r_iastN (h' := [_, _, _, _, _, _]) dX5_treads_135 rfl (by first | decide | omega) (Nat.le_of_ble_eq_true rfl) rfl ?_
              rw [encU2]
              refine r_aload_n dX5_treads_136 rfl ?_
              refine r_dup dX5_treads_137 rfl ?_
              refine r_getfield dX5_treads_138 gfX5_100 rfl rfl ?_
              refine r_iload_n dX5_treads_141 rfl ?_
              refine r_if_eqB 151 dX5_treads_142 (by decide) (fun c142 => ?_) (fun c142 => ?_)
              · refine r_iconst (v := nI 0) dX5_treads_151 (by decide) ?_
                refine r_ior dX5_treads_152 ?_
                refine r_putfield (fs' := [_, _, _, _, _, _, _, _, _, _, _, _, _, _, _, _, _]) (h' := [_, _, _, _, _, _]) dX5_treads_153 pfX5_100 rfl (Nat.le_of_ble_eq_true rfl) (fun _ => rfl) rfl rfl rfl rfl ?_
                refine r_vret dX5_treads_156 rfl ?_ ?_
                · rfl
                · rw [or_0]
                  have e2 : nwS false (rS R p) = rS R p + nI 0 := nS3
                  first
                  | (have e1 : nwN false (rN R p) = rN R p + nI 1 := by rw [hn2] at c91 ⊢; exact nF2 c91
                     rw [trd, e1, e2]
                     exact HE.rf)
                  | (have e1 : nwN false (rN R p) = nI 99 := by rw [hn2] at c91 ⊢; exact nF3 c91
                     rw [trd, e1, e2]
                     exact HE.rf)
              · exact absurd c142 (by decide)
            · exact absurd c114 (by decide)
        · exact absurd (by rw [hn2]; exact nF1 hn1) c80
      · exact absurd c57 (by decide)
  have J1 : ∀ v : Int32, v = bI (warnF (rK R p) (rH R p) (rN R p)) → Run X 5 mX5_treads 23 [some (.ref 0), some (.int (nI p)), none, none, none] [.int v] (hM (enc R) ks ot as fl kp tc g) none (hM (enc (trd F R p)) ks ot as (orF F fl p) kp tc g) := by
    intro v hv
    subst hv
    refine r_istore_n (lv' := [_, _, _, _, _]) dX5_treads_23 (by decide) rfl ?_
    refine r_aload_n dX5_treads_24 rfl ?_
    refine r_iload_n dX5_treads_25 rfl ?_
    refine r_v1r M_isAtRoot (Nat.le_of_ble_eq_true rfl) mrX5_isAtRoot lkX5_84 rfl rfl rfl dX5_treads_26 (Nat.le_of_ble_eq_true rfl) ?_
    refine r_if_eqB 48 dX5_treads_29 (by decide) (fun c29 => ?_) (fun c29 => ?_)
    · refine r_iconst (v := nI 0) dX5_treads_48 (by decide) ?_
      first | exact J _ _ (by rw [hF, c29]; rfl) | exact J _ _ (by rw [hF, c29, c37]; rfl) | exact J _ _ (by rw [hF, c29, c37, c41]; rfl)
    · refine r_aload_n dX5_treads_32 rfl ?_
      refine r_iload_n dX5_treads_33 rfl ?_
      refine r_v1r (M_isSeeing hn hp hb) (Nat.le_of_ble_eq_true rfl) mrX5_isSeeing lkX5_104 rfl rfl rfl dX5_treads_34 (Nat.le_of_ble_eq_true rfl) ?_
      refine r_if_neB 48 dX5_treads_37 (by decide) (fun c37 => ?_) (fun c37 => ?_)
      · refine r_iconst (v := nI 0) dX5_treads_48 (by decide) ?_
        first | exact J _ _ (by rw [hF, c29]; rfl) | exact J _ _ (by rw [hF, c29, c37]; rfl) | exact J _ _ (by rw [hF, c29, c37, c41]; rfl)
      · refine r_iload_n dX5_treads_40 rfl ?_
        refine r_if_neB 48 dX5_treads_41 (by decide) (fun c41 => ?_) (fun c41 => ?_)
        · refine r_iconst (v := nI 0) dX5_treads_48 (by decide) ?_
          first | exact J _ _ (by rw [hF, c29]; rfl) | exact J _ _ (by rw [hF, c29, c37]; rfl) | exact J _ _ (by rw [hF, c29, c37, c41]; rfl)
        · refine r_iconst (v := nI 1) dX5_treads_44 (by decide) ?_
          refine r_goto 49 dX5_treads_45 (by decide) ?_
          first | exact J _ _ (by rw [hF, c29]; rfl) | exact J _ _ (by rw [hF, c29, c37]; rfl) | exact J _ _ (by rw [hF, c29, c37, c41]; rfl)
  refine r_aload_n dX5_treads_0 rfl ?_
  refine r_iload_n dX5_treads_1 rfl ?_
  refine r_iconst (v := nI 1) dX5_treads_2 (by decide) ?_
  refine r_v2r (M_its1 (by omega)) (Nat.le_of_ble_eq_true rfl) mrX5_its lkX5_54 rfl rfl rfl dX5_treads_3 (Nat.le_of_ble_eq_true rfl) ?_
  refine r_iconst (v := nI 1) dX5_treads_6 (by decide) ?_
  refine r_icmp_ne 22 dX5_treads_7 (by decide) (fun c7 => ?_) (fun c7 => ?_)
  · refine r_iconst (v := nI 0) dX5_treads_22 (by decide) ?_
    first | exact J1 _ (by rw [warnF, decide_eq_false c7]; rfl) | exact J1 _ (by rw [warnF, decide_eq_true c7, c15]; rfl)
  · refine r_aload_n dX5_treads_10 rfl ?_
    refine r_iload_n dX5_treads_11 rfl ?_
    refine r_v1r (M_isHeeding hp) (Nat.le_of_ble_eq_true rfl) mrX5_isHeeding lkX5_114 rfl rfl rfl dX5_treads_12 (Nat.le_of_ble_eq_true rfl) ?_
    refine r_if_eqB 22 dX5_treads_15 (by decide) (fun c15 => ?_) (fun c15 => ?_)
    · refine r_iconst (v := nI 0) dX5_treads_22 (by decide) ?_
      first | exact J1 _ (by rw [warnF, decide_eq_false c7]; rfl) | exact J1 _ (by rw [warnF, decide_eq_true c7, c15]; rfl)
    · refine r_iconst (v := nI 1) dX5_treads_18 (by decide) ?_
      refine r_goto 23 dX5_treads_19 (by decide) ?_
      first | exact J1 _ (by rw [warnF, decide_eq_false c7]; rfl) | exact J1 _ (by rw [warnF, decide_eq_true c7, c15]; rfl)

