/-! the reference: its calls on the core, one by one as the class's -/
def qM (c : CS) (g : GO) (h : AH) : Prop := ∃ (ks ot as : Nat → Int32) (fl : Int32), (c.2.2.1 = true → ∀ i, i < 37 → ks i = enc c.2.1 i) ∧ HE h (hM (enc c.1) ks ot as fl c.2.2.1 c.2.2.2 g)
theorem qM_len {c : CS} {g : GO} {h' : AH} (q : qM c g h') : h'.length = 6 := by
  obtain ⟨ks, ot, as, fl, -, q⟩ := q
  exact q.len.symm
def sC (R : RS) (m : Nat) : RS := ((rT R, rR R, rL R, rB R, m), R.2)
theorem encA1 {R : RS} {m : Nat} : upd (enc R) 1 (nI m) = enc (sC R m) := by
  refine enc_ext rfl rfl rfl rfl rfl (fun p w hw => ?_)
  rw [upd_ne (by omega), enc_5 hw, enc_5 hw]
  rfl
theorem full_t {n : Nat} (h : nI n = nI 8) : decide (nI 8 ≤ nI n) = true := by rw [h]; decide
theorem full_f {n : Nat} (hn : n ≤ 8) (h : ¬ nI n = nI 8) : decide (nI 8 ≤ nI n) = false := decide_eq_false (fun z => h (by rw [show n = 8 from Nat.le_antisymm hn ((nI_leI (by decide) (by omega)).mp z)]))
theorem N_roots {R : RS} {ks ot as : Nat → Int32} {fl : Int32} {kp : Bool} {tc : Nat → Int32} {g : GO} {K : RS} {x : Int32}  (hk : kp = true → ∀ i, i < 37 → ks i = enc K i) : SpQ 11 mX5_roots [.ref 0, .int x] (hM (enc R) ks ot as fl kp tc g) (some (.int (o_roots R K kp tc x).1)) (qM (o_roots R K kp tc x).2 g) := by
  refine SpQ.of [some (.ref 0), some (.int x)] mrX5_roots.1 (fun _ q => qM_len q) (Nat.le_of_ble_eq_true rfl) rfl (fun X => ?_)
  refine r_iload_n dX5_roots_0 rfl ?_
  refine r_i2l dX5_roots_1 ?_
  refine r_lconst (v := 0) dX5_roots_2 (by decide) ?_
  refine r_ldc2 kX5_61 dX5_roots_3 ?_
  refine r_s3r (M_in (lo := nI 0) (hi := 1073741823) (by decide) (by decide)) (Nat.le_of_ble_eq_true rfl) mrX5_in lkX5_46 dX5_roots_6 (Nat.le_of_ble_eq_true rfl) ?_
  refine r_if_eqB 21 dX5_roots_9 (by decide) (fun c9 => ?_) (fun c9 => ?_)
  · refine r_aload_n dX5_roots_21 rfl ?_
    refine r_ldc kX5_41 dX5_roots_22 ?_
    refine r_v1r (M_finds 0 (by decide) (by decide)) (Nat.le_of_ble_eq_true rfl) mrX5_finds lkX5_66 rfl rfl rfl dX5_roots_24 (Nat.le_of_ble_eq_true rfl) ?_
    refine r_iret dX5_roots_27 rfl rfl ?_ ?_
    · first | (simp only [o_roots, c9, if_true, if_false, eq_self, decide_true, decide_false, not_true, not_false_eq_true, Bool.true_and, Bool.and_true, Bool.false_and, Bool.and_false, Bool.true_or, Bool.or_true, Bool.false_or, Bool.or_false, Bool.not_true, Bool.not_false]; done) | (simp only [o_roots, c9, if_true, if_false, eq_self, decide_true, decide_false, not_true, not_false_eq_true, Bool.true_and, Bool.and_true, Bool.false_and, Bool.and_false, Bool.true_or, Bool.or_true, Bool.false_or, Bool.or_false, Bool.not_true, Bool.not_false]; rfl)
    · simp only [o_roots, c9, if_true, if_false, eq_self, decide_true, decide_false, not_true, not_false_eq_true, Bool.true_and, Bool.and_true, Bool.false_and, Bool.and_false, Bool.true_or, Bool.or_true, Bool.false_or, Bool.or_false, Bool.not_true, Bool.not_false]
      exact ⟨ks, ot, as, fl, hk, HE.rf⟩
  · refine r_aload_n dX5_roots_12 rfl ?_
    refine r_iconst (v := nI 2) dX5_roots_13 (by decide) ?_
    refine r_iload_n dX5_roots_14 rfl ?_
    refine r_v2r (M_becomes (k := 2) (by decide)) (Nat.le_of_ble_eq_true rfl) mrX5_becomes lkX5_63 rfl rfl rfl dX5_roots_15 (Nat.le_of_ble_eq_true rfl) ?_
    rw [encA2]
    refine r_goto 27 dX5_roots_18 (by decide) ?_
    refine r_iret dX5_roots_27 rfl rfl ?_ ?_
    · first | (simp only [o_roots, c9, if_true, if_false, eq_self, decide_true, decide_false, not_true, not_false_eq_true, Bool.true_and, Bool.and_true, Bool.false_and, Bool.and_false, Bool.true_or, Bool.or_true, Bool.false_or, Bool.or_false, Bool.not_true, Bool.not_false]; done) | (simp only [o_roots, c9, if_true, if_false, eq_self, decide_true, decide_false, not_true, not_false_eq_true, Bool.true_and, Bool.and_true, Bool.false_and, Bool.and_false, Bool.true_or, Bool.or_true, Bool.false_or, Bool.or_false, Bool.not_true, Bool.not_false]; rfl)
    · simp only [o_roots, c9, if_true, if_false, eq_self, decide_true, decide_false, not_true, not_false_eq_true, Bool.true_and, Bool.and_true, Bool.false_and, Bool.and_false, Bool.true_or, Bool.or_true, Bool.false_or, Bool.or_false, Bool.not_true, Bool.not_false]
      exact ⟨ks, ot, as, fl, hk, HE.rf⟩
theorem N_lantern {R : RS} {ks ot as : Nat → Int32} {fl : Int32} {kp : Bool} {tc : Nat → Int32} {g : GO} {K : RS} {x : Int32} (hw : wfR R) (hk : kp = true → ∀ i, i < 37 → ks i = enc K i) : SpQ 11 mX5_lantern [.ref 0, .int x] (hM (enc R) ks ot as fl kp tc g) (some (.int (o_lantern R K kp tc x).1)) (qM (o_lantern R K kp tc x).2 g) := by
  refine SpQ.of [some (.ref 0), some (.int x)] mrX5_lantern.1 (fun _ q => qM_len q) (Nat.le_of_ble_eq_true rfl) rfl (fun X => ?_)
  refine r_iload_n dX5_lantern_0 rfl ?_
  refine r_iconst (v := (-1)) dX5_lantern_1 (by decide) ?_
  refine r_icmp_eq 13 dX5_lantern_2 (by decide) (fun c2 => ?_) (fun c2 => ?_)
  · refine r_aload_n dX5_lantern_13 rfl ?_
    refine r_iconst (v := nI 3) dX5_lantern_14 (by decide) ?_
    refine r_iload_n dX5_lantern_15 rfl ?_
    refine r_v2r (M_becomes (k := 3) (by decide)) (Nat.le_of_ble_eq_true rfl) mrX5_becomes lkX5_63 rfl rfl rfl dX5_lantern_16 (Nat.le_of_ble_eq_true rfl) ?_
    rw [encA3]
    refine r_goto 28 dX5_lantern_19 (by decide) ?_
    refine r_iret dX5_lantern_28 rfl rfl ?_ ?_
    · first | (simp only [o_lantern, c2, if_true, if_false, eq_self, decide_true, decide_false, not_true, not_false_eq_true, Bool.true_and, Bool.and_true, Bool.false_and, Bool.and_false, Bool.true_or, Bool.or_true, Bool.false_or, Bool.or_false, Bool.not_true, Bool.not_false]; done) | (simp only [o_lantern, c2, if_true, if_false, eq_self, decide_true, decide_false, not_true, not_false_eq_true, Bool.true_and, Bool.and_true, Bool.false_and, Bool.and_false, Bool.true_or, Bool.or_true, Bool.false_or, Bool.or_false, Bool.not_true, Bool.not_false]; rfl)
    · simp only [o_lantern, c2, if_true, if_false, eq_self, decide_true, decide_false, not_true, not_false_eq_true, Bool.true_and, Bool.and_true, Bool.false_and, Bool.and_false, Bool.true_or, Bool.or_true, Bool.false_or, Bool.or_false, Bool.not_true, Bool.not_false]
      exact ⟨ks, ot, as, fl, hk, HE.rf⟩
  · refine r_aload_n dX5_lantern_5 rfl ?_
    refine r_iload_n dX5_lantern_6 rfl ?_
    refine r_v1r (M_isPlace hw.1) (Nat.le_of_ble_eq_true rfl) mrX5_isPlace lkX5_69 rfl rfl rfl dX5_lantern_7 (Nat.le_of_ble_eq_true rfl) ?_
    refine r_if_eqB 22 dX5_lantern_10 (by decide) (fun c10 => ?_) (fun c10 => ?_)
    · refine r_aload_n dX5_lantern_22 rfl ?_
      refine r_ldc kX5_41 dX5_lantern_23 ?_
      refine r_v1r (M_finds 0 (by decide) (by decide)) (Nat.le_of_ble_eq_true rfl) mrX5_finds lkX5_66 rfl rfl rfl dX5_lantern_25 (Nat.le_of_ble_eq_true rfl) ?_
      refine r_iret dX5_lantern_28 rfl rfl ?_ ?_
      · first | (simp only [o_lantern, c2, c10, if_true, if_false, eq_self, decide_true, decide_false, not_true, not_false_eq_true, Bool.true_and, Bool.and_true, Bool.false_and, Bool.and_false, Bool.true_or, Bool.or_true, Bool.false_or, Bool.or_false, Bool.not_true, Bool.not_false]; done) | (simp only [o_lantern, c2, c10, if_true, if_false, eq_self, decide_true, decide_false, not_true, not_false_eq_true, Bool.true_and, Bool.and_true, Bool.false_and, Bool.and_false, Bool.true_or, Bool.or_true, Bool.false_or, Bool.or_false, Bool.not_true, Bool.not_false]; rfl)
      · simp only [o_lantern, c2, c10, if_true, if_false, eq_self, decide_true, decide_false, not_true, not_false_eq_true, Bool.true_and, Bool.and_true, Bool.false_and, Bool.and_false, Bool.true_or, Bool.or_true, Bool.false_or, Bool.or_false, Bool.not_true, Bool.not_false]
        exact ⟨ks, ot, as, fl, hk, HE.rf⟩
    · refine r_aload_n dX5_lantern_13 rfl ?_
      refine r_iconst (v := nI 3) dX5_lantern_14 (by decide) ?_
      refine r_iload_n dX5_lantern_15 rfl ?_
      refine r_v2r (M_becomes (k := 3) (by decide)) (Nat.le_of_ble_eq_true rfl) mrX5_becomes lkX5_63 rfl rfl rfl dX5_lantern_16 (Nat.le_of_ble_eq_true rfl) ?_
      rw [encA3]
      refine r_goto 28 dX5_lantern_19 (by decide) ?_
      refine r_iret dX5_lantern_28 rfl rfl ?_ ?_
      · first | (simp only [o_lantern, c2, c10, if_true, if_false, eq_self, decide_true, decide_false, not_true, not_false_eq_true, Bool.true_and, Bool.and_true, Bool.false_and, Bool.and_false, Bool.true_or, Bool.or_true, Bool.false_or, Bool.or_false, Bool.not_true, Bool.not_false]; done) | (simp only [o_lantern, c2, c10, if_true, if_false, eq_self, decide_true, decide_false, not_true, not_false_eq_true, Bool.true_and, Bool.and_true, Bool.false_and, Bool.and_false, Bool.true_or, Bool.or_true, Bool.false_or, Bool.or_false, Bool.not_true, Bool.not_false]; rfl)
      · simp only [o_lantern, c2, c10, if_true, if_false, eq_self, decide_true, decide_false, not_true, not_false_eq_true, Bool.true_and, Bool.and_true, Bool.false_and, Bool.and_false, Bool.true_or, Bool.or_true, Bool.false_or, Bool.or_false, Bool.not_true, Bool.not_false]
        exact ⟨ks, ot, as, fl, hk, HE.rf⟩
theorem N_bright {R : RS} {ks ot as : Nat → Int32} {fl : Int32} {kp : Bool} {tc : Nat → Int32} {g : GO} {K : RS} {x : Int32}  (hk : kp = true → ∀ i, i < 37 → ks i = enc K i) : SpQ 11 mX5_bright [.ref 0, .int x] (hM (enc R) ks ot as fl kp tc g) (some (.int (o_bright R K kp tc x).1)) (qM (o_bright R K kp tc x).2 g) := by
  refine SpQ.of [some (.ref 0), some (.int x)] mrX5_bright.1 (fun _ q => qM_len q) (Nat.le_of_ble_eq_true rfl) rfl (fun X => ?_)
  refine r_iload_n dX5_bright_0 rfl ?_
  refine r_i2l dX5_bright_1 ?_
  refine r_lconst (v := 0) dX5_bright_2 (by decide) ?_
  refine r_ldc2 kX5_73 dX5_bright_3 ?_
  refine r_s3r (M_in (lo := nI 0) (hi := nI 9) (by decide) (by decide)) (Nat.le_of_ble_eq_true rfl) mrX5_in lkX5_46 dX5_bright_6 (Nat.le_of_ble_eq_true rfl) ?_
  refine r_if_eqB 21 dX5_bright_9 (by decide) (fun c9 => ?_) (fun c9 => ?_)
  · refine r_aload_n dX5_bright_21 rfl ?_
    refine r_ldc kX5_41 dX5_bright_22 ?_
    refine r_v1r (M_finds 0 (by decide) (by decide)) (Nat.le_of_ble_eq_true rfl) mrX5_finds lkX5_66 rfl rfl rfl dX5_bright_24 (Nat.le_of_ble_eq_true rfl) ?_
    refine r_iret dX5_bright_27 rfl rfl ?_ ?_
    · first | (simp only [o_bright, c9, if_true, if_false, eq_self, decide_true, decide_false, not_true, not_false_eq_true, Bool.true_and, Bool.and_true, Bool.false_and, Bool.and_false, Bool.true_or, Bool.or_true, Bool.false_or, Bool.or_false, Bool.not_true, Bool.not_false]; done) | (simp only [o_bright, c9, if_true, if_false, eq_self, decide_true, decide_false, not_true, not_false_eq_true, Bool.true_and, Bool.and_true, Bool.false_and, Bool.and_false, Bool.true_or, Bool.or_true, Bool.false_or, Bool.or_false, Bool.not_true, Bool.not_false]; rfl)
    · simp only [o_bright, c9, if_true, if_false, eq_self, decide_true, decide_false, not_true, not_false_eq_true, Bool.true_and, Bool.and_true, Bool.false_and, Bool.and_false, Bool.true_or, Bool.or_true, Bool.false_or, Bool.or_false, Bool.not_true, Bool.not_false]
      exact ⟨ks, ot, as, fl, hk, HE.rf⟩
  · refine r_aload_n dX5_bright_12 rfl ?_
    refine r_iconst (v := nI 4) dX5_bright_13 (by decide) ?_
    refine r_iload_n dX5_bright_14 rfl ?_
    refine r_v2r (M_becomes (k := 4) (by decide)) (Nat.le_of_ble_eq_true rfl) mrX5_becomes lkX5_63 rfl rfl rfl dX5_bright_15 (Nat.le_of_ble_eq_true rfl) ?_
    rw [encA4]
    refine r_goto 27 dX5_bright_18 (by decide) ?_
    refine r_iret dX5_bright_27 rfl rfl ?_ ?_
    · first | (simp only [o_bright, c9, if_true, if_false, eq_self, decide_true, decide_false, not_true, not_false_eq_true, Bool.true_and, Bool.and_true, Bool.false_and, Bool.and_false, Bool.true_or, Bool.or_true, Bool.false_or, Bool.or_false, Bool.not_true, Bool.not_false]; done) | (simp only [o_bright, c9, if_true, if_false, eq_self, decide_true, decide_false, not_true, not_false_eq_true, Bool.true_and, Bool.and_true, Bool.false_and, Bool.and_false, Bool.true_or, Bool.or_true, Bool.false_or, Bool.or_false, Bool.not_true, Bool.not_false]; rfl)
    · simp only [o_bright, c9, if_true, if_false, eq_self, decide_true, decide_false, not_true, not_false_eq_true, Bool.true_and, Bool.and_true, Bool.false_and, Bool.and_false, Bool.true_or, Bool.or_true, Bool.false_or, Bool.or_false, Bool.not_true, Bool.not_false]
      exact ⟨ks, ot, as, fl, hk, HE.rf⟩
theorem N_now {R : RS} {ks ot as : Nat → Int32} {fl : Int32} {kp : Bool} {tc : Nat → Int32} {g : GO} {K : RS} {w : Int32} (hw : wfR R) (hk : kp = true → ∀ i, i < 37 → ks i = enc K i) : SpQ 11 mX5_now [.ref 0, .int w] (hM (enc R) ks ot as fl kp tc g) (some (.int (o_now R K kp tc w).1)) (qM (o_now R K kp tc w).2 g) := by
  refine SpQ.of [some (.ref 0), some (.int w)] mrX5_now.1 (fun _ q => qM_len q) (Nat.le_of_ble_eq_true rfl) rfl (fun X => ?_)
  refine r_iload_n dX5_now_0 rfl ?_
  refine r_tsw 97 dX5_now_1 (by decide) (fun v1 h1 g1 e1 => ?_) (fun e1 => ?_)
  · rcases (show v1 = 0 ∨ v1 = 1 ∨ v1 = 2 ∨ v1 = 3 ∨ v1 = 4 ∨ v1 = 5 ∨ v1 = 6 ∨ v1 = 7 by omega) with rfl | rfl | rfl | rfl | rfl | rfl | rfl | rfl
    · refine ⟨47, 48, by decide, by decide, ?_⟩
      have c1 := toI_eq 0 e1 (by decide)
      refine r_aload_n dX5_now_48 rfl ?_
      refine r_getfield dX5_now_49 gfX5_7 rfl rfl ?_
      refine r_iconst (v := nI 0) dX5_now_52 (by decide) ?_
      refine r_ialdN dX5_now_53 rfl (by first | decide | omega) (Nat.le_of_ble_eq_true rfl) enc0 ?_
      refine r_iret dX5_now_54 rfl rfl ?_ ?_
      · subst c1; rfl
      · subst c1
        exact ⟨ks, ot, as, fl, hk, HE.rf⟩
    · refine ⟨54, 55, by decide, by decide, ?_⟩
      have c1 := toI_eq 1 e1 (by decide)
      refine r_aload_n dX5_now_55 rfl ?_
      refine r_getfield dX5_now_56 gfX5_7 rfl rfl ?_
      refine r_iconst (v := nI 2) dX5_now_59 (by decide) ?_
      refine r_ialdN dX5_now_60 rfl (by first | decide | omega) (Nat.le_of_ble_eq_true rfl) enc2 ?_
      refine r_iret dX5_now_61 rfl rfl ?_ ?_
      · subst c1; rfl
      · subst c1
        exact ⟨ks, ot, as, fl, hk, HE.rf⟩
    · refine ⟨61, 62, by decide, by decide, ?_⟩
      have c1 := toI_eq 2 e1 (by decide)
      refine r_aload_n dX5_now_62 rfl ?_
      refine r_getfield dX5_now_63 gfX5_7 rfl rfl ?_
      refine r_iconst (v := nI 3) dX5_now_66 (by decide) ?_
      refine r_ialdN dX5_now_67 rfl (by first | decide | omega) (Nat.le_of_ble_eq_true rfl) enc3 ?_
      refine r_iret dX5_now_68 rfl rfl ?_ ?_
      · subst c1; rfl
      · subst c1
        exact ⟨ks, ot, as, fl, hk, HE.rf⟩
    · refine ⟨68, 69, by decide, by decide, ?_⟩
      have c1 := toI_eq 3 e1 (by decide)
      refine r_aload_n dX5_now_69 rfl ?_
      refine r_getfield dX5_now_70 gfX5_7 rfl rfl ?_
      refine r_iconst (v := nI 4) dX5_now_73 (by decide) ?_
      refine r_ialdN dX5_now_74 rfl (by first | decide | omega) (Nat.le_of_ble_eq_true rfl) enc4 ?_
      refine r_iret dX5_now_75 rfl rfl ?_ ?_
      · subst c1; rfl
      · subst c1
        exact ⟨ks, ot, as, fl, hk, HE.rf⟩
    · refine ⟨75, 76, by decide, by decide, ?_⟩
      have c1 := toI_eq 4 e1 (by decide)
      refine r_aload_n dX5_now_76 rfl ?_
      refine r_v0r (M_litOnes hw.1 hw.2.1) (Nat.le_of_ble_eq_true rfl) mrX5_litOnes lkX5_87 rfl rfl rfl dX5_now_77 (Nat.le_of_ble_eq_true rfl) ?_
      refine r_iret dX5_now_80 rfl rfl ?_ ?_
      · subst c1; rw [lit_set]; rfl
      · subst c1
        exact ⟨ks, ot, as, fl, hk, HE.rf⟩
    · refine ⟨80, 81, by decide, by decide, ?_⟩
      have c1 := toI_eq 5 e1 (by decide)
      refine r_aload_n dX5_now_81 rfl ?_
      refine r_v0r (M_rootedOnes hw.1) (Nat.le_of_ble_eq_true rfl) mrX5_rootedOnes lkX5_91 rfl rfl rfl dX5_now_82 (Nat.le_of_ble_eq_true rfl) ?_
      refine r_iret dX5_now_85 rfl rfl ?_ ?_
      · subst c1; rfl
      · subst c1
        exact ⟨ks, ot, as, fl, hk, HE.rf⟩
    · refine ⟨85, 86, by decide, by decide, ?_⟩
      have c1 := toI_eq 6 e1 (by decide)
      refine r_aload_n dX5_now_86 rfl ?_
      refine r_v0r (M_heardOnes hw.1) (Nat.le_of_ble_eq_true rfl) mrX5_heardOnes lkX5_94 rfl rfl rfl dX5_now_87 (Nat.le_of_ble_eq_true rfl) ?_
      refine r_iret dX5_now_90 rfl rfl ?_ ?_
      · subst c1; rfl
      · subst c1
        exact ⟨ks, ot, as, fl, hk, HE.rf⟩
    · refine ⟨90, 91, by decide, by decide, ?_⟩
      have c1 := toI_eq 7 e1 (by decide)
      refine r_aload_n dX5_now_91 rfl ?_
      refine r_iconst (v := nI 2) dX5_now_92 (by decide) ?_
      refine r_v1r (M_together2 hw.1) (Nat.le_of_ble_eq_true rfl) mrX5_together lkX5_97 rfl rfl rfl dX5_now_93 (Nat.le_of_ble_eq_true rfl) ?_
      refine r_iret dX5_now_96 rfl rfl ?_ ?_
      · subst c1; rfl
      · subst c1
        exact ⟨ks, ot, as, fl, hk, HE.rf⟩
  · have c1_0 := toI_ne 0 e1 (by decide)
    have c1_1 := toI_ne 1 e1 (by decide)
    have c1_2 := toI_ne 2 e1 (by decide)
    have c1_3 := toI_ne 3 e1 (by decide)
    have c1_4 := toI_ne 4 e1 (by decide)
    have c1_5 := toI_ne 5 e1 (by decide)
    have c1_6 := toI_ne 6 e1 (by decide)
    have c1_7 := toI_ne 7 e1 (by decide)
    refine r_aload_n dX5_now_97 rfl ?_
    refine r_ldc kX5_41 dX5_now_98 ?_
    refine r_v1r (M_finds 0 (by decide) (by decide)) (Nat.le_of_ble_eq_true rfl) mrX5_finds lkX5_66 rfl rfl rfl dX5_now_100 (Nat.le_of_ble_eq_true rfl) ?_
    refine r_iret dX5_now_103 rfl rfl ?_ ?_
    · simp only [o_now, c1_0, c1_1, c1_2, c1_3, c1_4, c1_5, c1_6, c1_7, if_true, if_false, eq_self, decide_true, decide_false, not_true, not_false_eq_true, Bool.true_and, Bool.and_true, Bool.false_and, Bool.and_false, Bool.true_or, Bool.or_true, Bool.false_or, Bool.or_false, Bool.not_true, Bool.not_false]
      rfl
    · simp only [o_now, c1_0, c1_1, c1_2, c1_3, c1_4, c1_5, c1_6, c1_7, if_true, if_false, eq_self, decide_true, decide_false, not_true, not_false_eq_true, Bool.true_and, Bool.and_true, Bool.false_and, Bool.and_false, Bool.true_or, Bool.or_true, Bool.false_or, Bool.or_false, Bool.not_true, Bool.not_false]
      exact ⟨ks, ot, as, fl, hk, HE.rf⟩
theorem M_adds {R : RS} {ks ot as : Nat → Int32} {fl : Int32} {kp : Bool} {tc : Nat → Int32} {g : GO} {k : Int32} (hn : cnt R < 8) : Sp 1 mX5_adds [.ref 0, .int k] (hM (enc R) ks ot as fl kp tc g) (some (.int (nI (cnt R)))) (hM (enc (addR R k)) ks ot as fl kp tc g) := by
  refine Sp.of [some (.ref 0), some (.int k), none] mrX5_adds.1 rfl (Nat.le_of_ble_eq_true rfl) rfl (fun X => ?_)
  refine r_aload_n dX5_adds_0 rfl ?_
  refine r_getfield dX5_adds_1 gfX5_7 rfl rfl ?_
  refine r_iconst (v := nI 1) dX5_adds_4 (by decide) ?_
  refine r_ialdN dX5_adds_5 rfl (by first | decide | omega) (Nat.le_of_ble_eq_true rfl) enc1 ?_
  refine r_istore_n (lv' := [_, _, _]) dX5_adds_6 (by decide) rfl ?_
  refine r_aload_n dX5_adds_7 rfl ?_
  refine r_getfield dX5_adds_8 gfX5_7 rfl rfl ?_
  refine r_iconst (v := nI 1) dX5_adds_11 (by decide) ?_
  refine r_dup2 dX5_adds_12 rfl rfl ?_
  refine r_ialdN dX5_adds_13 rfl (by first | decide | omega) (Nat.le_of_ble_eq_true rfl) enc1 ?_
  refine r_iconst (v := nI 1) dX5_adds_14 (by decide) ?_
  refine r_iadd dX5_adds_15 ?_
  refine r_iastN (h' := [_, _, _, _, _, _]) dX5_adds_16 rfl (by first | decide | omega) (Nat.le_of_ble_eq_true rfl) rfl ?_
  rw [nI_add, encA1]
  refine r_aload_n dX5_adds_17 rfl ?_
  refine r_getfield dX5_adds_18 gfX5_7 rfl rfl ?_
  refine r_iload_n dX5_adds_21 rfl ?_
  refine r_iconst (v := nI 0) dX5_adds_22 (by decide) ?_
  refine r_s2r M_spot (Nat.le_of_ble_eq_true rfl) mrX5_spot lkX5_42 dX5_adds_23 (Nat.le_of_ble_eq_true rfl) ?_
  refine r_iload_n dX5_adds_26 rfl ?_
  refine r_iastN (h' := [_, _, _, _, _, _]) dX5_adds_27 rfl (by first | decide | omega) (Nat.le_of_ble_eq_true rfl) rfl ?_
  try simp only [encU0, encU1, encU2, encU3, encA0, encA2, encA3, encA4]
  refine r_aload_n dX5_adds_28 rfl ?_
  refine r_getfield dX5_adds_29 gfX5_7 rfl rfl ?_
  refine r_iload_n dX5_adds_32 rfl ?_
  refine r_iconst (v := nI 1) dX5_adds_33 (by decide) ?_
  refine r_s2r M_spot (Nat.le_of_ble_eq_true rfl) mrX5_spot lkX5_42 dX5_adds_34 (Nat.le_of_ble_eq_true rfl) ?_
  refine r_iconst (v := nI 0) dX5_adds_37 (by decide) ?_
  refine r_iastN (h' := [_, _, _, _, _, _]) dX5_adds_38 rfl (by first | decide | omega) (Nat.le_of_ble_eq_true rfl) rfl ?_
  try simp only [encU0, encU1, encU2, encU3, encA0, encA2, encA3, encA4]
  refine r_aload_n dX5_adds_39 rfl ?_
  refine r_getfield dX5_adds_40 gfX5_7 rfl rfl ?_
  refine r_iload_n dX5_adds_43 rfl ?_
  refine r_iconst (v := nI 2) dX5_adds_44 (by decide) ?_
  refine r_s2r M_spot (Nat.le_of_ble_eq_true rfl) mrX5_spot lkX5_42 dX5_adds_45 (Nat.le_of_ble_eq_true rfl) ?_
  refine r_iconst (v := nI 0) dX5_adds_48 (by decide) ?_
  refine r_iastN (h' := [_, _, _, _, _, _]) dX5_adds_49 rfl (by first | decide | omega) (Nat.le_of_ble_eq_true rfl) rfl ?_
  try simp only [encU0, encU1, encU2, encU3, encA0, encA2, encA3, encA4]
  refine r_aload_n dX5_adds_50 rfl ?_
  refine r_getfield dX5_adds_51 gfX5_7 rfl rfl ?_
  refine r_iload_n dX5_adds_54 rfl ?_
  refine r_iconst (v := nI 3) dX5_adds_55 (by decide) ?_
  refine r_s2r M_spot (Nat.le_of_ble_eq_true rfl) mrX5_spot lkX5_42 dX5_adds_56 (Nat.le_of_ble_eq_true rfl) ?_
  refine r_bipush (v := nI 50) dX5_adds_59 (by decide) ?_
  refine r_iastN (h' := [_, _, _, _, _, _]) dX5_adds_61 rfl (by first | decide | omega) (Nat.le_of_ble_eq_true rfl) rfl ?_
  try simp only [encU0, encU1, encU2, encU3, encA0, encA2, encA3, encA4]
  refine r_iload_n dX5_adds_62 rfl ?_
  refine r_iret dX5_adds_63 rfl rfl ?_ ?_
  · rfl
  · exact HE.rf
theorem N_walker {R : RS} {ks ot as : Nat → Int32} {fl : Int32} {kp : Bool} {tc : Nat → Int32} {g : GO} {K : RS} {k : Int32} (hw : wfR R) (hk : kp = true → ∀ i, i < 37 → ks i = enc K i) : SpQ 11 mX5_walker [.ref 0, .int k] (hM (enc R) ks ot as fl kp tc g) (some (.int (o_walker R K kp tc k).1)) (qM (o_walker R K kp tc k).2 g) := by
  refine SpQ.of [some (.ref 0), some (.int k)] mrX5_walker.1 (fun _ q => qM_len q) (Nat.le_of_ble_eq_true rfl) rfl (fun X => ?_)
  refine r_iload_n dX5_walker_0 rfl ?_
  refine r_s1r M_isKind (Nat.le_of_ble_eq_true rfl) mrX5_isKind lkX5_107 dX5_walker_1 (Nat.le_of_ble_eq_true rfl) ?_
  refine r_if_neB 14 dX5_walker_4 (by decide) (fun c4 => ?_) (fun c4 => ?_)
  · refine r_aload_n dX5_walker_14 rfl ?_
    refine r_getfield dX5_walker_15 gfX5_7 rfl rfl ?_
    refine r_iconst (v := nI 1) dX5_walker_18 (by decide) ?_
    refine r_ialdN dX5_walker_19 rfl (by first | decide | omega) (Nat.le_of_ble_eq_true rfl) enc1 ?_
    refine r_bipush (v := nI 8) dX5_walker_20 (by decide) ?_
    refine r_icmp_ne 34 dX5_walker_22 (by decide) (fun c22 => ?_) (fun c22 => ?_)
    · refine r_aload_n dX5_walker_34 rfl ?_
      refine r_iload_n dX5_walker_35 rfl ?_
      refine r_v1r (M_adds (by have := hw.1; rcases Nat.lt_or_ge (cnt R) 8 with q | q; exact q; exact absurd (by rw [show cnt R = 8 by omega]) c22)) (Nat.le_of_ble_eq_true rfl) mrX5_adds lkX5_111 rfl rfl rfl dX5_walker_36 (Nat.le_of_ble_eq_true rfl) ?_
      refine r_iret dX5_walker_39 rfl rfl ?_ ?_
      · first | (simp only [o_walker, c4, full_t c22]; done) | (simp only [o_walker, c4, full_t c22]; rfl) | (simp only [o_walker, c4, full_f hw.1 c22]; done)
      · first | (simp only [o_walker, c4, full_t c22]; exact ⟨ks, ot, as, fl, hk, HE.rf⟩) | (simp only [o_walker, c4, full_f hw.1 c22]; exact ⟨ks, ot, as, fl, hk, HE.rf⟩)
    · refine r_aload_n dX5_walker_25 rfl ?_
      refine r_ldc kX5_110 dX5_walker_26 ?_
      refine r_v1r (M_finds 1 (by decide) (by decide)) (Nat.le_of_ble_eq_true rfl) mrX5_finds lkX5_66 rfl rfl rfl dX5_walker_28 (Nat.le_of_ble_eq_true rfl) ?_
      refine r_goto 39 dX5_walker_31 (by decide) ?_
      refine r_iret dX5_walker_39 rfl rfl ?_ ?_
      · first | (simp only [o_walker, c4, full_t c22]; done) | (simp only [o_walker, c4, full_t c22]; rfl) | (simp only [o_walker, c4, full_f hw.1 c22]; done)
      · first | (simp only [o_walker, c4, full_t c22]; exact ⟨ks, ot, as, fl, hk, HE.rf⟩) | (simp only [o_walker, c4, full_f hw.1 c22]; exact ⟨ks, ot, as, fl, hk, HE.rf⟩)
  · refine r_aload_n dX5_walker_7 rfl ?_
    refine r_ldc kX5_41 dX5_walker_8 ?_
    refine r_v1r (M_finds 0 (by decide) (by decide)) (Nat.le_of_ble_eq_true rfl) mrX5_finds lkX5_66 rfl rfl rfl dX5_walker_10 (Nat.le_of_ble_eq_true rfl) ?_
    refine r_iret dX5_walker_13 rfl rfl ?_ ?_
    · simp only [o_walker, c4, if_true, if_false, eq_self, decide_true, decide_false, not_true, not_false_eq_true, Bool.true_and, Bool.and_true, Bool.false_and, Bool.and_false, Bool.true_or, Bool.or_true, Bool.false_or, Bool.or_false, Bool.not_true, Bool.not_false]
      rfl
    · simp only [o_walker, c4, if_true, if_false, eq_self, decide_true, decide_false, not_true, not_false_eq_true, Bool.true_and, Bool.and_true, Bool.false_and, Bool.and_false, Bool.true_or, Bool.or_true, Bool.false_or, Bool.or_false, Bool.not_true, Bool.not_false]
      exact ⟨ks, ot, as, fl, hk, HE.rf⟩
theorem N_of {R : RS} {ks ot as : Nat → Int32} {fl : Int32} {kp : Bool} {tc : Nat → Int32} {g : GO} {K : RS} {x w : Int32} (hw : wfR R) (hk : kp = true → ∀ i, i < 37 → ks i = enc K i) : SpQ 11 mX5_of [.ref 0, .int x, .int w] (hM (enc R) ks ot as fl kp tc g) (some (.int (o_of R K kp tc x w).1)) (qM (o_of R K kp tc x w).2 g) := by
  refine SpQ.of [some (.ref 0), some (.int x), some (.int w)] mrX5_of.1 (fun _ q => qM_len q) (Nat.le_of_ble_eq_true rfl) rfl (fun X => ?_)
  refine r_aload_n dX5_of_0 rfl ?_
  refine r_iload_n dX5_of_1 rfl ?_
  refine r_v1r (M_isPlace hw.1) (Nat.le_of_ble_eq_true rfl) mrX5_isPlace lkX5_69 rfl rfl rfl dX5_of_2 (Nat.le_of_ble_eq_true rfl) ?_
  refine r_if_neB 15 dX5_of_5 (by decide) (fun c5 => ?_) (fun c5 => ?_)
  · obtain ⟨p, hp, rfl⟩ := hasB_of c5 (by have := hw.1; omega)
    have hn := hw.1
    have et : tn (nI p) = p := nI_clamp (by omega)
    refine r_iload_n dX5_of_15 rfl ?_
    refine r_tsw 132 dX5_of_16 (by decide) (fun v16 h16 g16 e16 => ?_) (fun e16 => ?_)
    · rcases (show v16 = 0 ∨ v16 = 1 ∨ v16 = 2 ∨ v16 = 3 ∨ v16 = 4 ∨ v16 = 5 ∨ v16 = 6 ∨ v16 = 7 by omega) with rfl | rfl | rfl | rfl | rfl | rfl | rfl | rfl
      · refine ⟨48, 64, by decide, by decide, ?_⟩
        have c16 := toI_eq 0 e16 (by decide)
        refine r_aload_n dX5_of_64 rfl ?_
        refine r_iload_n dX5_of_65 rfl ?_
        refine r_iconst (v := nI 0) dX5_of_66 (by decide) ?_
        refine r_v2r (M_its0 (by omega)) (Nat.le_of_ble_eq_true rfl) mrX5_its lkX5_54 rfl rfl rfl dX5_of_67 (Nat.le_of_ble_eq_true rfl) ?_
        refine r_iret dX5_of_70 rfl rfl ?_ ?_
        · rw [c16, o_of, c5, et]; rfl
        · rw [c16, o_of, c5]
          exact ⟨ks, ot, as, fl, hk, HE.rf⟩
      · refine ⟨55, 71, by decide, by decide, ?_⟩
        have c16 := toI_eq 1 e16 (by decide)
        refine r_aload_n dX5_of_71 rfl ?_
        refine r_iload_n dX5_of_72 rfl ?_
        refine r_v1r M_paceOf (Nat.le_of_ble_eq_true rfl) mrX5_paceOf lkX5_57 rfl rfl rfl dX5_of_73 (Nat.le_of_ble_eq_true rfl) ?_
        refine r_iret dX5_of_76 rfl rfl ?_ ?_
        · rw [c16, o_of, c5, et]; rfl
        · rw [c16, o_of, c5]
          exact ⟨ks, ot, as, fl, hk, HE.rf⟩
      · refine ⟨61, 77, by decide, by decide, ?_⟩
        have c16 := toI_eq 2 e16 (by decide)
        refine r_aload_n dX5_of_77 rfl ?_
        refine r_iload_n dX5_of_78 rfl ?_
        refine r_iconst (v := nI 1) dX5_of_79 (by decide) ?_
        refine r_v2r (M_its1 (by omega)) (Nat.le_of_ble_eq_true rfl) mrX5_its lkX5_54 rfl rfl rfl dX5_of_80 (Nat.le_of_ble_eq_true rfl) ?_
        refine r_iret dX5_of_83 rfl rfl ?_ ?_
        · rw [c16, o_of, c5, et]; rfl
        · rw [c16, o_of, c5]
          exact ⟨ks, ot, as, fl, hk, HE.rf⟩
      · refine ⟨68, 84, by decide, by decide, ?_⟩
        have c16 := toI_eq 3 e16 (by decide)
        refine r_aload_n dX5_of_84 rfl ?_
        refine r_iload_n dX5_of_85 rfl ?_
        refine r_iconst (v := nI 2) dX5_of_86 (by decide) ?_
        refine r_v2r (M_its2 (by omega)) (Nat.le_of_ble_eq_true rfl) mrX5_its lkX5_54 rfl rfl rfl dX5_of_87 (Nat.le_of_ble_eq_true rfl) ?_
        refine r_iret dX5_of_90 rfl rfl ?_ ?_
        · rw [c16, o_of, c5, et]; rfl
        · rw [c16, o_of, c5]
          exact ⟨ks, ot, as, fl, hk, HE.rf⟩
      · refine ⟨75, 91, by decide, by decide, ?_⟩
        have c16 := toI_eq 4 e16 (by decide)
        refine r_aload_n dX5_of_91 rfl ?_
        refine r_iload_n dX5_of_92 rfl ?_
        refine r_iconst (v := nI 3) dX5_of_93 (by decide) ?_
        refine r_v2r (M_its3 (by omega)) (Nat.le_of_ble_eq_true rfl) mrX5_its lkX5_54 rfl rfl rfl dX5_of_94 (Nat.le_of_ble_eq_true rfl) ?_
        refine r_iret dX5_of_97 rfl rfl ?_ ?_
        · rw [c16, o_of, c5, et]; rfl
        · rw [c16, o_of, c5]
          exact ⟨ks, ot, as, fl, hk, HE.rf⟩
      · refine ⟨82, 98, by decide, by decide, ?_⟩
        have c16 := toI_eq 5 e16 (by decide)
        refine r_aload_n dX5_of_98 rfl ?_
        refine r_iload_n dX5_of_99 rfl ?_
        refine r_v1r (M_shadesOf (by omega)) (Nat.le_of_ble_eq_true rfl) mrX5_shadesOf lkX5_75 rfl rfl rfl dX5_of_100 (Nat.le_of_ble_eq_true rfl) ?_
        refine r_iret dX5_of_103 rfl rfl ?_ ?_
        · rw [c16, o_of, c5, et]; rfl
        · rw [c16, o_of, c5]
          exact ⟨ks, ot, as, fl, hk, HE.rf⟩
      · refine ⟨88, 104, by decide, by decide, ?_⟩
        have c16 := toI_eq 6 e16 (by decide)
        refine r_aload_n dX5_of_104 rfl ?_
        refine r_iload_n dX5_of_105 rfl ?_
        refine r_v1r (M_isSeeing hn (by omega) hw.2.1) (Nat.le_of_ble_eq_true rfl) mrX5_isSeeing lkX5_104 rfl rfl rfl dX5_of_106 (Nat.le_of_ble_eq_true rfl) ?_
        refine r_if_eqB 116 dX5_of_109 (by decide) (fun c109 => ?_) (fun c109 => ?_)
        · refine r_iconst (v := nI 0) dX5_of_116 (by decide) ?_
          refine r_iret dX5_of_117 rfl rfl ?_ ?_
          · rw [c16, o_of, c5, et]
            first | exact ret_t c109 | exact ret_f c109
          · rw [c16, o_of, c5]
            exact ⟨ks, ot, as, fl, hk, HE.rf⟩
        · refine r_iconst (v := nI 1) dX5_of_112 (by decide) ?_
          refine r_goto 117 dX5_of_113 (by decide) ?_
          refine r_iret dX5_of_117 rfl rfl ?_ ?_
          · rw [c16, o_of, c5, et]
            first | exact ret_t c109 | exact ret_f c109
          · rw [c16, o_of, c5]
            exact ⟨ks, ot, as, fl, hk, HE.rf⟩
      · refine ⟨102, 118, by decide, by decide, ?_⟩
        have c16 := toI_eq 7 e16 (by decide)
        refine r_aload_n dX5_of_118 rfl ?_
        refine r_iload_n dX5_of_119 rfl ?_
        refine r_v1r (M_isHeeding (by omega)) (Nat.le_of_ble_eq_true rfl) mrX5_isHeeding lkX5_114 rfl rfl rfl dX5_of_120 (Nat.le_of_ble_eq_true rfl) ?_
        refine r_if_eqB 130 dX5_of_123 (by decide) (fun c123 => ?_) (fun c123 => ?_)
        · refine r_iconst (v := nI 0) dX5_of_130 (by decide) ?_
          refine r_iret dX5_of_131 rfl rfl ?_ ?_
          · rw [c16, o_of, c5, et]
            first | exact ret_t c123 | exact ret_f c123
          · rw [c16, o_of, c5]
            exact ⟨ks, ot, as, fl, hk, HE.rf⟩
        · refine r_iconst (v := nI 1) dX5_of_126 (by decide) ?_
          refine r_goto 131 dX5_of_127 (by decide) ?_
          refine r_iret dX5_of_131 rfl rfl ?_ ?_
          · rw [c16, o_of, c5, et]
            first | exact ret_t c123 | exact ret_f c123
          · rw [c16, o_of, c5]
            exact ⟨ks, ot, as, fl, hk, HE.rf⟩
    · have c16_0 := toI_ne 0 e16 (by decide)
      have c16_1 := toI_ne 1 e16 (by decide)
      have c16_2 := toI_ne 2 e16 (by decide)
      have c16_3 := toI_ne 3 e16 (by decide)
      have c16_4 := toI_ne 4 e16 (by decide)
      have c16_5 := toI_ne 5 e16 (by decide)
      have c16_6 := toI_ne 6 e16 (by decide)
      have c16_7 := toI_ne 7 e16 (by decide)
      refine r_aload_n dX5_of_132 rfl ?_
      refine r_ldc kX5_41 dX5_of_133 ?_
      refine r_v1r (M_finds 0 (by decide) (by decide)) (Nat.le_of_ble_eq_true rfl) mrX5_finds lkX5_66 rfl rfl rfl dX5_of_135 (Nat.le_of_ble_eq_true rfl) ?_
      refine r_iret dX5_of_138 rfl rfl ?_ ?_
      · simp only [o_of, c5, c16_0, c16_1, c16_2, c16_3, c16_4, c16_5, c16_6, c16_7, if_true, if_false, eq_self, decide_true, decide_false, not_true, not_false_eq_true, Bool.true_and, Bool.and_true, Bool.false_and, Bool.and_false, Bool.true_or, Bool.or_true, Bool.false_or, Bool.or_false, Bool.not_true, Bool.not_false]
        rfl
      · simp only [o_of, c5, c16_0, c16_1, c16_2, c16_3, c16_4, c16_5, c16_6, c16_7, if_true, if_false, eq_self, decide_true, decide_false, not_true, not_false_eq_true, Bool.true_and, Bool.and_true, Bool.false_and, Bool.and_false, Bool.true_or, Bool.or_true, Bool.false_or, Bool.or_false, Bool.not_true, Bool.not_false]
        exact ⟨ks, ot, as, fl, hk, HE.rf⟩
  · refine r_aload_n dX5_of_8 rfl ?_
    refine r_ldc kX5_41 dX5_of_9 ?_
    refine r_v1r (M_finds 0 (by decide) (by decide)) (Nat.le_of_ble_eq_true rfl) mrX5_finds lkX5_66 rfl rfl rfl dX5_of_11 (Nat.le_of_ble_eq_true rfl) ?_
    refine r_iret dX5_of_14 rfl rfl ?_ ?_
    · simp only [o_of, c5, if_true, if_false, eq_self, decide_true, decide_false, not_true, not_false_eq_true, Bool.true_and, Bool.and_true, Bool.false_and, Bool.and_false, Bool.true_or, Bool.or_true, Bool.false_or, Bool.or_false, Bool.not_true, Bool.not_false]
      rfl
    · simp only [o_of, c5, if_true, if_false, eq_self, decide_true, decide_false, not_true, not_false_eq_true, Bool.true_and, Bool.and_true, Bool.false_and, Bool.and_false, Bool.true_or, Bool.or_true, Bool.false_or, Bool.or_false, Bool.not_true, Bool.not_false]
      exact ⟨ks, ot, as, fl, hk, HE.rf⟩
def swE (s : Nat → Int32) (p o : Nat) : Nat → Nat → Int32
  | 0 => s
  | i + 1 => upd (upd (swE s p o i) (5 + 4 * p + i) (swE s p o i (5 + 4 * o + i))) (5 + 4 * o + i) (swE s p o i (5 + 4 * p + i))
theorem swE_enc {R : RS} {p o : Nat} : swE (enc R) p o 4 = enc (swR R p o) := by
  simp only [swE, encU0, encU1, encU2, encU3, encK, encH, encS, encN]
  rfl
theorem M_swaps {R : RS} {ks ot as : Nat → Int32} {fl : Int32} {kp : Bool} {tc : Nat → Int32} {g : GO} {p o : Nat} (hp : p < 8) (ho : o < 8) : Sp 2 mX5_swaps [.ref 0, .int (nI p), .int (nI o)] (hM (enc R) ks ot as fl kp tc g) none (hM (enc (swR R p o)) ks ot as fl kp tc g) := by
  refine Sp.of [some (.ref 0), some (.int (nI p)), some (.int (nI o)), none, none] mrX5_swaps.1 rfl (Nat.le_of_ble_eq_true rfl) rfl (fun X => ?_)
  have L : ∀ (k i : Nat), i + k = 4 → Run X 2 mX5_swaps 2 [some (.ref 0), some (.int (nI p)), some (.int (nI o)), some (.int (nI i)), none] [] (hM (swE (enc R) p o i) ks ot as fl kp tc g) none (hM (enc (swR R p o)) ks ot as fl kp tc g) := by
    intro k
    induction k with
    | zero =>
      intro i hi
      obtain rfl : i = 4 := by omega
      refine r_iload_n dX5_swaps_2 rfl ?_
      refine r_iconst (v := nI 3) dX5_swaps_3 (by decide) ?_
      refine r_icmp_gt 42 dX5_swaps_4 (by decide) (fun c4 => ?_) (fun c4 => ?_)
      · refine r_vret dX5_swaps_42 rfl ?_ ?_
        · rfl
        · rw [swE_enc]
          exact HE.rf
      · exact absurd (nI_lt (by omega) (by omega)) c4
    | succ k ih =>
      intro i hi
      refine r_iload_n dX5_swaps_2 rfl ?_
      refine r_iconst (v := nI 3) dX5_swaps_3 (by decide) ?_
      refine r_icmp_gt 42 dX5_swaps_4 (by decide) (fun c4 => ?_) (fun c4 => ?_)
      · exact absurd c4 (nI_nlt (by omega) (by omega))
      · refine r_aload_n dX5_swaps_7 rfl ?_
        refine r_iload_n dX5_swaps_8 rfl ?_
        refine r_iload_n dX5_swaps_9 rfl ?_
        refine r_s2r M_spot (Nat.le_of_ble_eq_true rfl) mrX5_spot lkX5_42 dX5_swaps_10 (Nat.le_of_ble_eq_true rfl) ?_
        refine r_aload_n dX5_swaps_13 rfl ?_
        refine r_iload_n dX5_swaps_14 rfl ?_
        refine r_iload_n dX5_swaps_15 rfl ?_
        refine r_v2r (M_its (by omega) (by omega)) (Nat.le_of_ble_eq_true rfl) mrX5_its lkX5_54 rfl rfl rfl dX5_swaps_16 (Nat.le_of_ble_eq_true rfl) ?_
        refine r_v2r (M_becomes (by omega)) (Nat.le_of_ble_eq_true rfl) mrX5_becomes lkX5_63 rfl rfl rfl dX5_swaps_19 (Nat.le_of_ble_eq_true rfl) ?_
        refine r_istore (lv' := [_, _, _, _, _]) dX5_swaps_22 (by decide) rfl ?_
        refine r_aload_n dX5_swaps_24 rfl ?_
        refine r_getfield dX5_swaps_25 gfX5_7 rfl rfl ?_
        refine r_iload_n dX5_swaps_28 rfl ?_
        refine r_iload_n dX5_swaps_29 rfl ?_
        refine r_s2r M_spot (Nat.le_of_ble_eq_true rfl) mrX5_spot lkX5_42 dX5_swaps_30 (Nat.le_of_ble_eq_true rfl) ?_
        refine r_iload dX5_swaps_33 rfl ?_
        refine r_iastN (h' := [_, _, _, _, _, _]) dX5_swaps_35 rfl (by omega) (Nat.le_of_ble_eq_true rfl) rfl ?_
        refine r_iinc (lv' := [_, _, _, _, _]) dX5_swaps_36 (by decide) rfl (by first | exact inc1 _ | exact inc1_ _) rfl ?_
        refine r_goto 2 dX5_swaps_39 (by decide) ?_
        exact r_lv (lv' := [_, _, _, _, none]) (lvDrop 4 rfl) (ih (i + 1) (by omega))
  refine r_iconst (v := nI 0) dX5_swaps_0 (by decide) ?_
  refine r_istore_n (lv' := [_, _, _, _, _]) dX5_swaps_1 (by decide) rfl ?_
  exact L 4 0 (by omega)
theorem N_swap {R : RS} {ks ot as : Nat → Int32} {fl : Int32} {kp : Bool} {tc : Nat → Int32} {g : GO} {K : RS} {x y : Int32} (hw : wfR R) (hk : kp = true → ∀ i, i < 37 → ks i = enc K i) : SpQ 11 mX5_swap [.ref 0, .int x, .int y] (hM (enc R) ks ot as fl kp tc g) (some (.int (o_swap R K kp tc x y).1)) (qM (o_swap R K kp tc x y).2 g) := by
  refine SpQ.of [some (.ref 0), some (.int x), some (.int y)] mrX5_swap.1 (fun _ q => qM_len q) (Nat.le_of_ble_eq_true rfl) rfl (fun X => ?_)
  refine r_aload_n dX5_swap_0 rfl ?_
  refine r_iload_n dX5_swap_1 rfl ?_
  refine r_v1r (M_isPlace hw.1) (Nat.le_of_ble_eq_true rfl) mrX5_isPlace lkX5_69 rfl rfl rfl dX5_swap_2 (Nat.le_of_ble_eq_true rfl) ?_
  refine r_if_eqB 21 dX5_swap_5 (by decide) (fun c5 => ?_) (fun c5 => ?_)
  · refine r_aload_n dX5_swap_21 rfl ?_
    refine r_ldc kX5_41 dX5_swap_22 ?_
    refine r_v1r (M_finds 0 (by decide) (by decide)) (Nat.le_of_ble_eq_true rfl) mrX5_finds lkX5_66 rfl rfl rfl dX5_swap_24 (Nat.le_of_ble_eq_true rfl) ?_
    refine r_iret dX5_swap_27 rfl rfl ?_ ?_
    · simp only [o_swap, c5, if_true, if_false, eq_self, decide_true, decide_false, not_true, not_false_eq_true, Bool.true_and, Bool.and_true, Bool.false_and, Bool.and_false, Bool.true_or, Bool.or_true, Bool.false_or, Bool.or_false, Bool.not_true, Bool.not_false]
      rfl
    · simp only [o_swap, c5, if_true, if_false, eq_self, decide_true, decide_false, not_true, not_false_eq_true, Bool.true_and, Bool.and_true, Bool.false_and, Bool.and_false, Bool.true_or, Bool.or_true, Bool.false_or, Bool.or_false, Bool.not_true, Bool.not_false]
      exact ⟨ks, ot, as, fl, hk, HE.rf⟩
  · refine r_aload_n dX5_swap_8 rfl ?_
    refine r_iload_n dX5_swap_9 rfl ?_
    refine r_v1r (M_isPlace hw.1) (Nat.le_of_ble_eq_true rfl) mrX5_isPlace lkX5_69 rfl rfl rfl dX5_swap_10 (Nat.le_of_ble_eq_true rfl) ?_
    refine r_if_eqB 21 dX5_swap_13 (by decide) (fun c13 => ?_) (fun c13 => ?_)
    · refine r_aload_n dX5_swap_21 rfl ?_
      refine r_ldc kX5_41 dX5_swap_22 ?_
      refine r_v1r (M_finds 0 (by decide) (by decide)) (Nat.le_of_ble_eq_true rfl) mrX5_finds lkX5_66 rfl rfl rfl dX5_swap_24 (Nat.le_of_ble_eq_true rfl) ?_
      refine r_iret dX5_swap_27 rfl rfl ?_ ?_
      · simp only [o_swap, c5, c13, if_true, if_false, eq_self, decide_true, decide_false, not_true, not_false_eq_true, Bool.true_and, Bool.and_true, Bool.false_and, Bool.and_false, Bool.true_or, Bool.or_true, Bool.false_or, Bool.or_false, Bool.not_true, Bool.not_false]
        rfl
      · simp only [o_swap, c5, c13, if_true, if_false, eq_self, decide_true, decide_false, not_true, not_false_eq_true, Bool.true_and, Bool.and_true, Bool.false_and, Bool.and_false, Bool.true_or, Bool.or_true, Bool.false_or, Bool.or_false, Bool.not_true, Bool.not_false]
        exact ⟨ks, ot, as, fl, hk, HE.rf⟩
    · refine r_iload_n dX5_swap_16 rfl ?_
      refine r_iload_n dX5_swap_17 rfl ?_
      refine r_icmp_ne 28 dX5_swap_18 (by decide) (fun c18 => ?_) (fun c18 => ?_)
      · obtain ⟨p, hp, rfl⟩ := hasB_of c5 (by have := hw.1; omega)
        have hn := hw.1
        have et : tn (nI p) = p := nI_clamp (by omega)
        obtain ⟨o, ho, rfl⟩ := hasB_of c13 (by omega)
        have eo : tn (nI o) = o := nI_clamp (by omega)
        refine r_aload_n dX5_swap_28 rfl ?_
        refine r_iload_n dX5_swap_29 rfl ?_
        refine r_iload_n dX5_swap_30 rfl ?_
        refine r_v2n (M_swaps (by omega) (by omega)) (Nat.le_of_ble_eq_true rfl) mrX5_swaps lkX5_125 rfl rfl rfl dX5_swap_31 (Nat.le_of_ble_eq_true rfl) ?_
        refine r_iconst (v := nI 1) dX5_swap_34 (by decide) ?_
        refine r_iret dX5_swap_35 rfl rfl ?_ ?_
        · simp only [o_swap, c5, c13, c18, if_true, if_false, eq_self, decide_true, decide_false, not_true, not_false_eq_true, Bool.true_and, Bool.and_true, Bool.false_and, Bool.and_false, Bool.true_or, Bool.or_true, Bool.false_or, Bool.or_false, Bool.not_true, Bool.not_false]
        · simp only [o_swap, c5, c13, c18, if_true, if_false, eq_self, decide_true, decide_false, not_true, not_false_eq_true, Bool.true_and, Bool.and_true, Bool.false_and, Bool.and_false, Bool.true_or, Bool.or_true, Bool.false_or, Bool.or_false, Bool.not_true, Bool.not_false]
          rw [et, eo]
          exact ⟨ks, ot, as, fl, hk, HE.rf⟩
      · refine r_aload_n dX5_swap_21 rfl ?_
        refine r_ldc kX5_41 dX5_swap_22 ?_
        refine r_v1r (M_finds 0 (by decide) (by decide)) (Nat.le_of_ble_eq_true rfl) mrX5_finds lkX5_66 rfl rfl rfl dX5_swap_24 (Nat.le_of_ble_eq_true rfl) ?_
        refine r_iret dX5_swap_27 rfl rfl ?_ ?_
        · simp only [o_swap, c5, c13, c18, if_true, if_false, eq_self, decide_true, decide_false, not_true, not_false_eq_true, Bool.true_and, Bool.and_true, Bool.false_and, Bool.and_false, Bool.true_or, Bool.or_true, Bool.false_or, Bool.or_false, Bool.not_true, Bool.not_false]
          rfl
        · simp only [o_swap, c5, c13, c18, if_true, if_false, eq_self, decide_true, decide_false, not_true, not_false_eq_true, Bool.true_and, Bool.and_true, Bool.false_and, Bool.and_false, Bool.true_or, Bool.or_true, Bool.false_or, Bool.or_false, Bool.not_true, Bool.not_false]
          exact ⟨ks, ot, as, fl, hk, HE.rf⟩
theorem N_turn {R : RS} {ks ot as : Nat → Int32} {fl : Int32} {kp : Bool} {tc : Nat → Int32} {g : GO} {K : RS} {x k : Int32} (hw : wfR R) (hk : kp = true → ∀ i, i < 37 → ks i = enc K i) : SpQ 11 mX5_turn [.ref 0, .int x, .int k] (hM (enc R) ks ot as fl kp tc g) (some (.int (o_turn R K kp tc x k).1)) (qM (o_turn R K kp tc x k).2 g) := by
  refine SpQ.of [some (.ref 0), some (.int x), some (.int k)] mrX5_turn.1 (fun _ q => qM_len q) (Nat.le_of_ble_eq_true rfl) rfl (fun X => ?_)
  refine r_aload_n dX5_turn_0 rfl ?_
  refine r_iload_n dX5_turn_1 rfl ?_
  refine r_v1r (M_isPlace hw.1) (Nat.le_of_ble_eq_true rfl) mrX5_isPlace lkX5_69 rfl rfl rfl dX5_turn_2 (Nat.le_of_ble_eq_true rfl) ?_
  refine r_if_eqB 28 dX5_turn_5 (by decide) (fun c5 => ?_) (fun c5 => ?_)
  · refine r_aload_n dX5_turn_28 rfl ?_
    refine r_ldc kX5_41 dX5_turn_29 ?_
    refine r_v1r (M_finds 0 (by decide) (by decide)) (Nat.le_of_ble_eq_true rfl) mrX5_finds lkX5_66 rfl rfl rfl dX5_turn_31 (Nat.le_of_ble_eq_true rfl) ?_
    refine r_iret dX5_turn_34 rfl rfl ?_ ?_
    · first | (simp only [o_turn, c5, if_true, if_false, eq_self, decide_true, decide_false, not_true, not_false_eq_true, Bool.true_and, Bool.and_true, Bool.false_and, Bool.and_false, Bool.true_or, Bool.or_true, Bool.false_or, Bool.or_false, Bool.not_true, Bool.not_false]; rw [et]; done) | (simp only [o_turn, c5, if_true, if_false, eq_self, decide_true, decide_false, not_true, not_false_eq_true, Bool.true_and, Bool.and_true, Bool.false_and, Bool.and_false, Bool.true_or, Bool.or_true, Bool.false_or, Bool.or_false, Bool.not_true, Bool.not_false]; rfl)
    · first | (simp only [o_turn, c5, if_true, if_false, eq_self, decide_true, decide_false, not_true, not_false_eq_true, Bool.true_and, Bool.and_true, Bool.false_and, Bool.and_false, Bool.true_or, Bool.or_true, Bool.false_or, Bool.or_false, Bool.not_true, Bool.not_false]; rw [et]; exact ⟨ks, ot, as, fl, hk, HE.rf⟩) | (simp only [o_turn, c5, if_true, if_false, eq_self, decide_true, decide_false, not_true, not_false_eq_true, Bool.true_and, Bool.and_true, Bool.false_and, Bool.and_false, Bool.true_or, Bool.or_true, Bool.false_or, Bool.or_false, Bool.not_true, Bool.not_false]; exact ⟨ks, ot, as, fl, hk, HE.rf⟩)
  · refine r_iload_n dX5_turn_8 rfl ?_
    refine r_s1r M_isKind (Nat.le_of_ble_eq_true rfl) mrX5_isKind lkX5_107 dX5_turn_9 (Nat.le_of_ble_eq_true rfl) ?_
    refine r_if_eqB 28 dX5_turn_12 (by decide) (fun c12 => ?_) (fun c12 => ?_)
    · refine r_aload_n dX5_turn_28 rfl ?_
      refine r_ldc kX5_41 dX5_turn_29 ?_
      refine r_v1r (M_finds 0 (by decide) (by decide)) (Nat.le_of_ble_eq_true rfl) mrX5_finds lkX5_66 rfl rfl rfl dX5_turn_31 (Nat.le_of_ble_eq_true rfl) ?_
      refine r_iret dX5_turn_34 rfl rfl ?_ ?_
      · first | (simp only [o_turn, c5, c12, if_true, if_false, eq_self, decide_true, decide_false, not_true, not_false_eq_true, Bool.true_and, Bool.and_true, Bool.false_and, Bool.and_false, Bool.true_or, Bool.or_true, Bool.false_or, Bool.or_false, Bool.not_true, Bool.not_false]; rw [et]; done) | (simp only [o_turn, c5, c12, if_true, if_false, eq_self, decide_true, decide_false, not_true, not_false_eq_true, Bool.true_and, Bool.and_true, Bool.false_and, Bool.and_false, Bool.true_or, Bool.or_true, Bool.false_or, Bool.or_false, Bool.not_true, Bool.not_false]; rfl)
      · first | (simp only [o_turn, c5, c12, if_true, if_false, eq_self, decide_true, decide_false, not_true, not_false_eq_true, Bool.true_and, Bool.and_true, Bool.false_and, Bool.and_false, Bool.true_or, Bool.or_true, Bool.false_or, Bool.or_false, Bool.not_true, Bool.not_false]; rw [et]; exact ⟨ks, ot, as, fl, hk, HE.rf⟩) | (simp only [o_turn, c5, c12, if_true, if_false, eq_self, decide_true, decide_false, not_true, not_false_eq_true, Bool.true_and, Bool.and_true, Bool.false_and, Bool.and_false, Bool.true_or, Bool.or_true, Bool.false_or, Bool.or_false, Bool.not_true, Bool.not_false]; exact ⟨ks, ot, as, fl, hk, HE.rf⟩)
    · obtain ⟨p, hp, rfl⟩ := hasB_of c5 (by have := hw.1; omega)
      have hn := hw.1
      have et : tn (nI p) = p := nI_clamp (by omega)
      refine r_aload_n dX5_turn_15 rfl ?_
      refine r_iload_n dX5_turn_16 rfl ?_
      refine r_iconst (v := nI 0) dX5_turn_17 (by decide) ?_
      refine r_s2r M_spot (Nat.le_of_ble_eq_true rfl) mrX5_spot lkX5_42 dX5_turn_18 (Nat.le_of_ble_eq_true rfl) ?_
      refine r_iload_n dX5_turn_21 rfl ?_
      refine r_v2r (M_becomes (by omega)) (Nat.le_of_ble_eq_true rfl) mrX5_becomes lkX5_63 rfl rfl rfl dX5_turn_22 (Nat.le_of_ble_eq_true rfl) ?_
      rw [encU0, encK]
      refine r_goto 34 dX5_turn_25 (by decide) ?_
      refine r_iret dX5_turn_34 rfl rfl ?_ ?_
      · first | (simp only [o_turn, c5, c12, if_true, if_false, eq_self, decide_true, decide_false, not_true, not_false_eq_true, Bool.true_and, Bool.and_true, Bool.false_and, Bool.and_false, Bool.true_or, Bool.or_true, Bool.false_or, Bool.or_false, Bool.not_true, Bool.not_false]; rw [et]; done) | (simp only [o_turn, c5, c12, if_true, if_false, eq_self, decide_true, decide_false, not_true, not_false_eq_true, Bool.true_and, Bool.and_true, Bool.false_and, Bool.and_false, Bool.true_or, Bool.or_true, Bool.false_or, Bool.or_false, Bool.not_true, Bool.not_false]; rfl)
      · first | (simp only [o_turn, c5, c12, if_true, if_false, eq_self, decide_true, decide_false, not_true, not_false_eq_true, Bool.true_and, Bool.and_true, Bool.false_and, Bool.and_false, Bool.true_or, Bool.or_true, Bool.false_or, Bool.or_false, Bool.not_true, Bool.not_false]; rw [et]; exact ⟨ks, ot, as, fl, hk, HE.rf⟩) | (simp only [o_turn, c5, c12, if_true, if_false, eq_self, decide_true, decide_false, not_true, not_false_eq_true, Bool.true_and, Bool.and_true, Bool.false_and, Bool.and_false, Bool.true_or, Bool.or_true, Bool.false_or, Bool.or_false, Bool.not_true, Bool.not_false]; exact ⟨ks, ot, as, fl, hk, HE.rf⟩)
theorem M_isUnder {k a : Int32} {h : AH} : Sp 0 mX5_isUnder [.int k, .int a] h (some (.int (bI (undB k a)))) h := by
  refine Sp.of [some (.int k), some (.int a)] mrX5_isUnder.1 rfl (Nat.le_of_ble_eq_true rfl) rfl (fun X => ?_)
  refine r_iload_n dX5_isUnder_0 rfl ?_
  refine r_if_eq 29 dX5_isUnder_1 (by decide) (fun c1 => ?_) (fun c1 => ?_)
  · refine r_iconst (v := nI 1) dX5_isUnder_29 (by decide) ?_
    refine r_goto 34 dX5_isUnder_30 (by decide) ?_
    refine r_iret dX5_isUnder_34 rfl (by first | exact bI_nar _ | rfl) ?_ ?_
    · first | exact ret_t (by rw [undB, decide_eq_true (show a = nI 0 from c1)]; rfl) | exact ret_t (by rw [undB, decide_eq_true c6, Bool.true_or, Bool.or_true]) | exact ret_t (by rw [undB, decide_eq_true c11, decide_eq_true c16]; simp) | exact ret_t (by rw [undB, decide_eq_true c21, decide_eq_true c26]; simp) | exact ret_f (by rw [undB, decide_eq_false (show ¬ a = nI 0 from c1), decide_eq_false c6, decide_eq_false c11, decide_eq_false c21]; rfl) | exact ret_f (by rw [undB, decide_eq_false (show ¬ a = nI 0 from c1), decide_eq_false c6, decide_eq_false c11, decide_eq_false c26, Bool.and_false]; rfl) | exact ret_f (by rw [undB, decide_eq_false (show ¬ a = nI 0 from c1), decide_eq_false c6, decide_eq_false c16, decide_eq_false c21, Bool.and_false]; rfl) | exact ret_f (by rw [undB, decide_eq_false (show ¬ a = nI 0 from c1), decide_eq_false c6, decide_eq_false c16, decide_eq_false c26, Bool.and_false, Bool.and_false]; rfl)
    · exact HE.rf
  · refine r_iload_n dX5_isUnder_4 rfl ?_
    refine r_iload_n dX5_isUnder_5 rfl ?_
    refine r_icmp_eq 29 dX5_isUnder_6 (by decide) (fun c6 => ?_) (fun c6 => ?_)
    · refine r_iconst (v := nI 1) dX5_isUnder_29 (by decide) ?_
      refine r_goto 34 dX5_isUnder_30 (by decide) ?_
      refine r_iret dX5_isUnder_34 rfl (by first | exact bI_nar _ | rfl) ?_ ?_
      · first | exact ret_t (by rw [undB, decide_eq_true (show a = nI 0 from c1)]; rfl) | exact ret_t (by rw [undB, decide_eq_true c6, Bool.true_or, Bool.or_true]) | exact ret_t (by rw [undB, decide_eq_true c11, decide_eq_true c16]; simp) | exact ret_t (by rw [undB, decide_eq_true c21, decide_eq_true c26]; simp) | exact ret_f (by rw [undB, decide_eq_false (show ¬ a = nI 0 from c1), decide_eq_false c6, decide_eq_false c11, decide_eq_false c21]; rfl) | exact ret_f (by rw [undB, decide_eq_false (show ¬ a = nI 0 from c1), decide_eq_false c6, decide_eq_false c11, decide_eq_false c26, Bool.and_false]; rfl) | exact ret_f (by rw [undB, decide_eq_false (show ¬ a = nI 0 from c1), decide_eq_false c6, decide_eq_false c16, decide_eq_false c21, Bool.and_false]; rfl) | exact ret_f (by rw [undB, decide_eq_false (show ¬ a = nI 0 from c1), decide_eq_false c6, decide_eq_false c16, decide_eq_false c26, Bool.and_false, Bool.and_false]; rfl)
      · exact HE.rf
    · refine r_iload_n dX5_isUnder_9 rfl ?_
      refine r_iconst (v := nI 4) dX5_isUnder_10 (by decide) ?_
      refine r_icmp_ne 19 dX5_isUnder_11 (by decide) (fun c11 => ?_) (fun c11 => ?_)
      · refine r_iload_n dX5_isUnder_19 rfl ?_
        refine r_iconst (v := nI 5) dX5_isUnder_20 (by decide) ?_
        refine r_icmp_ne 33 dX5_isUnder_21 (by decide) (fun c21 => ?_) (fun c21 => ?_)
        · refine r_iconst (v := nI 0) dX5_isUnder_33 (by decide) ?_
          refine r_iret dX5_isUnder_34 rfl (by first | exact bI_nar _ | rfl) ?_ ?_
          · first | exact ret_t (by rw [undB, decide_eq_true (show a = nI 0 from c1)]; rfl) | exact ret_t (by rw [undB, decide_eq_true c6, Bool.true_or, Bool.or_true]) | exact ret_t (by rw [undB, decide_eq_true c11, decide_eq_true c16]; simp) | exact ret_t (by rw [undB, decide_eq_true c21, decide_eq_true c26]; simp) | exact ret_f (by rw [undB, decide_eq_false (show ¬ a = nI 0 from c1), decide_eq_false c6, decide_eq_false c11, decide_eq_false c21]; rfl) | exact ret_f (by rw [undB, decide_eq_false (show ¬ a = nI 0 from c1), decide_eq_false c6, decide_eq_false c11, decide_eq_false c26, Bool.and_false]; rfl) | exact ret_f (by rw [undB, decide_eq_false (show ¬ a = nI 0 from c1), decide_eq_false c6, decide_eq_false c16, decide_eq_false c21, Bool.and_false]; rfl) | exact ret_f (by rw [undB, decide_eq_false (show ¬ a = nI 0 from c1), decide_eq_false c6, decide_eq_false c16, decide_eq_false c26, Bool.and_false, Bool.and_false]; rfl)
          · exact HE.rf
        · refine r_iload_n dX5_isUnder_24 rfl ?_
          refine r_iconst (v := nI 2) dX5_isUnder_25 (by decide) ?_
          refine r_icmp_ne 33 dX5_isUnder_26 (by decide) (fun c26 => ?_) (fun c26 => ?_)
          · refine r_iconst (v := nI 0) dX5_isUnder_33 (by decide) ?_
            refine r_iret dX5_isUnder_34 rfl (by first | exact bI_nar _ | rfl) ?_ ?_
            · first | exact ret_t (by rw [undB, decide_eq_true (show a = nI 0 from c1)]; rfl) | exact ret_t (by rw [undB, decide_eq_true c6, Bool.true_or, Bool.or_true]) | exact ret_t (by rw [undB, decide_eq_true c11, decide_eq_true c16]; simp) | exact ret_t (by rw [undB, decide_eq_true c21, decide_eq_true c26]; simp) | exact ret_f (by rw [undB, decide_eq_false (show ¬ a = nI 0 from c1), decide_eq_false c6, decide_eq_false c11, decide_eq_false c21]; rfl) | exact ret_f (by rw [undB, decide_eq_false (show ¬ a = nI 0 from c1), decide_eq_false c6, decide_eq_false c11, decide_eq_false c26, Bool.and_false]; rfl) | exact ret_f (by rw [undB, decide_eq_false (show ¬ a = nI 0 from c1), decide_eq_false c6, decide_eq_false c16, decide_eq_false c21, Bool.and_false]; rfl) | exact ret_f (by rw [undB, decide_eq_false (show ¬ a = nI 0 from c1), decide_eq_false c6, decide_eq_false c16, decide_eq_false c26, Bool.and_false, Bool.and_false]; rfl)
            · exact HE.rf
          · refine r_iconst (v := nI 1) dX5_isUnder_29 (by decide) ?_
            refine r_goto 34 dX5_isUnder_30 (by decide) ?_
            refine r_iret dX5_isUnder_34 rfl (by first | exact bI_nar _ | rfl) ?_ ?_
            · first | exact ret_t (by rw [undB, decide_eq_true (show a = nI 0 from c1)]; rfl) | exact ret_t (by rw [undB, decide_eq_true c6, Bool.true_or, Bool.or_true]) | exact ret_t (by rw [undB, decide_eq_true c11, decide_eq_true c16]; simp) | exact ret_t (by rw [undB, decide_eq_true c21, decide_eq_true c26]; simp) | exact ret_f (by rw [undB, decide_eq_false (show ¬ a = nI 0 from c1), decide_eq_false c6, decide_eq_false c11, decide_eq_false c21]; rfl) | exact ret_f (by rw [undB, decide_eq_false (show ¬ a = nI 0 from c1), decide_eq_false c6, decide_eq_false c11, decide_eq_false c26, Bool.and_false]; rfl) | exact ret_f (by rw [undB, decide_eq_false (show ¬ a = nI 0 from c1), decide_eq_false c6, decide_eq_false c16, decide_eq_false c21, Bool.and_false]; rfl) | exact ret_f (by rw [undB, decide_eq_false (show ¬ a = nI 0 from c1), decide_eq_false c6, decide_eq_false c16, decide_eq_false c26, Bool.and_false, Bool.and_false]; rfl)
            · exact HE.rf
      · refine r_iload_n dX5_isUnder_14 rfl ?_
        refine r_iconst (v := nI 1) dX5_isUnder_15 (by decide) ?_
        refine r_icmp_eq 29 dX5_isUnder_16 (by decide) (fun c16 => ?_) (fun c16 => ?_)
        · refine r_iconst (v := nI 1) dX5_isUnder_29 (by decide) ?_
          refine r_goto 34 dX5_isUnder_30 (by decide) ?_
          refine r_iret dX5_isUnder_34 rfl (by first | exact bI_nar _ | rfl) ?_ ?_
          · first | exact ret_t (by rw [undB, decide_eq_true (show a = nI 0 from c1)]; rfl) | exact ret_t (by rw [undB, decide_eq_true c6, Bool.true_or, Bool.or_true]) | exact ret_t (by rw [undB, decide_eq_true c11, decide_eq_true c16]; simp) | exact ret_t (by rw [undB, decide_eq_true c21, decide_eq_true c26]; simp) | exact ret_f (by rw [undB, decide_eq_false (show ¬ a = nI 0 from c1), decide_eq_false c6, decide_eq_false c11, decide_eq_false c21]; rfl) | exact ret_f (by rw [undB, decide_eq_false (show ¬ a = nI 0 from c1), decide_eq_false c6, decide_eq_false c11, decide_eq_false c26, Bool.and_false]; rfl) | exact ret_f (by rw [undB, decide_eq_false (show ¬ a = nI 0 from c1), decide_eq_false c6, decide_eq_false c16, decide_eq_false c21, Bool.and_false]; rfl) | exact ret_f (by rw [undB, decide_eq_false (show ¬ a = nI 0 from c1), decide_eq_false c6, decide_eq_false c16, decide_eq_false c26, Bool.and_false, Bool.and_false]; rfl)
          · exact HE.rf
        · refine r_iload_n dX5_isUnder_19 rfl ?_
          refine r_iconst (v := nI 5) dX5_isUnder_20 (by decide) ?_
          refine r_icmp_ne 33 dX5_isUnder_21 (by decide) (fun c21 => ?_) (fun c21 => ?_)
          · refine r_iconst (v := nI 0) dX5_isUnder_33 (by decide) ?_
            refine r_iret dX5_isUnder_34 rfl (by first | exact bI_nar _ | rfl) ?_ ?_
            · first | exact ret_t (by rw [undB, decide_eq_true (show a = nI 0 from c1)]; rfl) | exact ret_t (by rw [undB, decide_eq_true c6, Bool.true_or, Bool.or_true]) | exact ret_t (by rw [undB, decide_eq_true c11, decide_eq_true c16]; simp) | exact ret_t (by rw [undB, decide_eq_true c21, decide_eq_true c26]; simp) | exact ret_f (by rw [undB, decide_eq_false (show ¬ a = nI 0 from c1), decide_eq_false c6, decide_eq_false c11, decide_eq_false c21]; rfl) | exact ret_f (by rw [undB, decide_eq_false (show ¬ a = nI 0 from c1), decide_eq_false c6, decide_eq_false c11, decide_eq_false c26, Bool.and_false]; rfl) | exact ret_f (by rw [undB, decide_eq_false (show ¬ a = nI 0 from c1), decide_eq_false c6, decide_eq_false c16, decide_eq_false c21, Bool.and_false]; rfl) | exact ret_f (by rw [undB, decide_eq_false (show ¬ a = nI 0 from c1), decide_eq_false c6, decide_eq_false c16, decide_eq_false c26, Bool.and_false, Bool.and_false]; rfl)
            · exact HE.rf
          · refine r_iload_n dX5_isUnder_24 rfl ?_
            refine r_iconst (v := nI 2) dX5_isUnder_25 (by decide) ?_
            refine r_icmp_ne 33 dX5_isUnder_26 (by decide) (fun c26 => ?_) (fun c26 => ?_)
            · refine r_iconst (v := nI 0) dX5_isUnder_33 (by decide) ?_
              refine r_iret dX5_isUnder_34 rfl (by first | exact bI_nar _ | rfl) ?_ ?_
              · first | exact ret_t (by rw [undB, decide_eq_true (show a = nI 0 from c1)]; rfl) | exact ret_t (by rw [undB, decide_eq_true c6, Bool.true_or, Bool.or_true]) | exact ret_t (by rw [undB, decide_eq_true c11, decide_eq_true c16]; simp) | exact ret_t (by rw [undB, decide_eq_true c21, decide_eq_true c26]; simp) | exact ret_f (by rw [undB, decide_eq_false (show ¬ a = nI 0 from c1), decide_eq_false c6, decide_eq_false c11, decide_eq_false c21]; rfl) | exact ret_f (by rw [undB, decide_eq_false (show ¬ a = nI 0 from c1), decide_eq_false c6, decide_eq_false c11, decide_eq_false c26, Bool.and_false]; rfl) | exact ret_f (by rw [undB, decide_eq_false (show ¬ a = nI 0 from c1), decide_eq_false c6, decide_eq_false c16, decide_eq_false c21, Bool.and_false]; rfl) | exact ret_f (by rw [undB, decide_eq_false (show ¬ a = nI 0 from c1), decide_eq_false c6, decide_eq_false c16, decide_eq_false c26, Bool.and_false, Bool.and_false]; rfl)
              · exact HE.rf
            · refine r_iconst (v := nI 1) dX5_isUnder_29 (by decide) ?_
              refine r_goto 34 dX5_isUnder_30 (by decide) ?_
              refine r_iret dX5_isUnder_34 rfl (by first | exact bI_nar _ | rfl) ?_ ?_
              · first | exact ret_t (by rw [undB, decide_eq_true (show a = nI 0 from c1)]; rfl) | exact ret_t (by rw [undB, decide_eq_true c6, Bool.true_or, Bool.or_true]) | exact ret_t (by rw [undB, decide_eq_true c11, decide_eq_true c16]; simp) | exact ret_t (by rw [undB, decide_eq_true c21, decide_eq_true c26]; simp) | exact ret_f (by rw [undB, decide_eq_false (show ¬ a = nI 0 from c1), decide_eq_false c6, decide_eq_false c11, decide_eq_false c21]; rfl) | exact ret_f (by rw [undB, decide_eq_false (show ¬ a = nI 0 from c1), decide_eq_false c6, decide_eq_false c11, decide_eq_false c26, Bool.and_false]; rfl) | exact ret_f (by rw [undB, decide_eq_false (show ¬ a = nI 0 from c1), decide_eq_false c6, decide_eq_false c16, decide_eq_false c21, Bool.and_false]; rfl) | exact ret_f (by rw [undB, decide_eq_false (show ¬ a = nI 0 from c1), decide_eq_false c6, decide_eq_false c16, decide_eq_false c26, Bool.and_false, Bool.and_false]; rfl)
              · exact HE.rf
theorem N_as {R : RS} {ks ot as : Nat → Int32} {fl : Int32} {kp : Bool} {tc : Nat → Int32} {g : GO} {K : RS} {x k : Int32} (hw : wfR R) (hk : kp = true → ∀ i, i < 37 → ks i = enc K i) : SpQ 11 mX5_as [.ref 0, .int x, .int k] (hM (enc R) ks ot as fl kp tc g) (some (.int (o_as R K kp tc x k).1)) (qM (o_as R K kp tc x k).2 g) := by
  refine SpQ.of [some (.ref 0), some (.int x), some (.int k)] mrX5_as.1 (fun _ q => qM_len q) (Nat.le_of_ble_eq_true rfl) rfl (fun X => ?_)
  refine r_aload_n dX5_as_0 rfl ?_
  refine r_iload_n dX5_as_1 rfl ?_
  refine r_v1r (M_isPlace hw.1) (Nat.le_of_ble_eq_true rfl) mrX5_isPlace lkX5_69 rfl rfl rfl dX5_as_2 (Nat.le_of_ble_eq_true rfl) ?_
  refine r_if_eqB 15 dX5_as_5 (by decide) (fun c5 => ?_) (fun c5 => ?_)
  · refine r_aload_n dX5_as_15 rfl ?_
    refine r_ldc kX5_41 dX5_as_16 ?_
    refine r_v1r (M_finds 0 (by decide) (by decide)) (Nat.le_of_ble_eq_true rfl) mrX5_finds lkX5_66 rfl rfl rfl dX5_as_18 (Nat.le_of_ble_eq_true rfl) ?_
    refine r_iret dX5_as_21 rfl rfl ?_ ?_
    · simp only [o_as, c5, if_true, if_false, eq_self, decide_true, decide_false, not_true, not_false_eq_true, Bool.true_and, Bool.and_true, Bool.false_and, Bool.and_false, Bool.true_or, Bool.or_true, Bool.false_or, Bool.or_false, Bool.not_true, Bool.not_false]
      rfl
    · simp only [o_as, c5, if_true, if_false, eq_self, decide_true, decide_false, not_true, not_false_eq_true, Bool.true_and, Bool.and_true, Bool.false_and, Bool.and_false, Bool.true_or, Bool.or_true, Bool.false_or, Bool.or_false, Bool.not_true, Bool.not_false]
      exact ⟨ks, ot, as, fl, hk, HE.rf⟩
  · refine r_iload_n dX5_as_8 rfl ?_
    refine r_s1r M_isKind (Nat.le_of_ble_eq_true rfl) mrX5_isKind lkX5_107 dX5_as_9 (Nat.le_of_ble_eq_true rfl) ?_
    refine r_if_neB 22 dX5_as_12 (by decide) (fun c12 => ?_) (fun c12 => ?_)
    · obtain ⟨p, hp, rfl⟩ := hasB_of c5 (by have := hw.1; omega)
      have hn := hw.1
      have et : tn (nI p) = p := nI_clamp (by omega)
      refine r_aload_n dX5_as_22 rfl ?_
      refine r_iload_n dX5_as_23 rfl ?_
      refine r_iconst (v := nI 0) dX5_as_24 (by decide) ?_
      refine r_v2r (M_its0 (by omega)) (Nat.le_of_ble_eq_true rfl) mrX5_its lkX5_54 rfl rfl rfl dX5_as_25 (Nat.le_of_ble_eq_true rfl) ?_
      refine r_iload_n dX5_as_28 rfl ?_
      refine r_s2r M_isUnder (Nat.le_of_ble_eq_true rfl) mrX5_isUnder lkX5_129 dX5_as_29 (Nat.le_of_ble_eq_true rfl) ?_
      refine r_if_eqB 44 dX5_as_32 (by decide) (fun c32 => ?_) (fun c32 => ?_)
      · refine r_aload_n dX5_as_44 rfl ?_
        refine r_ldc kX5_133 dX5_as_45 ?_
        refine r_v1r (M_finds 2 (by decide) (by decide)) (Nat.le_of_ble_eq_true rfl) mrX5_finds lkX5_66 rfl rfl rfl dX5_as_47 (Nat.le_of_ble_eq_true rfl) ?_
        refine r_iret dX5_as_50 rfl rfl ?_ ?_
        · simp only [o_as, c5, c12, et, c32]
          try rfl
        · simp only [o_as, c5, c12, et, c32]
          exact ⟨ks, ot, as, fl, hk, HE.rf⟩
      · refine r_aload_n dX5_as_35 rfl ?_
        refine r_iload_n dX5_as_36 rfl ?_
        refine r_iconst (v := nI 3) dX5_as_37 (by decide) ?_
        refine r_v2r (M_its3 (by omega)) (Nat.le_of_ble_eq_true rfl) mrX5_its lkX5_54 rfl rfl rfl dX5_as_38 (Nat.le_of_ble_eq_true rfl) ?_
        refine r_goto 50 dX5_as_41 (by decide) ?_
        refine r_iret dX5_as_50 rfl rfl ?_ ?_
        · simp only [o_as, c5, c12, et, c32]
          try rfl
        · simp only [o_as, c5, c12, et, c32]
          exact ⟨ks, ot, as, fl, hk, HE.rf⟩
    · refine r_aload_n dX5_as_15 rfl ?_
      refine r_ldc kX5_41 dX5_as_16 ?_
      refine r_v1r (M_finds 0 (by decide) (by decide)) (Nat.le_of_ble_eq_true rfl) mrX5_finds lkX5_66 rfl rfl rfl dX5_as_18 (Nat.le_of_ble_eq_true rfl) ?_
      refine r_iret dX5_as_21 rfl rfl ?_ ?_
      · simp only [o_as, c5, c12, if_true, if_false, eq_self, decide_true, decide_false, not_true, not_false_eq_true, Bool.true_and, Bool.and_true, Bool.false_and, Bool.and_false, Bool.true_or, Bool.or_true, Bool.false_or, Bool.or_false, Bool.not_true, Bool.not_false]
        rfl
      · simp only [o_as, c5, c12, if_true, if_false, eq_self, decide_true, decide_false, not_true, not_false_eq_true, Bool.true_and, Bool.and_true, Bool.false_and, Bool.and_false, Bool.true_or, Bool.or_true, Bool.false_or, Bool.or_false, Bool.not_true, Bool.not_false]
        exact ⟨ks, ot, as, fl, hk, HE.rf⟩
theorem M_set51 {R : RS} {ks ot as : Nat → Int32} {fl : Int32} {kp : Bool} {tc : Nat → Int32} {g : GO} {K : RS} {x w v : Int32} {b : Bool} {X : SX} (hw : wfR R) (hk : kp = true → ∀ i, i < 37 → ks i = enc K i) (hb : b = (inR w (nI 2) (nI 4) && inR v (nI 0) (if w = nI 2 then nI 1 else if w = nI 3 then nI 9999 else nI 99))) : RunQ X 11 mX5_set 51 [some (.ref 0), some (.int x), some (.int w), some (.int v), none] [.int (bI b)] (hM (enc R) ks ot as fl kp tc g) (some (.int (o_set R K kp tc x w v).1)) (qM (o_set R K kp tc x w v).2 g) := by
  have hn := hw.1
  have key : (o_set R K kp tc x w v) = (match hasB (cnt R) x && b with
    | true => (enc5 R (tn x) (tn (w - nI 1)), (if w = nI 2 then sH R (upd (rH R) (tn x) v) else if w = nI 3 then sS R (upd (rS R) (tn x) v) else sN R (upd (rN R) (tn x) v)), K, kp, tc)
    | false => bnd R K kp tc 0) := by
    rw [o_set, hb]
    cases h1 : hasB (cnt R) x with
    | false => rfl
    | true =>
      by_cases h2 : w = nI 2
      · subst h2
        rw [if_pos rfl, if_pos rfl, if_pos rfl]
        have e : inR (nI 2) (nI 2) (nI 4) = true := by decide
        have e2 : tn (nI 2 - nI 1) = 1 := by decide
        rw [e, e2]
        cases inR v (nI 0) (nI 1) <;> rfl
      · by_cases h3 : w = nI 3
        · subst h3
          simp only [h2, if_false, if_true]
          have e : inR (nI 3) (nI 2) (nI 4) = true := by decide
          have e2 : tn (nI 3 - nI 1) = 2 := by decide
          rw [e, e2]
          cases inR v (nI 0) (nI 9999) <;> rfl
        · by_cases h4 : w = nI 4
          · subst h4
            simp only [h2, h3, if_false, if_true]
            have e : inR (nI 4) (nI 2) (nI 4) = true := by decide
            have e2 : tn (nI 4 - nI 1) = 3 := by decide
            rw [e, e2]
            cases inR v (nI 0) (nI 99) <;> rfl
          · simp only [h2, h3, h4, if_false]
            have e : inR w (nI 2) (nI 4) = false := by
              cases e9 : inR w (nI 2) (nI 4) with
              | false => rfl
              | true =>
                obtain ⟨m, m1, m2, rfl⟩ := inR_of e9 (by decide) (by decide)
                rcases (show m = 2 ∨ m = 3 ∨ m = 4 by omega) with rfl | rfl | rfl
                · exact absurd rfl h2
                · exact absurd rfl h3
                · exact absurd rfl h4
            rw [e]
            rfl
  rw [key]
  refine r_istore (lv' := [_, _, _, _, _]) dX5_set_51 (by decide) rfl ?_
  refine r_aload_n dX5_set_53 rfl ?_
  refine r_iload_n dX5_set_54 rfl ?_
  refine r_v1r (M_isPlace hn) (Nat.le_of_ble_eq_true rfl) mrX5_isPlace lkX5_69 rfl rfl rfl dX5_set_55 (Nat.le_of_ble_eq_true rfl) ?_
  refine r_if_eqB 81 dX5_set_58 (by decide) (fun c58 => ?_) (fun c58 => ?_)
  · refine r_aload_n dX5_set_81 rfl ?_
    refine r_ldc kX5_41 dX5_set_82 ?_
    refine r_v1r (M_finds 0 (by decide) (by decide)) (Nat.le_of_ble_eq_true rfl) mrX5_finds lkX5_66 rfl rfl rfl dX5_set_84 (Nat.le_of_ble_eq_true rfl) ?_
    refine r_iret dX5_set_87 rfl rfl ?_ ?_
    · first | (rw [c58, c63]; rw [et, em]; exact congrArg (fun z => some (Value.int z)) (enc_5 (by omega))) | (rw [c58, c63]; rfl) | (rw [c58]; rfl)
    · first
      | (rw [c58, c63]; rw [et]; refine ⟨ks, ot, as, fl, hk, ?_⟩; rcases (show m = 2 ∨ m = 3 ∨ m = 4 by omega) with rfl | rfl | rfl; (rw [encU1, if_pos rfl]; exact HE.rf); (rw [encU2, if_neg (by decide), if_pos rfl]; exact HE.rf); (rw [encU3, if_neg (by decide), if_neg (by decide)]; exact HE.rf))
      | (rw [c58, c63]; exact ⟨ks, ot, as, fl, hk, HE.rf⟩)
      | (rw [c58]; exact ⟨ks, ot, as, fl, hk, HE.rf⟩)
  · refine r_iload dX5_set_61 rfl ?_
    refine r_if_eqB 81 dX5_set_63 (by decide) (fun c63 => ?_) (fun c63 => ?_)
    · refine r_aload_n dX5_set_81 rfl ?_
      refine r_ldc kX5_41 dX5_set_82 ?_
      refine r_v1r (M_finds 0 (by decide) (by decide)) (Nat.le_of_ble_eq_true rfl) mrX5_finds lkX5_66 rfl rfl rfl dX5_set_84 (Nat.le_of_ble_eq_true rfl) ?_
      refine r_iret dX5_set_87 rfl rfl ?_ ?_
      · first | (rw [c58, c63]; rw [et, em]; exact congrArg (fun z => some (Value.int z)) (enc_5 (by omega))) | (rw [c58, c63]; rfl) | (rw [c58]; rfl)
      · first
        | (rw [c58, c63]; rw [et]; refine ⟨ks, ot, as, fl, hk, ?_⟩; rcases (show m = 2 ∨ m = 3 ∨ m = 4 by omega) with rfl | rfl | rfl; (rw [encU1, if_pos rfl]; exact HE.rf); (rw [encU2, if_neg (by decide), if_pos rfl]; exact HE.rf); (rw [encU3, if_neg (by decide), if_neg (by decide)]; exact HE.rf))
        | (rw [c58, c63]; exact ⟨ks, ot, as, fl, hk, HE.rf⟩)
        | (rw [c58]; exact ⟨ks, ot, as, fl, hk, HE.rf⟩)
    · obtain ⟨p, hp, rfl⟩ := hasB_of c58 (by omega)
      have et : tn (nI p) = p := nI_clamp (by omega)
      have h24 : inR w (nI 2) (nI 4) = true := by rw [c63] at hb; exact (Bool.and_eq_true _ _ ▸ hb.symm : _ ∧ _).1
      obtain ⟨m, m1, m2, rfl⟩ := inR_of h24 (by decide) (by decide)
      have em : tn (nI (m - 1)) = m - 1 := nI_clamp (by omega)
      refine r_aload_n dX5_set_66 rfl ?_
      refine r_iload_n dX5_set_67 rfl ?_
      refine r_iload_n dX5_set_68 rfl ?_
      refine r_iconst (v := nI 1) dX5_set_69 (by decide) ?_
      refine r_isub dX5_set_70 ?_
      rw [pk_sub (by omega)]
      refine r_s2r M_spot (Nat.le_of_ble_eq_true rfl) mrX5_spot lkX5_42 dX5_set_71 (Nat.le_of_ble_eq_true rfl) ?_
      refine r_iload_n dX5_set_74 rfl ?_
      refine r_v2r (M_becomes (by omega)) (Nat.le_of_ble_eq_true rfl) mrX5_becomes lkX5_63 rfl rfl rfl dX5_set_75 (Nat.le_of_ble_eq_true rfl) ?_
      refine r_goto 87 dX5_set_78 (by decide) ?_
      refine r_iret dX5_set_87 rfl rfl ?_ ?_
      · first | (rw [c58, c63]; rw [et, em]; exact congrArg (fun z => some (Value.int z)) (enc_5 (by omega))) | (rw [c58, c63]; rfl) | (rw [c58]; rfl)
      · first
        | (rw [c58, c63]; rw [et]; refine ⟨ks, ot, as, fl, hk, ?_⟩; rcases (show m = 2 ∨ m = 3 ∨ m = 4 by omega) with rfl | rfl | rfl; (rw [encU1, if_pos rfl]; exact HE.rf); (rw [encU2, if_neg (by decide), if_pos rfl]; exact HE.rf); (rw [encU3, if_neg (by decide), if_neg (by decide)]; exact HE.rf))
        | (rw [c58, c63]; exact ⟨ks, ot, as, fl, hk, HE.rf⟩)
        | (rw [c58]; exact ⟨ks, ot, as, fl, hk, HE.rf⟩)
theorem N_set {R : RS} {ks ot as : Nat → Int32} {fl : Int32} {kp : Bool} {tc : Nat → Int32} {g : GO} {K : RS} {x w v : Int32} (hw : wfR R) (hk : kp = true → ∀ i, i < 37 → ks i = enc K i) : SpQ 11 mX5_set [.ref 0, .int x, .int w, .int v] (hM (enc R) ks ot as fl kp tc g) (some (.int (o_set R K kp tc x w v).1)) (qM (o_set R K kp tc x w v).2 g) := by
  refine SpQ.of [some (.ref 0), some (.int x), some (.int w), some (.int v), none] mrX5_set.1 (fun _ q => qM_len q) (Nat.le_of_ble_eq_true rfl) rfl (fun X => ?_)
  refine r_iload_n dX5_set_0 rfl ?_
  refine r_i2l dX5_set_1 ?_
  refine r_ldc2 kX5_117 dX5_set_2 ?_
  refine r_ldc2 kX5_119 dX5_set_5 ?_
  refine r_s3r (M_in (lo := nI 2) (hi := nI 4) (by decide) (by decide)) (Nat.le_of_ble_eq_true rfl) mrX5_in lkX5_46 dX5_set_8 (Nat.le_of_ble_eq_true rfl) ?_
  refine r_if_eqB 50 dX5_set_11 (by decide) (fun c11 => ?_) (fun c11 => ?_)
  · refine r_iconst (v := nI 0) dX5_set_50 (by decide) ?_
    first
    | exact M_set51 (b := false) hw hk (by rw [c11]; rfl)
    | exact M_set51 (b := true) hw hk (by rw [c11, if_pos c19, c43]; rfl)
    | exact M_set51 (b := false) hw hk (by rw [if_pos c19, c43, Bool.and_false])
    | exact M_set51 (b := true) hw hk (by rw [c11, if_neg c19, if_pos c28, c43]; rfl)
    | exact M_set51 (b := false) hw hk (by rw [if_neg c19, if_pos c28, c43, Bool.and_false])
    | exact M_set51 (b := true) hw hk (by rw [c11, if_neg c19, if_neg c28, c43]; rfl)
    | exact M_set51 (b := false) hw hk (by rw [if_neg c19, if_neg c28, c43, Bool.and_false])
  · refine r_iload_n dX5_set_14 rfl ?_
    refine r_i2l dX5_set_15 ?_
    refine r_lconst (v := 0) dX5_set_16 (by decide) ?_
    refine r_iload_n dX5_set_17 rfl ?_
    refine r_iconst (v := nI 2) dX5_set_18 (by decide) ?_
    refine r_icmp_ne 26 dX5_set_19 (by decide) (fun c19 => ?_) (fun c19 => ?_)
    · refine r_iload_n dX5_set_26 rfl ?_
      refine r_iconst (v := nI 3) dX5_set_27 (by decide) ?_
      refine r_icmp_ne 37 dX5_set_28 (by decide) (fun c28 => ?_) (fun c28 => ?_)
      · refine r_ldc2 kX5_123 dX5_set_37 ?_
        first
        | refine r_s3r (M_in (lo := nI 0) (hi := nI 1) (by decide) (by decide)) (Nat.le_of_ble_eq_true rfl) mrX5_in lkX5_46 dX5_set_40 (Nat.le_of_ble_eq_true rfl) ?_
        | refine r_s3r (M_in (lo := nI 0) (hi := nI 9999) (by decide) (by decide)) (Nat.le_of_ble_eq_true rfl) mrX5_in lkX5_46 dX5_set_40 (Nat.le_of_ble_eq_true rfl) ?_
        | refine r_s3r (M_in (lo := nI 0) (hi := nI 99) (by decide) (by decide)) (Nat.le_of_ble_eq_true rfl) mrX5_in lkX5_46 dX5_set_40 (Nat.le_of_ble_eq_true rfl) ?_
        refine r_if_eqB 50 dX5_set_43 (by decide) (fun c43 => ?_) (fun c43 => ?_)
        · refine r_iconst (v := nI 0) dX5_set_50 (by decide) ?_
          first
          | exact M_set51 (b := false) hw hk (by rw [c11]; rfl)
          | exact M_set51 (b := true) hw hk (by rw [c11, if_pos c19, c43]; rfl)
          | exact M_set51 (b := false) hw hk (by rw [if_pos c19, c43, Bool.and_false])
          | exact M_set51 (b := true) hw hk (by rw [c11, if_neg c19, if_pos c28, c43]; rfl)
          | exact M_set51 (b := false) hw hk (by rw [if_neg c19, if_pos c28, c43, Bool.and_false])
          | exact M_set51 (b := true) hw hk (by rw [c11, if_neg c19, if_neg c28, c43]; rfl)
          | exact M_set51 (b := false) hw hk (by rw [if_neg c19, if_neg c28, c43, Bool.and_false])
        · refine r_iconst (v := nI 1) dX5_set_46 (by decide) ?_
          refine r_goto 51 dX5_set_47 (by decide) ?_
          first
          | exact M_set51 (b := false) hw hk (by rw [c11]; rfl)
          | exact M_set51 (b := true) hw hk (by rw [c11, if_pos c19, c43]; rfl)
          | exact M_set51 (b := false) hw hk (by rw [if_pos c19, c43, Bool.and_false])
          | exact M_set51 (b := true) hw hk (by rw [c11, if_neg c19, if_pos c28, c43]; rfl)
          | exact M_set51 (b := false) hw hk (by rw [if_neg c19, if_pos c28, c43, Bool.and_false])
          | exact M_set51 (b := true) hw hk (by rw [c11, if_neg c19, if_neg c28, c43]; rfl)
          | exact M_set51 (b := false) hw hk (by rw [if_neg c19, if_neg c28, c43, Bool.and_false])
      · refine r_ldc2 kX5_121 dX5_set_31 ?_
        refine r_goto 40 dX5_set_34 (by decide) ?_
        first
        | refine r_s3r (M_in (lo := nI 0) (hi := nI 1) (by decide) (by decide)) (Nat.le_of_ble_eq_true rfl) mrX5_in lkX5_46 dX5_set_40 (Nat.le_of_ble_eq_true rfl) ?_
        | refine r_s3r (M_in (lo := nI 0) (hi := nI 9999) (by decide) (by decide)) (Nat.le_of_ble_eq_true rfl) mrX5_in lkX5_46 dX5_set_40 (Nat.le_of_ble_eq_true rfl) ?_
        | refine r_s3r (M_in (lo := nI 0) (hi := nI 99) (by decide) (by decide)) (Nat.le_of_ble_eq_true rfl) mrX5_in lkX5_46 dX5_set_40 (Nat.le_of_ble_eq_true rfl) ?_
        refine r_if_eqB 50 dX5_set_43 (by decide) (fun c43 => ?_) (fun c43 => ?_)
        · refine r_iconst (v := nI 0) dX5_set_50 (by decide) ?_
          first
          | exact M_set51 (b := false) hw hk (by rw [c11]; rfl)
          | exact M_set51 (b := true) hw hk (by rw [c11, if_pos c19, c43]; rfl)
          | exact M_set51 (b := false) hw hk (by rw [if_pos c19, c43, Bool.and_false])
          | exact M_set51 (b := true) hw hk (by rw [c11, if_neg c19, if_pos c28, c43]; rfl)
          | exact M_set51 (b := false) hw hk (by rw [if_neg c19, if_pos c28, c43, Bool.and_false])
          | exact M_set51 (b := true) hw hk (by rw [c11, if_neg c19, if_neg c28, c43]; rfl)
          | exact M_set51 (b := false) hw hk (by rw [if_neg c19, if_neg c28, c43, Bool.and_false])
        · refine r_iconst (v := nI 1) dX5_set_46 (by decide) ?_
          refine r_goto 51 dX5_set_47 (by decide) ?_
          first
          | exact M_set51 (b := false) hw hk (by rw [c11]; rfl)
          | exact M_set51 (b := true) hw hk (by rw [c11, if_pos c19, c43]; rfl)
          | exact M_set51 (b := false) hw hk (by rw [if_pos c19, c43, Bool.and_false])
          | exact M_set51 (b := true) hw hk (by rw [c11, if_neg c19, if_pos c28, c43]; rfl)
          | exact M_set51 (b := false) hw hk (by rw [if_neg c19, if_pos c28, c43, Bool.and_false])
          | exact M_set51 (b := true) hw hk (by rw [c11, if_neg c19, if_neg c28, c43]; rfl)
          | exact M_set51 (b := false) hw hk (by rw [if_neg c19, if_neg c28, c43, Bool.and_false])
    · refine r_lconst (v := 1) dX5_set_22 (by decide) ?_
      refine r_goto 40 dX5_set_23 (by decide) ?_
      first
      | refine r_s3r (M_in (lo := nI 0) (hi := nI 1) (by decide) (by decide)) (Nat.le_of_ble_eq_true rfl) mrX5_in lkX5_46 dX5_set_40 (Nat.le_of_ble_eq_true rfl) ?_
      | refine r_s3r (M_in (lo := nI 0) (hi := nI 9999) (by decide) (by decide)) (Nat.le_of_ble_eq_true rfl) mrX5_in lkX5_46 dX5_set_40 (Nat.le_of_ble_eq_true rfl) ?_
      | refine r_s3r (M_in (lo := nI 0) (hi := nI 99) (by decide) (by decide)) (Nat.le_of_ble_eq_true rfl) mrX5_in lkX5_46 dX5_set_40 (Nat.le_of_ble_eq_true rfl) ?_
      refine r_if_eqB 50 dX5_set_43 (by decide) (fun c43 => ?_) (fun c43 => ?_)
      · refine r_iconst (v := nI 0) dX5_set_50 (by decide) ?_
        first
        | exact M_set51 (b := false) hw hk (by rw [c11]; rfl)
        | exact M_set51 (b := true) hw hk (by rw [c11, if_pos c19, c43]; rfl)
        | exact M_set51 (b := false) hw hk (by rw [if_pos c19, c43, Bool.and_false])
        | exact M_set51 (b := true) hw hk (by rw [c11, if_neg c19, if_pos c28, c43]; rfl)
        | exact M_set51 (b := false) hw hk (by rw [if_neg c19, if_pos c28, c43, Bool.and_false])
        | exact M_set51 (b := true) hw hk (by rw [c11, if_neg c19, if_neg c28, c43]; rfl)
        | exact M_set51 (b := false) hw hk (by rw [if_neg c19, if_neg c28, c43, Bool.and_false])
      · refine r_iconst (v := nI 1) dX5_set_46 (by decide) ?_
        refine r_goto 51 dX5_set_47 (by decide) ?_
        first
        | exact M_set51 (b := false) hw hk (by rw [c11]; rfl)
        | exact M_set51 (b := true) hw hk (by rw [c11, if_pos c19, c43]; rfl)
        | exact M_set51 (b := false) hw hk (by rw [if_pos c19, c43, Bool.and_false])
        | exact M_set51 (b := true) hw hk (by rw [c11, if_neg c19, if_pos c28, c43]; rfl)
        | exact M_set51 (b := false) hw hk (by rw [if_neg c19, if_pos c28, c43, Bool.and_false])
        | exact M_set51 (b := true) hw hk (by rw [c11, if_neg c19, if_neg c28, c43]; rfl)
        | exact M_set51 (b := false) hw hk (by rw [if_neg c19, if_neg c28, c43, Bool.and_false])
theorem N_steps {R : RS} {ks ot as : Nat → Int32} {fl : Int32} {kp : Bool} {tc : Nat → Int32} {g : GO} {K : RS} {m : Int32} (hw : wfR R) (ht : ∃ t, t ≤ 99999 ∧ rT R = nI t) (hk : kp = true → ∀ i, i < 37 → ks i = enc K i) : SpQ 11 mX5_steps [.ref 0, .int m] (hM (enc R) ks ot as fl kp tc g) (some (.int (o_steps R K kp tc m).1)) (qM (o_steps R K kp tc m).2 g) := by
  refine SpQ.of [some (.ref 0), some (.int m)] mrX5_steps.1 (fun _ q => qM_len q) (Nat.le_of_ble_eq_true rfl) rfl (fun X => ?_)
  refine r_iload_n dX5_steps_0 rfl ?_
  refine r_i2l dX5_steps_1 ?_
  refine r_lconst (v := 1) dX5_steps_2 (by decide) ?_
  refine r_ldc2 kX5_144 dX5_steps_3 ?_
  refine r_s3r (M_in (lo := nI 1) (hi := nI 200) (by decide) (by decide)) (Nat.le_of_ble_eq_true rfl) mrX5_in lkX5_46 dX5_steps_6 (Nat.le_of_ble_eq_true rfl) ?_
  refine r_if_neB 19 dX5_steps_9 (by decide) (fun c9 => ?_) (fun c9 => ?_)
  · obtain ⟨m, h1, h2, rfl⟩ := inR_of c9 (by decide) (by decide)
    have et : tn (nI m) = m := nI_clamp (by omega)
    obtain ⟨t, ht, e0⟩ := ht
    have eq1 : (rT R + nI m ≤ 99999) ↔ (rT R ≤ 99999 - nI m) := by
      rw [e0, nI_add, show (99999 : Int32) = nI 99999 from rfl, pk_sub (by omega), nI_leI (by omega) (by omega), nI_leI (by omega) (by omega)]; omega
    refine r_aload_n dX5_steps_19 rfl ?_
    refine r_getfield dX5_steps_20 gfX5_7 rfl rfl ?_
    refine r_iconst (v := nI 0) dX5_steps_23 (by decide) ?_
    refine r_ialdN dX5_steps_24 rfl (by first | decide | omega) (Nat.le_of_ble_eq_true rfl) enc0 ?_
    refine r_iload_n dX5_steps_25 rfl ?_
    refine r_iadd dX5_steps_26 ?_
    refine r_ldc kX5_146 dX5_steps_27 ?_
    refine r_icmp_le 39 dX5_steps_29 (by decide) (fun c29 => ?_) (fun c29 => ?_)
    · refine r_aload_n dX5_steps_39 rfl ?_
      refine r_iload_n dX5_steps_40 rfl ?_
      refine r_v1n (M_stepsGo hw (by omega)) (Nat.le_of_ble_eq_true rfl) mrX5_stepsGo lkX5_148 rfl rfl rfl dX5_steps_41 (Nat.le_of_ble_eq_true rfl) ?_
      refine r_aload_n dX5_steps_44 rfl ?_
      refine r_iconst (v := nI 2) dX5_steps_45 (by decide) ?_
      refine r_v1r (M_together2 (wf_stpN hw m).1) (Nat.le_of_ble_eq_true rfl) mrX5_together lkX5_97 rfl rfl rfl dX5_steps_46 (Nat.le_of_ble_eq_true rfl) ?_
      refine r_iret dX5_steps_49 rfl rfl ?_ ?_
      · rw [eq1] at c29
        simp only [o_steps, c9, c29, if_true]
        rw [et, stpN_cnt]
      · rw [eq1] at c29
        simp only [o_steps, c9, c29, if_true]
        rw [et]
        exact ⟨ks, ot, as, stpFN m R fl, hk, HE.rf⟩
    · refine r_aload_n dX5_steps_32 rfl ?_
      refine r_ldc kX5_147 dX5_steps_33 ?_
      refine r_v1r (M_finds 4 (by decide) (by decide)) (Nat.le_of_ble_eq_true rfl) mrX5_finds lkX5_66 rfl rfl rfl dX5_steps_35 (Nat.le_of_ble_eq_true rfl) ?_
      refine r_iret dX5_steps_38 rfl rfl ?_ ?_
      · rw [eq1] at c29
        simp only [o_steps, c9, c29, if_false]
        rfl
      · rw [eq1] at c29
        simp only [o_steps, c9, c29, if_false]
        exact ⟨ks, ot, as, fl, hk, HE.rf⟩
  · refine r_aload_n dX5_steps_12 rfl ?_
    refine r_ldc kX5_41 dX5_steps_13 ?_
    refine r_v1r (M_finds 0 (by decide) (by decide)) (Nat.le_of_ble_eq_true rfl) mrX5_finds lkX5_66 rfl rfl rfl dX5_steps_15 (Nat.le_of_ble_eq_true rfl) ?_
    refine r_iret dX5_steps_18 rfl rfl ?_ ?_
    · simp only [o_steps, c9, if_true, if_false, eq_self, decide_true, decide_false, not_true, not_false_eq_true, Bool.true_and, Bool.and_true, Bool.false_and, Bool.and_false, Bool.true_or, Bool.or_true, Bool.false_or, Bool.or_false, Bool.not_true, Bool.not_false]
      rfl
    · simp only [o_steps, c9, if_true, if_false, eq_self, decide_true, decide_false, not_true, not_false_eq_true, Bool.true_and, Bool.and_true, Bool.false_and, Bool.and_false, Bool.true_or, Bool.or_true, Bool.false_or, Bool.or_false, Bool.not_true, Bool.not_false]
      exact ⟨ks, ot, as, fl, hk, HE.rf⟩
theorem N_on {R : RS} {ks ot as : Nat → Int32} {fl : Int32} {kp : Bool} {tc : Nat → Int32} {g : GO} {K : RS} {x m w : Int32} (hw : wfR R) (hk : kp = true → ∀ i, i < 37 → ks i = enc K i) : SpQ 11 mX5_on [.ref 0, .int x, .int m, .int w] (hM (enc R) ks ot as fl kp tc g) (some (.int (o_on R K kp tc x m w).1)) (qM (o_on R K kp tc x m w).2 g) := by
  refine SpQ.of [some (.ref 0), some (.int x), some (.int m), some (.int w)] mrX5_on.1 (fun _ q => qM_len q) (Nat.le_of_ble_eq_true rfl) rfl (fun X => ?_)
  refine r_aload_n dX5_on_0 rfl ?_
  refine r_iload_n dX5_on_1 rfl ?_
  refine r_v1r (M_isPlace hw.1) (Nat.le_of_ble_eq_true rfl) mrX5_isPlace lkX5_69 rfl rfl rfl dX5_on_2 (Nat.le_of_ble_eq_true rfl) ?_
  refine r_if_eqB 27 dX5_on_5 (by decide) (fun c5 => ?_) (fun c5 => ?_)
  · refine r_aload_n dX5_on_27 rfl ?_
    refine r_ldc kX5_41 dX5_on_28 ?_
    refine r_v1r (M_finds 0 (by decide) (by decide)) (Nat.le_of_ble_eq_true rfl) mrX5_finds lkX5_66 rfl rfl rfl dX5_on_30 (Nat.le_of_ble_eq_true rfl) ?_
    refine r_iret dX5_on_33 rfl rfl ?_ ?_
    · simp only [o_on, c5, if_true, if_false, eq_self, decide_true, decide_false, not_true, not_false_eq_true, Bool.true_and, Bool.and_true, Bool.false_and, Bool.and_false, Bool.true_or, Bool.or_true, Bool.false_or, Bool.or_false, Bool.not_true, Bool.not_false]
      rfl
    · simp only [o_on, c5, if_true, if_false, eq_self, decide_true, decide_false, not_true, not_false_eq_true, Bool.true_and, Bool.and_true, Bool.false_and, Bool.and_false, Bool.true_or, Bool.or_true, Bool.false_or, Bool.or_false, Bool.not_true, Bool.not_false]
      exact ⟨ks, ot, as, fl, hk, HE.rf⟩
  · refine r_iload_n dX5_on_8 rfl ?_
    refine r_s1r M_isAhead (Nat.le_of_ble_eq_true rfl) mrX5_isAhead lkX5_159 dX5_on_9 (Nat.le_of_ble_eq_true rfl) ?_
    refine r_if_eqB 27 dX5_on_12 (by decide) (fun c12 => ?_) (fun c12 => ?_)
    · refine r_aload_n dX5_on_27 rfl ?_
      refine r_ldc kX5_41 dX5_on_28 ?_
      refine r_v1r (M_finds 0 (by decide) (by decide)) (Nat.le_of_ble_eq_true rfl) mrX5_finds lkX5_66 rfl rfl rfl dX5_on_30 (Nat.le_of_ble_eq_true rfl) ?_
      refine r_iret dX5_on_33 rfl rfl ?_ ?_
      · simp only [o_on, c5, c12, if_true, if_false, eq_self, decide_true, decide_false, not_true, not_false_eq_true, Bool.true_and, Bool.and_true, Bool.false_and, Bool.and_false, Bool.true_or, Bool.or_true, Bool.false_or, Bool.or_false, Bool.not_true, Bool.not_false]
        rfl
      · simp only [o_on, c5, c12, if_true, if_false, eq_self, decide_true, decide_false, not_true, not_false_eq_true, Bool.true_and, Bool.and_true, Bool.false_and, Bool.and_false, Bool.true_or, Bool.or_true, Bool.false_or, Bool.or_false, Bool.not_true, Bool.not_false]
        exact ⟨ks, ot, as, fl, hk, HE.rf⟩
    · refine r_iload_n dX5_on_15 rfl ?_
      refine r_i2l dX5_on_16 ?_
      refine r_lconst (v := 0) dX5_on_17 (by decide) ?_
      refine r_ldc2 kX5_117 dX5_on_18 ?_
      refine r_s3r (M_in (lo := nI 0) (hi := nI 2) (by decide) (by decide)) (Nat.le_of_ble_eq_true rfl) mrX5_in lkX5_46 dX5_on_21 (Nat.le_of_ble_eq_true rfl) ?_
      refine r_if_neB 34 dX5_on_24 (by decide) (fun c24 => ?_) (fun c24 => ?_)
      · obtain ⟨p, hp, rfl⟩ := hasB_of c5 (by have := hw.1; omega)
        have hn := hw.1
        have et : tn (nI p) = p := nI_clamp (by omega)
        obtain ⟨m, h1, h2, rfl⟩ := inR_of c12 (by decide) (by decide)
        have em : tn (nI m) = m := nI_clamp (by omega)
        obtain ⟨z, z1, z2, rfl⟩ := inR_of c24 (by decide) (by decide)
        refine r_aload_n dX5_on_34 rfl ?_
        refine r_iload_n dX5_on_35 rfl ?_
        refine r_iload_n dX5_on_36 rfl ?_
        refine r_iconst (v := nI 1) dX5_on_37 (by decide) ?_
        refine r_iadd dX5_on_38 ?_
        rw [nI_add]
        refine r_s2r M_spot (Nat.le_of_ble_eq_true rfl) mrX5_spot lkX5_42 dX5_on_39 (Nat.le_of_ble_eq_true rfl) ?_
        refine r_iload_n dX5_on_42 rfl ?_
        refine r_v2r (M_behind hw (by omega) (by omega)) (Nat.le_of_ble_eq_true rfl) mrX5_behind lkX5_162 rfl rfl rfl dX5_on_43 (Nat.le_of_ble_eq_true rfl) ?_
        refine r_iret dX5_on_46 rfl rfl ?_ ?_
        · simp only [o_on, c5, c12, c24, et, em]
          rcases (show z = 0 ∨ z = 1 ∨ z = 2 by omega) with rfl | rfl | rfl
          · rw [encH]; rfl
          · rw [encS]; rfl
          · rw [encN]; rfl
        · simp only [o_on, c5, c12, c24]
          exact ⟨ks, ot, enc R, stpFN m R fl, hk, HE.rf⟩
      · refine r_aload_n dX5_on_27 rfl ?_
        refine r_ldc kX5_41 dX5_on_28 ?_
        refine r_v1r (M_finds 0 (by decide) (by decide)) (Nat.le_of_ble_eq_true rfl) mrX5_finds lkX5_66 rfl rfl rfl dX5_on_30 (Nat.le_of_ble_eq_true rfl) ?_
        refine r_iret dX5_on_33 rfl rfl ?_ ?_
        · simp only [o_on, c5, c12, c24, if_true, if_false, eq_self, decide_true, decide_false, not_true, not_false_eq_true, Bool.true_and, Bool.and_true, Bool.false_and, Bool.and_false, Bool.true_or, Bool.or_true, Bool.false_or, Bool.or_false, Bool.not_true, Bool.not_false]
          rfl
        · simp only [o_on, c5, c12, c24, if_true, if_false, eq_self, decide_true, decide_false, not_true, not_false_eq_true, Bool.true_and, Bool.and_true, Bool.false_and, Bool.and_false, Bool.true_or, Bool.or_true, Bool.false_or, Bool.or_false, Bool.not_true, Bool.not_false]
          exact ⟨ks, ot, as, fl, hk, HE.rf⟩
theorem N_falls {R : RS} {ks ot as : Nat → Int32} {fl : Int32} {kp : Bool} {tc : Nat → Int32} {g : GO} {K : RS} {m : Int32} (hw : wfR R) (hk : kp = true → ∀ i, i < 37 → ks i = enc K i) : SpQ 11 mX5_falls [.ref 0, .int m] (hM (enc R) ks ot as fl kp tc g) (some (.int (o_falls R K kp tc m).1)) (qM (o_falls R K kp tc m).2 g) := by
  refine SpQ.of [some (.ref 0), some (.int m)] mrX5_falls.1 (fun _ q => qM_len q) (Nat.le_of_ble_eq_true rfl) rfl (fun X => ?_)
  refine r_iload_n dX5_falls_0 rfl ?_
  refine r_s1r M_isAhead (Nat.le_of_ble_eq_true rfl) mrX5_isAhead lkX5_159 dX5_falls_1 (Nat.le_of_ble_eq_true rfl) ?_
  refine r_if_eqB 16 dX5_falls_4 (by decide) (fun c4 => ?_) (fun c4 => ?_)
  · refine r_aload_n dX5_falls_16 rfl ?_
    refine r_ldc kX5_41 dX5_falls_17 ?_
    refine r_v1r (M_finds 0 (by decide) (by decide)) (Nat.le_of_ble_eq_true rfl) mrX5_finds lkX5_66 rfl rfl rfl dX5_falls_19 (Nat.le_of_ble_eq_true rfl) ?_
    refine r_iret dX5_falls_22 rfl rfl ?_ ?_
    · first | (simp only [o_falls, c4, if_true, if_false, eq_self, decide_true, decide_false, not_true, not_false_eq_true, Bool.true_and, Bool.and_true, Bool.false_and, Bool.and_false, Bool.true_or, Bool.or_true, Bool.false_or, Bool.or_false, Bool.not_true, Bool.not_false]; rw [em]; done) | (simp only [o_falls, c4, if_true, if_false, eq_self, decide_true, decide_false, not_true, not_false_eq_true, Bool.true_and, Bool.and_true, Bool.false_and, Bool.and_false, Bool.true_or, Bool.or_true, Bool.false_or, Bool.or_false, Bool.not_true, Bool.not_false]; rfl)
    · first | (simp only [o_falls, c4, if_true, if_false, eq_self, decide_true, decide_false, not_true, not_false_eq_true, Bool.true_and, Bool.and_true, Bool.false_and, Bool.and_false, Bool.true_or, Bool.or_true, Bool.false_or, Bool.or_false, Bool.not_true, Bool.not_false]; exact ⟨ks, ot, enc R, stpFN m R fl, hk, HE.rf⟩) | (simp only [o_falls, c4, if_true, if_false, eq_self, decide_true, decide_false, not_true, not_false_eq_true, Bool.true_and, Bool.and_true, Bool.false_and, Bool.and_false, Bool.true_or, Bool.or_true, Bool.false_or, Bool.or_false, Bool.not_true, Bool.not_false]; exact ⟨ks, ot, as, fl, hk, HE.rf⟩)
  · obtain ⟨m, h1, h2, rfl⟩ := inR_of c4 (by decide) (by decide)
    have em : tn (nI m) = m := nI_clamp (by omega)
    refine r_aload_n dX5_falls_7 rfl ?_
    refine r_iconst (v := (-1)) dX5_falls_8 (by decide) ?_
    refine r_iload_n dX5_falls_9 rfl ?_
    refine r_v2r (M_behindT hw (by omega)) (Nat.le_of_ble_eq_true rfl) mrX5_behind lkX5_162 rfl rfl rfl dX5_falls_10 (Nat.le_of_ble_eq_true rfl) ?_
    refine r_goto 22 dX5_falls_13 (by decide) ?_
    refine r_iret dX5_falls_22 rfl rfl ?_ ?_
    · first | (simp only [o_falls, c4, if_true, if_false, eq_self, decide_true, decide_false, not_true, not_false_eq_true, Bool.true_and, Bool.and_true, Bool.false_and, Bool.and_false, Bool.true_or, Bool.or_true, Bool.false_or, Bool.or_false, Bool.not_true, Bool.not_false]; rw [em]; done) | (simp only [o_falls, c4, if_true, if_false, eq_self, decide_true, decide_false, not_true, not_false_eq_true, Bool.true_and, Bool.and_true, Bool.false_and, Bool.and_false, Bool.true_or, Bool.or_true, Bool.false_or, Bool.or_false, Bool.not_true, Bool.not_false]; rfl)
    · first | (simp only [o_falls, c4, if_true, if_false, eq_self, decide_true, decide_false, not_true, not_false_eq_true, Bool.true_and, Bool.and_true, Bool.false_and, Bool.and_false, Bool.true_or, Bool.or_true, Bool.false_or, Bool.or_false, Bool.not_true, Bool.not_false]; exact ⟨ks, ot, enc R, stpFN m R fl, hk, HE.rf⟩) | (simp only [o_falls, c4, if_true, if_false, eq_self, decide_true, decide_false, not_true, not_false_eq_true, Bool.true_and, Bool.and_true, Bool.false_and, Bool.and_false, Bool.true_or, Bool.or_true, Bool.false_or, Bool.or_false, Bool.not_true, Bool.not_false]; exact ⟨ks, ot, as, fl, hk, HE.rf⟩)

