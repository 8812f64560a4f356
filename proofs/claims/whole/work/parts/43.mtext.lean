/-! the reference: feed, wipe, count -/
theorem k255 : bn (nI 255) = 2 ^ 8 - 1 := by decide +kernel
theorem and_255 (y : Int32) : y &&& nI 255 = nI (y.toBitVec.toNat % 256) := by
  apply Int32.toBitVec_inj.mp
  apply BitVec.eq_of_toNat_eq
  rw [pk_tn (by omega)]
  show bn (y &&& nI 255) = _
  rw [bn_and, k255, Nat.and_two_pow_sub_one_eq_mod]
theorem upd_nI (T : Nat → Nat) (i v : Nat) : upd (fun i => nI (T i)) i (nI v) = fun j => nI (updN T i v j) := by
  funext j
  simp only [upd, updN]
  split <;> rfl
theorem bI_n (b : Bool) : bI b = nI b.toNat := by cases b <;> rfl
theorem P_feed {R K : RS} {ks ot as : Nat → Int32} {fl : Int32} {kp : Bool} {tc : Nat → Int32} {n : Nat} {T : Nat → Nat} {Z : Nat → SHT} {a : Nat} {b v : Int32} {w : Bool} {x m : Int32} (hn : n ≤ 120) (hk : kp = true → ∀ i, i < 37 → ks i = enc K i) : SpQ 11 mX5_feed [.ref 0, .int x, .int m] (hP (enc R) ks ot as fl kp tc (nI n, nI a, b, v, w) T) (some (.int (o_feed ((R, K, kp, tc), (n, T), Z) x m).1)) (qP (o_feed ((R, K, kp, tc), (n, T), Z) x m).2) := by
  refine SpQ.of [some (.ref 0), some (.int x), some (.int m), none] mrX5_feed.1 (fun _ q => qP_len q) (Nat.le_of_ble_eq_true rfl) rfl (fun X => ?_)
  have E : ∀ (m : Int32) (n : Nat) (T : Nat → Nat), RunQ X 11 mX5_feed 41 [some (.ref 0), some (.int x), some (.int m), some (.int (-1))] [] (hP (enc R) ks ot as fl kp tc (nI n, nI a, b, v, w) T) (some (.int (nI n))) (qP ((R, K, kp, tc), (n, T), Z)) := by
    intro m n T
    refine r_iload_n dX5_feed_41 rfl ?_
    refine r_if_lt 80 dX5_feed_42 (by decide) (fun c42 => ?_) (fun c42 => ?_)
    · refine r_aload_n dX5_feed_80 rfl ?_
      refine r_getfield dX5_feed_81 gfX5_183 rfl rfl ?_
      refine r_iret dX5_feed_84 rfl rfl ?_ ?_
      · rfl
      · exact ⟨ks, ot, as, fl, a, b, v, w, hk, HE.rf⟩
    · exact absurd (by decide) c42
  have L : ∀ (m : Int32) (k n : Nat) (T : Nat → Nat), n + (k + 1) ≤ 120 → RunQ X 11 mX5_feed 41 [some (.ref 0), some (.int x), some (.int m), some (.int (nI k))] [] (hP (enc R) ks ot as fl kp tc (nI n, nI a, b, v, w) T) (some (.int (nI (fdT x (k + 1) (n, T)).1))) (qP ((R, K, kp, tc), fdT x (k + 1) (n, T), Z)) := by
    intro m k
    induction k with
    | zero =>
      intro n T hk
      refine r_iload_n dX5_feed_41 rfl ?_
      refine r_if_lt 80 dX5_feed_42 (by decide) (fun c42 => ?_) (fun c42 => ?_)
      · exact absurd c42 (nI_pos (by omega))
      · refine r_aload_n dX5_feed_45 rfl ?_
        refine r_getfield dX5_feed_46 gfX5_25 rfl rfl ?_
        refine r_aload_n dX5_feed_49 rfl ?_
        refine r_getfield dX5_feed_50 gfX5_183 rfl rfl ?_
        refine r_iload_n dX5_feed_53 rfl ?_
        refine r_bipush (v := nI 8) dX5_feed_54 (by decide) ?_
        refine r_iload_n dX5_feed_56 rfl ?_
        refine r_imul dX5_feed_57 ?_
        rw [pk_mul]
        refine r_ishr dX5_feed_58 ?_
        refine r_sipush (v := nI 255) dX5_feed_59 (by decide) ?_
        refine r_iand dX5_feed_62 ?_
        rw [and_255]
        refine r_iastN (h' := [_, _, _, _, _, _, _]) dX5_feed_63 rfl (by omega) (Nat.le_of_ble_eq_true rfl) rfl ?_
        rw [upd_nI]
        refine r_aload_n dX5_feed_64 rfl ?_
        refine r_dup dX5_feed_65 rfl ?_
        refine r_getfield dX5_feed_66 gfX5_183 rfl rfl ?_
        refine r_iconst (v := nI 1) dX5_feed_69 (by decide) ?_
        refine r_iadd dX5_feed_70 ?_
        rw [nI_add]
        refine r_putfield (fs' := [_, _, _, _, _, _, _, _, _, _, _, _, _, _, _, _, _]) (h' := [_, _, _, _, _, _, _]) dX5_feed_71 pfX5_183 rfl (Nat.le_of_ble_eq_true rfl) (fun _ => rfl) rfl rfl rfl rfl ?_
        refine r_iinc (lv' := [_, _, _, _]) dX5_feed_74 (by decide) rfl (show nI 0 + Int32.ofInt (-1) = -1 by decide) rfl ?_
        refine r_goto 41 dX5_feed_77 (by decide) ?_
        exact E m (n + 1) (updN T n (byt x 0))
    | succ k ih =>
      intro n T hk
      refine r_iload_n dX5_feed_41 rfl ?_
      refine r_if_lt 80 dX5_feed_42 (by decide) (fun c42 => ?_) (fun c42 => ?_)
      · exact absurd c42 (nI_pos (by omega))
      · refine r_aload_n dX5_feed_45 rfl ?_
        refine r_getfield dX5_feed_46 gfX5_25 rfl rfl ?_
        refine r_aload_n dX5_feed_49 rfl ?_
        refine r_getfield dX5_feed_50 gfX5_183 rfl rfl ?_
        refine r_iload_n dX5_feed_53 rfl ?_
        refine r_bipush (v := nI 8) dX5_feed_54 (by decide) ?_
        refine r_iload_n dX5_feed_56 rfl ?_
        refine r_imul dX5_feed_57 ?_
        rw [pk_mul]
        refine r_ishr dX5_feed_58 ?_
        refine r_sipush (v := nI 255) dX5_feed_59 (by decide) ?_
        refine r_iand dX5_feed_62 ?_
        rw [and_255]
        refine r_iastN (h' := [_, _, _, _, _, _, _]) dX5_feed_63 rfl (by omega) (Nat.le_of_ble_eq_true rfl) rfl ?_
        rw [upd_nI]
        refine r_aload_n dX5_feed_64 rfl ?_
        refine r_dup dX5_feed_65 rfl ?_
        refine r_getfield dX5_feed_66 gfX5_183 rfl rfl ?_
        refine r_iconst (v := nI 1) dX5_feed_69 (by decide) ?_
        refine r_iadd dX5_feed_70 ?_
        rw [nI_add]
        refine r_putfield (fs' := [_, _, _, _, _, _, _, _, _, _, _, _, _, _, _, _, _]) (h' := [_, _, _, _, _, _, _]) dX5_feed_71 pfX5_183 rfl (Nat.le_of_ble_eq_true rfl) (fun _ => rfl) rfl rfl rfl rfl ?_
        refine r_iinc (lv' := [_, _, _, _]) dX5_feed_74 (by decide) rfl (by first | exact dec1 _ | exact dec1_ _) rfl ?_
        refine r_goto 41 dX5_feed_77 (by decide) ?_
        exact ih (n + 1) (updN T n (byt x (k + 1))) (by omega)
  refine r_iload_n dX5_feed_0 rfl ?_
  refine r_i2l dX5_feed_1 ?_
  refine r_lconst (v := 1) dX5_feed_2 (by decide) ?_
  refine r_ldc2 kX5_119 dX5_feed_3 ?_
  refine r_s3r (M_in (lo := nI 1) (hi := nI 4) (by decide) (by decide)) (Nat.le_of_ble_eq_true rfl) mrX5_in lkX5_46 dX5_feed_6 (Nat.le_of_ble_eq_true rfl) ?_
  refine r_if_neB 19 dX5_feed_9 (by decide) (fun c9 => ?_) (fun c9 => ?_)
  · obtain ⟨k, h1, h2, rfl⟩ := inR_of c9 (by decide) (by decide)
    have em : tn (nI k) = k := nI_clamp (by omega)
    refine r_aload_n dX5_feed_19 rfl ?_
    refine r_getfield dX5_feed_20 gfX5_183 rfl rfl ?_
    refine r_iload_n dX5_feed_23 rfl ?_
    refine r_iadd dX5_feed_24 ?_
    rw [nI_add]
    refine r_bipush (v := nI 120) dX5_feed_25 (by decide) ?_
    refine r_icmp_le 37 dX5_feed_27 (by decide) (fun c27 => ?_) (fun c27 => ?_)
    · refine r_iload_n dX5_feed_37 rfl ?_
      refine r_iconst (v := nI 1) dX5_feed_38 (by decide) ?_
      refine r_isub dX5_feed_39 ?_
      rw [pk_sub (by omega)]
      refine r_istore_n (lv' := [_, _, _, _]) dX5_feed_40 (by decide) rfl ?_
      have hle := (nI_leI (a := n + k) (b := 120) (by omega) (by omega)).mp c27
      rw [o_feed, c9]
      dsimp only
      rw [em, if_neg (by omega)]
      have e := L (nI k) (k - 1) n T (by omega)
      rw [show k - 1 + 1 = k by omega] at e
      exact e
    · refine r_aload_n dX5_feed_30 rfl ?_
      refine r_ldc kX5_110 dX5_feed_31 ?_
      refine r_v1r ((M_finds 1 (by decide) (by decide)).pre rfl (Nat.le_of_ble_eq_true rfl)) (Nat.le_of_ble_eq_true rfl) mrX5_finds lkX5_66 rfl rfl rfl dX5_feed_33 (Nat.le_of_ble_eq_true rfl) ?_
      refine r_iret dX5_feed_36 rfl rfl ?_ ?_
      · rw [o_feed, c9]
        dsimp only
        rw [em, if_pos (by have := show ¬ n + k ≤ 120 from fun z => c27 (nI_le z (by decide)); omega)]; rfl
      · rw [o_feed, c9]
        dsimp only
        rw [em, if_pos (by have := show ¬ n + k ≤ 120 from fun z => c27 (nI_le z (by decide)); omega)]
        exact ⟨ks, ot, as, fl, a, b, v, w, hk, HE.rf⟩
  · refine r_aload_n dX5_feed_12 rfl ?_
    refine r_ldc kX5_41 dX5_feed_13 ?_
    refine r_v1r ((M_finds 0 (by decide) (by decide)).pre rfl (Nat.le_of_ble_eq_true rfl)) (Nat.le_of_ble_eq_true rfl) mrX5_finds lkX5_66 rfl rfl rfl dX5_feed_15 (Nat.le_of_ble_eq_true rfl) ?_
    refine r_iret dX5_feed_18 rfl rfl ?_ ?_
    · rw [o_feed, c9]; rfl
    · rw [o_feed, c9]
      exact ⟨ks, ot, as, fl, a, b, v, w, hk, HE.rf⟩
theorem P_wipe {R K : RS} {ks ot as : Nat → Int32} {fl : Int32} {kp : Bool} {tc : Nat → Int32} {n : Nat} {T : Nat → Nat} {Z : Nat → SHT} {a : Nat} {b v : Int32} {w : Bool} (hk : kp = true → ∀ i, i < 37 → ks i = enc K i) : SpQ 11 mX5_wipe [.ref 0] (hP (enc R) ks ot as fl kp tc (nI n, nI a, b, v, w) T) (some (.int (o_wipe ((R, K, kp, tc), (n, T), Z)).1)) (qP (o_wipe ((R, K, kp, tc), (n, T), Z)).2) := by
  refine SpQ.of [some (.ref 0), none] mrX5_wipe.1 (fun _ q => qP_len q) (Nat.le_of_ble_eq_true rfl) rfl (fun X => ?_)
  refine r_aload_n dX5_wipe_0 rfl ?_
  refine r_getfield dX5_wipe_1 gfX5_183 rfl rfl ?_
  refine r_istore_n (lv' := [_, _]) dX5_wipe_4 (by decide) rfl ?_
  refine r_aload_n dX5_wipe_5 rfl ?_
  refine r_iconst (v := nI 0) dX5_wipe_6 (by decide) ?_
  refine r_putfield (fs' := [_, _, _, _, _, _, _, _, _, _, _, _, _, _, _, _, _]) (h' := [_, _, _, _, _, _, _]) dX5_wipe_7 pfX5_183 rfl (Nat.le_of_ble_eq_true rfl) (fun _ => rfl) rfl rfl rfl rfl ?_
  refine r_iload_n dX5_wipe_10 rfl ?_
  refine r_iret dX5_wipe_11 rfl rfl ?_ ?_
  · rfl
  · exact ⟨ks, ot, as, fl, a, b, v, w, hk, HE.rf⟩
theorem M_rootsMany {R : RS} {ks ot as : Nat → Int32} {fl : Int32} {kp : Bool} {tc : Nat → Int32} {g : GO} (q : Nat → Nat) (hq : ∀ i, (bt (rR R) i).toNat = q i) : Sp 0 mX5_rootsMany [.ref 0] (hM (enc R) ks ot as fl kp tc g) (some (.int (nI (smB q 30)))) (hM (enc R) ks ot as fl kp tc g) := by
  refine Sp.of [some (.ref 0), none, none] mrX5_rootsMany.1 rfl (Nat.le_of_ble_eq_true rfl) rfl (fun X => ?_)
  have L : ∀ (k c : Nat), c + k = 30 → Run X 0 mX5_rootsMany 4 [some (.ref 0), some (.int (nI (smB q c))), some (.int (nI c))] [] (hM (enc R) ks ot as fl kp tc g) (some (.int (nI (smB q 30)))) (hM (enc R) ks ot as fl kp tc g) := by
    intro k
    induction k with
    | zero =>
      intro c hc
      obtain rfl : c = 30 := by omega
      refine r_iload_n dX5_rootsMany_4 rfl ?_
      refine r_bipush (v := nI 30) dX5_rootsMany_5 (by decide) ?_
      refine r_icmp_ge 29 dX5_rootsMany_7 (by decide) (fun c7 => ?_) (fun c7 => ?_)
      · refine r_iload_n dX5_rootsMany_29 rfl ?_
        refine r_iret dX5_rootsMany_30 rfl rfl ?_ ?_
        · rfl
        · exact HE.rf
      · exact absurd (nI_le (by omega) (by omega)) c7
    | succ k ih =>
      intro c hc
      refine r_iload_n dX5_rootsMany_4 rfl ?_
      refine r_bipush (v := nI 30) dX5_rootsMany_5 (by decide) ?_
      refine r_icmp_ge 29 dX5_rootsMany_7 (by decide) (fun c7 => ?_) (fun c7 => ?_)
      · exact absurd c7 (nI_ge (by omega) (by omega))
      · refine r_iload_n dX5_rootsMany_10 rfl ?_
        refine r_aload_n dX5_rootsMany_11 rfl ?_
        refine r_getfield dX5_rootsMany_12 gfX5_7 rfl rfl ?_
        refine r_iconst (v := nI 2) dX5_rootsMany_15 (by decide) ?_
        refine r_ialdN dX5_rootsMany_16 rfl (by first | decide | omega) (Nat.le_of_ble_eq_true rfl) enc2 ?_
        refine r_iload_n dX5_rootsMany_17 rfl ?_
        refine r_ishr dX5_rootsMany_18 ?_
        refine r_iconst (v := nI 1) dX5_rootsMany_19 (by decide) ?_
        refine r_iand dX5_rootsMany_20 ?_
        rw [shr_b _ (by omega), bI_n, hq]
        refine r_iadd dX5_rootsMany_21 ?_
        rw [nI_add]
        refine r_istore_n (lv' := [_, _, _]) dX5_rootsMany_22 (by decide) rfl ?_
        refine r_iinc (lv' := [_, _, _]) dX5_rootsMany_23 (by decide) rfl (by first | exact inc1 _ | exact inc1_ _) rfl ?_
        refine r_goto 4 dX5_rootsMany_26 (by decide) ?_
        exact ih (c + 1) (by omega)
  refine r_iconst (v := nI 0) dX5_rootsMany_0 (by decide) ?_
  refine r_istore_n (lv' := [_, _, _]) dX5_rootsMany_1 (by decide) rfl ?_
  refine r_iconst (v := nI 0) dX5_rootsMany_2 (by decide) ?_
  refine r_istore_n (lv' := [_, _, _]) dX5_rootsMany_3 (by decide) rfl ?_
  exact L 30 0 rfl
/-- the roots lie on the path -/
def rtO (R : RS) : Prop := bt (rR R) 30 = false ∧ bt (rR R) 31 = false
theorem P_count {R K : RS} {ks ot as : Nat → Int32} {fl : Int32} {kp : Bool} {tc : Nat → Int32} {n : Nat} {T : Nat → Nat} {Z : Nat → SHT} {a : Nat} {b v : Int32} {w : Bool} {u : Int32} (hw : wfR R) (hr : rtO R) (hk : kp = true → ∀ i, i < 37 → ks i = enc K i) : SpQ 11 mX5_count [.ref 0, .int u] (hP (enc R) ks ot as fl kp tc (nI n, nI a, b, v, w) T) (some (.int (o_count ((R, K, kp, tc), (n, T), Z) u).1)) (qP (o_count ((R, K, kp, tc), (n, T), Z) u).2) := by
  have e9 := btS_30 (x := rR R) _ (fun i => rfl) hr.1 hr.2
  refine SpQ.of [some (.ref 0), some (.int u)] mrX5_count.1 (fun _ q => qP_len q) (Nat.le_of_ble_eq_true rfl) rfl (fun X => ?_)
  refine r_iload_n dX5_count_0 rfl ?_
  refine r_tsw 55 dX5_count_1 (by decide) (fun v1 h1 g1 e1 => ?_) (fun e1 => ?_)
  · rcases (show v1 = 0 ∨ v1 = 1 ∨ v1 = 2 ∨ v1 = 3 by omega) with rfl | rfl | rfl | rfl
    · refine ⟨31, 32, by decide, by decide, ?_⟩
      have c1 := toI_eq 0 e1 (by decide)
      refine r_aload_n dX5_count_32 rfl ?_
      refine r_getfield dX5_count_33 gfX5_7 rfl rfl ?_
      refine r_iconst (v := nI 1) dX5_count_36 (by decide) ?_
      refine r_ialdN dX5_count_37 rfl (by first | decide | omega) (Nat.le_of_ble_eq_true rfl) enc1 ?_
      refine r_iret dX5_count_38 rfl rfl ?_ ?_
      · subst c1; rfl
      · subst c1
        exact ⟨ks, ot, as, fl, a, b, v, w, hk, HE.rf⟩
    · refine ⟨38, 39, by decide, by decide, ?_⟩
      have c1 := toI_eq 1 e1 (by decide)
      refine r_aload_n dX5_count_39 rfl ?_
      refine r_getfield dX5_count_40 gfX5_183 rfl rfl ?_
      refine r_iret dX5_count_43 rfl rfl ?_ ?_
      · subst c1; rfl
      · subst c1
        exact ⟨ks, ot, as, fl, a, b, v, w, hk, HE.rf⟩
    · refine ⟨43, 44, by decide, by decide, ?_⟩
      have c1 := toI_eq 2 e1 (by decide)
      refine r_aload_n dX5_count_44 rfl ?_
      refine r_v0r ((M_rootsMany _ (fun i => rfl)).pre rfl (Nat.le_of_ble_eq_true rfl)) (Nat.le_of_ble_eq_true rfl) mrX5_rootsMany lkX5_305 rfl rfl rfl dX5_count_45 (Nat.le_of_ble_eq_true rfl) ?_
      refine r_iret dX5_count_48 rfl rfl ?_ ?_
      · subst c1; rw [← e9]; rfl
      · subst c1
        exact ⟨ks, ot, as, fl, a, b, v, w, hk, HE.rf⟩
    · refine ⟨48, 49, by decide, by decide, ?_⟩
      have c1 := toI_eq 3 e1 (by decide)
      refine r_aload_n dX5_count_49 rfl ?_
      refine r_iconst (v := nI 3) dX5_count_50 (by decide) ?_
      refine r_v1r ((M_together3 hw.1).pre rfl (Nat.le_of_ble_eq_true rfl)) (Nat.le_of_ble_eq_true rfl) mrX5_together lkX5_97 rfl rfl rfl dX5_count_51 (Nat.le_of_ble_eq_true rfl) ?_
      refine r_iret dX5_count_54 rfl rfl ?_ ?_
      · subst c1; rfl
      · subst c1
        exact ⟨ks, ot, as, fl, a, b, v, w, hk, HE.rf⟩
  · have c1_0 := toI_ne 0 e1 (by decide)
    have c1_1 := toI_ne 1 e1 (by decide)
    have c1_2 := toI_ne 2 e1 (by decide)
    have c1_3 := toI_ne 3 e1 (by decide)
    refine r_aload_n dX5_count_55 rfl ?_
    refine r_ldc kX5_41 dX5_count_56 ?_
    refine r_v1r ((M_finds 0 (by decide) (by decide)).pre rfl (Nat.le_of_ble_eq_true rfl)) (Nat.le_of_ble_eq_true rfl) mrX5_finds lkX5_66 rfl rfl rfl dX5_count_58 (Nat.le_of_ble_eq_true rfl) ?_
    refine r_iret dX5_count_61 rfl rfl ?_ ?_
    · rw [o_count, if_neg c1_0, if_neg c1_1, if_neg c1_2, if_neg c1_3]; rfl
    · rw [o_count, if_neg c1_0, if_neg c1_1, if_neg c1_2, if_neg c1_3]
      exact ⟨ks, ot, as, fl, a, b, v, w, hk, HE.rf⟩

