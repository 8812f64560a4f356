/-! the reference: order, least, clear, nerve, worst, image, undo, tear, status -/
theorem N_order {R : RS} {ks ot as : Nat → Int32} {fl : Int32} {kp : Bool} {tc : Nat → Int32} {g : GO} {K : RS} {m : Int32} (hw : wfR R) (hk : kp = true → ∀ i, i < 37 → ks i = enc K i) : SpQ 11 mX5_order [.ref 0, .int m] (hM (enc R) ks ot as fl kp tc g) (some (.int (o_order R K kp tc m).1)) (qM (o_order R K kp tc m).2 g) := by
  refine SpQ.of [some (.ref 0), some (.int m), none, none, none, none, none] mrX5_order.1 (fun _ q => qM_len q) (Nat.le_of_ble_eq_true rfl) rfl (fun X => ?_)
  have E : ∀ (m : Nat) (y : Int32) (as : Nat → Int32) (fl : Int32), RunQ X 11 mX5_order 122 [some (.ref 0), some (.int (nI m)), some (.int y), none, none, none, none] [] (hM (enc R) ks ot as fl kp tc g) (some (.int (neg R K kp tc y).1)) (qM (neg R K kp tc y).2 g) := by
    intro m y as fl
    refine r_iload_n dX5_order_122 rfl ?_
    refine r_if_ge 135 dX5_order_123 (by decide) (fun c123 => ?_) (fun c123 => ?_)
    · refine r_iload_n dX5_order_135 rfl ?_
      refine r_iret dX5_order_136 rfl rfl ?_ ?_
      · first | (simp only [neg, c123, if_true, if_false, eq_self, decide_true, decide_false, not_true, not_false_eq_true, Bool.true_and, Bool.and_true, Bool.false_and, Bool.and_false, Bool.true_or, Bool.or_true, Bool.false_or, Bool.or_false, Bool.not_true, Bool.not_false]; done) | (simp only [neg, c123, if_true, if_false, eq_self, decide_true, decide_false, not_true, not_false_eq_true, Bool.true_and, Bool.and_true, Bool.false_and, Bool.and_false, Bool.true_or, Bool.or_true, Bool.false_or, Bool.or_false, Bool.not_true, Bool.not_false]; rfl)
      · simp only [neg, c123, if_true, if_false, eq_self, decide_true, decide_false, not_true, not_false_eq_true, Bool.true_and, Bool.and_true, Bool.false_and, Bool.and_false, Bool.true_or, Bool.or_true, Bool.false_or, Bool.or_false, Bool.not_true, Bool.not_false]
        exact ⟨ks, ot, as, fl, hk, HE.rf⟩
    · refine r_aload_n dX5_order_126 rfl ?_
      refine r_ldc kX5_165 dX5_order_127 ?_
      refine r_v1r (M_finds 3 (by decide) (by decide)) (Nat.le_of_ble_eq_true rfl) mrX5_finds lkX5_66 rfl rfl rfl dX5_order_129 (Nat.le_of_ble_eq_true rfl) ?_
      refine r_goto 136 dX5_order_132 (by decide) ?_
      refine r_iret dX5_order_136 rfl rfl ?_ ?_
      · first | (simp only [neg, c123, if_true, if_false, eq_self, decide_true, decide_false, not_true, not_false_eq_true, Bool.true_and, Bool.and_true, Bool.false_and, Bool.and_false, Bool.true_or, Bool.or_true, Bool.false_or, Bool.or_false, Bool.not_true, Bool.not_false]; done) | (simp only [neg, c123, if_true, if_false, eq_self, decide_true, decide_false, not_true, not_false_eq_true, Bool.true_and, Bool.and_true, Bool.false_and, Bool.and_false, Bool.true_or, Bool.or_true, Bool.false_or, Bool.or_false, Bool.not_true, Bool.not_false]; rfl)
      · simp only [neg, c123, if_true, if_false, eq_self, decide_true, decide_false, not_true, not_false_eq_true, Bool.true_and, Bool.and_true, Bool.false_and, Bool.and_false, Bool.true_or, Bool.or_true, Bool.false_or, Bool.or_false, Bool.not_true, Bool.not_false]
        exact ⟨ks, ot, as, fl, hk, HE.rf⟩
  have L2 : ∀ (m : Nat), m < 2 ^ 31 → ∀ (p : Nat) (q : Int32 × Int32) (rv9 : Option Value) (Q9 : AH → Prop), p < cnt R → (∀ (as : Nat → Int32) (fl : Int32), RunQ X 11 mX5_order 116 [some (.ref 0), some (.int (nI m)), some (.int (inn (fun p o => fut m (swR R p o)) p q (cnt R - (p + 1))).1), some (.int (inn (fun p o => fut m (swR R p o)) p q (cnt R - (p + 1))).2), some (.int (nI p)), none, none] [] (hM (enc R) ks ot as fl kp tc g) rv9 Q9) → ∀ (k j : Nat) (as : Nat → Int32) (fl : Int32), p + 1 + j + k = cnt R → RunQ X 11 mX5_order 43 [some (.ref 0), some (.int (nI m)), some (.int (inn (fun p o => fut m (swR R p o)) p q j).1), some (.int (inn (fun p o => fut m (swR R p o)) p q j).2), some (.int (nI p)), some (.int (nI (p + 1 + j))), none] [] (hM (enc R) ks ot as fl kp tc g) rv9 Q9 := by
    intro m hm p q rv9 Q9 hp hk k
    have hn := hw.1
    induction k with
    | zero =>
      intro j as fl hj
      obtain rfl : j = cnt R - (p + 1) := by omega
      refine r_iload dX5_order_43 rfl ?_
      refine r_aload_n dX5_order_45 rfl ?_
      refine r_getfield dX5_order_46 gfX5_7 rfl rfl ?_
      refine r_iconst (v := nI 1) dX5_order_49 (by decide) ?_
      refine r_ialdN dX5_order_50 rfl (by first | decide | omega) (Nat.le_of_ble_eq_true rfl) enc1 ?_
      refine r_icmp_ge 116 dX5_order_51 (by decide) (fun c51 => ?_) (fun c51 => ?_)
      · exact r_lv (lv' := [_, _, _, _, _, none, none]) (lvDrop 5 rfl) (hk as fl)
      · exact absurd (nI_le (by omega) (by omega)) c51
    | succ k ih =>
      intro j as fl hj
      refine r_iload dX5_order_43 rfl ?_
      refine r_aload_n dX5_order_45 rfl ?_
      refine r_getfield dX5_order_46 gfX5_7 rfl rfl ?_
      refine r_iconst (v := nI 1) dX5_order_49 (by decide) ?_
      refine r_ialdN dX5_order_50 rfl (by first | decide | omega) (Nat.le_of_ble_eq_true rfl) enc1 ?_
      refine r_icmp_ge 116 dX5_order_51 (by decide) (fun c51 => ?_) (fun c51 => ?_)
      · exact absurd c51 (nI_ge (by omega) (by omega))
      · refine r_aload_n dX5_order_54 rfl ?_
        refine r_iload dX5_order_55 rfl ?_
        refine r_iload dX5_order_57 rfl ?_
        refine r_v2n (M_swaps (by omega) (by omega)) (Nat.le_of_ble_eq_true rfl) mrX5_swaps lkX5_125 rfl rfl rfl dX5_order_59 (Nat.le_of_ble_eq_true rfl) ?_
        refine r_aload_n dX5_order_62 rfl ?_
        refine r_iconst (v := (-1)) dX5_order_63 (by decide) ?_
        refine r_iload_n dX5_order_64 rfl ?_
        refine r_v2r (M_behindT (R := swR R p (p + 1 + j)) (wf_sw hw (by omega) (by omega)) hm) (Nat.le_of_ble_eq_true rfl) mrX5_behind lkX5_162 rfl rfl rfl dX5_order_65 (Nat.le_of_ble_eq_true rfl) ?_
        refine r_istore (lv' := [_, _, _, _, _, _, _]) dX5_order_68 (by decide) rfl ?_
        refine r_aload_n dX5_order_70 rfl ?_
        refine r_iload dX5_order_71 rfl ?_
        refine r_iload dX5_order_73 rfl ?_
        refine r_v2n (M_swaps (R := swR R p (p + 1 + j)) (by omega) (by omega)) (Nat.le_of_ble_eq_true rfl) mrX5_swaps lkX5_125 rfl rfl rfl dX5_order_75 (Nat.le_of_ble_eq_true rfl) ?_
        rw [swR_inv (by omega)]
        refine r_iload dX5_order_78 rfl ?_
        refine r_iload_n dX5_order_80 rfl ?_
        refine r_icmp_ge 95 dX5_order_81 (by decide) (fun c81 => ?_) (fun c81 => ?_)
        · refine r_iload_n dX5_order_95 rfl ?_
          refine r_istore_n (lv' := [_, _, _, _, _, _, _]) dX5_order_96 (by decide) rfl ?_
          refine r_iload dX5_order_97 rfl ?_
          refine r_iload_n dX5_order_99 rfl ?_
          refine r_icmp_ge 108 dX5_order_100 (by decide) (fun c100 => ?_) (fun c100 => ?_)
          · refine r_iload_n dX5_order_108 rfl ?_
            refine r_istore_n (lv' := [_, _, _, _, _, _, _]) dX5_order_109 (by decide) rfl ?_
            refine r_iinc (lv' := [_, _, _, _, _, _, _]) dX5_order_110 (by decide) rfl (by first | exact inc1 _ | exact inc1_ _) rfl ?_
            refine r_goto 43 dX5_order_113 (by decide) ?_
            refine r_lv (lv' := [_, _, _, _, _, _, none]) (lvDrop 6 rfl) ?_
            have e := ih (j + 1) (enc (swR R p (p + 1 + j))) (stpFN m (swR R p (p + 1 + j)) fl) (by omega)
            first
            | exact absurd c100 c81
            | exact absurd c81 c100
            | (rw [inn_t (f := (fun p o => fut m (swR R p o))) (Int32.not_le.mp c81)] at e; exact e)
            | (rw [inn_f (f := (fun p o => fut m (swR R p o))) (Int32.not_lt.mpr c81)] at e; exact e)
          · refine r_iload dX5_order_103 rfl ?_
            refine r_goto 109 dX5_order_105 (by decide) ?_
            refine r_istore_n (lv' := [_, _, _, _, _, _, _]) dX5_order_109 (by decide) rfl ?_
            refine r_iinc (lv' := [_, _, _, _, _, _, _]) dX5_order_110 (by decide) rfl (by first | exact inc1 _ | exact inc1_ _) rfl ?_
            refine r_goto 43 dX5_order_113 (by decide) ?_
            refine r_lv (lv' := [_, _, _, _, _, _, none]) (lvDrop 6 rfl) ?_
            have e := ih (j + 1) (enc (swR R p (p + 1 + j))) (stpFN m (swR R p (p + 1 + j)) fl) (by omega)
            first
            | exact absurd c100 c81
            | exact absurd c81 c100
            | (rw [inn_t (f := (fun p o => fut m (swR R p o))) (Int32.not_le.mp c81)] at e; exact e)
            | (rw [inn_f (f := (fun p o => fut m (swR R p o))) (Int32.not_lt.mpr c81)] at e; exact e)
        · refine r_bipush (v := nI 10) dX5_order_84 (by decide) ?_
          refine r_iload dX5_order_86 rfl ?_
          refine r_imul dX5_order_88 ?_
          refine r_iload dX5_order_89 rfl ?_
          refine r_iadd dX5_order_91 ?_
          refine r_goto 96 dX5_order_92 (by decide) ?_
          refine r_istore_n (lv' := [_, _, _, _, _, _, _]) dX5_order_96 (by decide) rfl ?_
          refine r_iload dX5_order_97 rfl ?_
          refine r_iload_n dX5_order_99 rfl ?_
          refine r_icmp_ge 108 dX5_order_100 (by decide) (fun c100 => ?_) (fun c100 => ?_)
          · refine r_iload_n dX5_order_108 rfl ?_
            refine r_istore_n (lv' := [_, _, _, _, _, _, _]) dX5_order_109 (by decide) rfl ?_
            refine r_iinc (lv' := [_, _, _, _, _, _, _]) dX5_order_110 (by decide) rfl (by first | exact inc1 _ | exact inc1_ _) rfl ?_
            refine r_goto 43 dX5_order_113 (by decide) ?_
            refine r_lv (lv' := [_, _, _, _, _, _, none]) (lvDrop 6 rfl) ?_
            have e := ih (j + 1) (enc (swR R p (p + 1 + j))) (stpFN m (swR R p (p + 1 + j)) fl) (by omega)
            first
            | exact absurd c100 c81
            | exact absurd c81 c100
            | (rw [inn_t (f := (fun p o => fut m (swR R p o))) (Int32.not_le.mp c81)] at e; exact e)
            | (rw [inn_f (f := (fun p o => fut m (swR R p o))) (Int32.not_lt.mpr c81)] at e; exact e)
          · refine r_iload dX5_order_103 rfl ?_
            refine r_goto 109 dX5_order_105 (by decide) ?_
            refine r_istore_n (lv' := [_, _, _, _, _, _, _]) dX5_order_109 (by decide) rfl ?_
            refine r_iinc (lv' := [_, _, _, _, _, _, _]) dX5_order_110 (by decide) rfl (by first | exact inc1 _ | exact inc1_ _) rfl ?_
            refine r_goto 43 dX5_order_113 (by decide) ?_
            refine r_lv (lv' := [_, _, _, _, _, _, none]) (lvDrop 6 rfl) ?_
            have e := ih (j + 1) (enc (swR R p (p + 1 + j))) (stpFN m (swR R p (p + 1 + j)) fl) (by omega)
            first
            | exact absurd c100 c81
            | exact absurd c81 c100
            | (rw [inn_t (f := (fun p o => fut m (swR R p o))) (Int32.not_le.mp c81)] at e; exact e)
            | (rw [inn_f (f := (fun p o => fut m (swR R p o))) (Int32.not_lt.mpr c81)] at e; exact e)
  have L1 : ∀ (m : Nat), m < 2 ^ 31 → ∀ (k i : Nat) (as : Nat → Int32) (fl : Int32), i + k = cnt R → RunQ X 11 mX5_order 26 [some (.ref 0), some (.int (nI m)), some (.int (ord (fun p o => fut m (swR R p o)) (cnt R) (-1, fut m R) i).1), some (.int (ord (fun p o => fut m (swR R p o)) (cnt R) (-1, fut m R) i).2), some (.int (nI i)), none, none] [] (hM (enc R) ks ot as fl kp tc g) (some (.int (neg R K kp tc (ord (fun p o => fut m (swR R p o)) (cnt R) (-1, fut m R) (cnt R)).1).1)) (qM (neg R K kp tc (ord (fun p o => fut m (swR R p o)) (cnt R) (-1, fut m R) (cnt R)).1).2 g) := by
    intro m hm k
    have hn := hw.1
    induction k with
    | zero =>
      intro i as fl hi
      obtain rfl : i = cnt R := by omega
      refine r_iload dX5_order_26 rfl ?_
      refine r_aload_n dX5_order_28 rfl ?_
      refine r_getfield dX5_order_29 gfX5_7 rfl rfl ?_
      refine r_iconst (v := nI 1) dX5_order_32 (by decide) ?_
      refine r_ialdN dX5_order_33 rfl (by first | decide | omega) (Nat.le_of_ble_eq_true rfl) enc1 ?_
      refine r_icmp_ge 122 dX5_order_34 (by decide) (fun c34 => ?_) (fun c34 => ?_)
      · refine r_lv (lv' := [_, _, _, none, _, none, none]) (lvDrop 3 rfl) ?_
        exact r_lv (lv' := [_, _, _, none, none, none, none]) (lvDrop 4 rfl) (E m _ as fl)
      · exact absurd (nI_le (by omega) (by omega)) c34
    | succ k ih =>
      intro i as fl hi
      refine r_iload dX5_order_26 rfl ?_
      refine r_aload_n dX5_order_28 rfl ?_
      refine r_getfield dX5_order_29 gfX5_7 rfl rfl ?_
      refine r_iconst (v := nI 1) dX5_order_32 (by decide) ?_
      refine r_ialdN dX5_order_33 rfl (by first | decide | omega) (Nat.le_of_ble_eq_true rfl) enc1 ?_
      refine r_icmp_ge 122 dX5_order_34 (by decide) (fun c34 => ?_) (fun c34 => ?_)
      · exact absurd c34 (nI_ge (by omega) (by omega))
      · refine r_iload dX5_order_37 rfl ?_
        refine r_iconst (v := nI 1) dX5_order_39 (by decide) ?_
        refine r_iadd dX5_order_40 ?_
        refine r_istore (lv' := [_, _, _, _, _, _, _]) dX5_order_41 (by decide) rfl ?_
        rw [nI_add]
        refine L2 m hm i (ord (fun p o => fut m (swR R p o)) (cnt R) (-1, fut m R) i) _ _ (by omega) (fun as fl => ?_) (cnt R - (i + 1)) 0 as fl (by omega)
        refine r_iinc (lv' := [_, _, _, _, _, _, _]) dX5_order_116 (by decide) rfl (inc1 _) rfl ?_
        refine r_goto 26 dX5_order_119 (by decide) ?_
        exact ih (i + 1) as fl (by omega)
  refine r_iload_n dX5_order_0 rfl ?_
  refine r_s1r M_isSoon (Nat.le_of_ble_eq_true rfl) mrX5_isSoon lkX5_172 dX5_order_1 (Nat.le_of_ble_eq_true rfl) ?_
  refine r_if_neB 14 dX5_order_4 (by decide) (fun c4 => ?_) (fun c4 => ?_)
  · obtain ⟨m, h1, h2, rfl⟩ := inR_of c4 (by decide) (by decide)
    have em : tn (nI m) = m := nI_clamp (by omega)
    have hn := hw.1
    refine r_iconst (v := (-1)) dX5_order_14 (by decide) ?_
    refine r_istore_n (lv' := [_, _, _, _, _, _, _]) dX5_order_15 (by decide) rfl ?_
    refine r_aload_n dX5_order_16 rfl ?_
    refine r_iconst (v := (-1)) dX5_order_17 (by decide) ?_
    refine r_iload_n dX5_order_18 rfl ?_
    refine r_v2r (M_behindT hw (by omega)) (Nat.le_of_ble_eq_true rfl) mrX5_behind lkX5_162 rfl rfl rfl dX5_order_19 (Nat.le_of_ble_eq_true rfl) ?_
    refine r_istore_n (lv' := [_, _, _, _, _, _, _]) dX5_order_22 (by decide) rfl ?_
    refine r_iconst (v := nI 0) dX5_order_23 (by decide) ?_
    refine r_istore (lv' := [_, _, _, _, _, _, _]) dX5_order_24 (by decide) rfl ?_
    simp only [o_order, c4, em]
    exact L1 m (by omega) (cnt R) 0 (enc R) (stpFN m R fl) (by omega)
  · refine r_aload_n dX5_order_7 rfl ?_
    refine r_ldc kX5_41 dX5_order_8 ?_
    refine r_v1r (M_finds 0 (by decide) (by decide)) (Nat.le_of_ble_eq_true rfl) mrX5_finds lkX5_66 rfl rfl rfl dX5_order_10 (Nat.le_of_ble_eq_true rfl) ?_
    refine r_iret dX5_order_13 rfl rfl ?_ ?_
    · simp only [o_order, c4, if_true, if_false, eq_self, decide_true, decide_false, not_true, not_false_eq_true, Bool.true_and, Bool.and_true, Bool.false_and, Bool.and_false, Bool.true_or, Bool.or_true, Bool.false_or, Bool.or_false, Bool.not_true, Bool.not_false]
      rfl
    · simp only [o_order, c4, if_true, if_false, eq_self, decide_true, decide_false, not_true, not_false_eq_true, Bool.true_and, Bool.and_true, Bool.false_and, Bool.and_false, Bool.true_or, Bool.or_true, Bool.false_or, Bool.or_false, Bool.not_true, Bool.not_false]
      exact ⟨ks, ot, as, fl, hk, HE.rf⟩
theorem N_least {R : RS} {ks ot as : Nat → Int32} {fl : Int32} {kp : Bool} {tc : Nat → Int32} {g : GO} {K : RS} {m v : Int32} (hw : wfR R) (hk : kp = true → ∀ i, i < 37 → ks i = enc K i) : SpQ 11 mX5_least [.ref 0, .int m, .int v] (hM (enc R) ks ot as fl kp tc g) (some (.int (o_least R K kp tc m v).1)) (qM (o_least R K kp tc m v).2 g) := by
  refine SpQ.of [some (.ref 0), some (.int m), some (.int v), none, none, none] mrX5_least.1 (fun _ q => qM_len q) (Nat.le_of_ble_eq_true rfl) rfl (fun X => ?_)
  have E1 : ∀ (m : Nat) (y z : Int32) (j : Nat) (as : Nat → Int32) (fl : Int32), j < 2 ^ 31 → RunQ X 11 mX5_least 83 [some (.ref 0), some (.int (nI m)), some (.int v), some (.int (rB R)), some (.int (nI j)), some (.int z)] [] (hM (enc (sB R y)) ks ot as fl kp tc g) (some (.int (nI j))) (qM (R, K, kp, tc) g) := by
    intro m y z j as fl hj
    refine r_aload_n dX5_least_83 rfl ?_
    refine r_getfield dX5_least_84 gfX5_7 rfl rfl ?_
    refine r_iconst (v := nI 4) dX5_least_87 (by decide) ?_
    refine r_iload_n dX5_least_88 rfl ?_
    refine r_iastN (h' := [_, _, _, _, _, _]) dX5_least_89 rfl (by first | decide | omega) (Nat.le_of_ble_eq_true rfl) rfl ?_
    try simp only [encU0, encU1, encU2, encU3, encA0, encA2, encA3, encA4]
    refine r_iload dX5_least_90 rfl ?_
    refine r_if_ge 104 dX5_least_92 (by decide) (fun c92 => ?_) (fun c92 => ?_)
    · refine r_iload dX5_least_104 rfl ?_
      refine r_iret dX5_least_106 rfl rfl ?_ ?_
      · rfl
      · exact ⟨ks, ot, as, fl, hk, HE.rf⟩
    · exact absurd (nI_pos' hj) c92
  have E2 : ∀ (m : Nat) (y z : Int32) (as : Nat → Int32) (fl : Int32), RunQ X 11 mX5_least 83 [some (.ref 0), some (.int (nI m)), some (.int v), some (.int (rB R)), some (.int (-1)), some (.int z)] [] (hM (enc (sB R y)) ks ot as fl kp tc g) (some (.int (bnd R K kp tc 3).1)) (qM (bnd R K kp tc 3).2 g) := by
    intro m y z as fl
    refine r_aload_n dX5_least_83 rfl ?_
    refine r_getfield dX5_least_84 gfX5_7 rfl rfl ?_
    refine r_iconst (v := nI 4) dX5_least_87 (by decide) ?_
    refine r_iload_n dX5_least_88 rfl ?_
    refine r_iastN (h' := [_, _, _, _, _, _]) dX5_least_89 rfl (by first | decide | omega) (Nat.le_of_ble_eq_true rfl) rfl ?_
    try simp only [encU0, encU1, encU2, encU3, encA0, encA2, encA3, encA4]
    refine r_iload dX5_least_90 rfl ?_
    refine r_if_ge 104 dX5_least_92 (by decide) (fun c92 => ?_) (fun c92 => ?_)
    · exact absurd c92 (by decide)
    · refine r_aload_n dX5_least_95 rfl ?_
      refine r_ldc kX5_165 dX5_least_96 ?_
      refine r_v1r (M_finds 3 (by decide) (by decide)) (Nat.le_of_ble_eq_true rfl) mrX5_finds lkX5_66 rfl rfl rfl dX5_least_98 (Nat.le_of_ble_eq_true rfl) ?_
      refine r_goto 106 dX5_least_101 (by decide) ?_
      refine r_iret dX5_least_106 rfl rfl ?_ ?_
      · rfl
      · exact ⟨ks, ot, as, fl, hk, HE.rf⟩
  have L : ∀ (m : Nat), m < 2 ^ 31 → ∀ (k i : Nat) (y : Int32) (as : Nat → Int32) (fl : Int32), i + k = 10 → RunQ X 11 mX5_least 39 [some (.ref 0), some (.int (nI m)), some (.int v), some (.int (rB R)), some (.int (-1)), some (.int (nI i))] [] (hM (enc (sB R y)) ks ot as fl kp tc g) (some (.int (fnd R K kp tc (fst1 (fun b => decide (fut m (sB R (nI b)) ≤ v)) k i)).1)) (qM (fnd R K kp tc (fst1 (fun b => decide (fut m (sB R (nI b)) ≤ v)) k i)).2 g) := by
    intro m hm k
    induction k with
    | zero =>
      intro i y as fl hi
      obtain rfl : i = 10 := by omega
      refine r_iload dX5_least_39 rfl ?_
      refine r_bipush (v := nI 9) dX5_least_41 (by decide) ?_
      refine r_icmp_gt 83 dX5_least_43 (by decide) (fun c43 => ?_) (fun c43 => ?_)
      · exact E2 m y _ as fl
      · exact absurd (nI_lt (by omega) (by omega)) c43
    | succ k ih =>
      intro i y as fl hi
      have H2 : RunQ X 11 mX5_least 39 [some (.ref 0), some (.int (nI m)), some (.int v), some (.int (rB R)), some (.int (nI i)), some (.int (nI (i + 1)))] [] (hM (enc (sB R (nI i))) ks ot (enc (sB R (nI i))) (stpFN m (sB R (nI i)) fl) kp tc g) (some (.int (nI i))) (qM (R, K, kp, tc) g) := by
        refine r_iload dX5_least_39 rfl ?_
        refine r_bipush (v := nI 9) dX5_least_41 (by decide) ?_
        refine r_icmp_gt 83 dX5_least_43 (by decide) (fun c43 => E1 m _ _ i _ _ (by omega)) (fun c43 => ?_)
        refine r_iload dX5_least_46 rfl ?_
        exact r_if_ge 83 dX5_least_48 (by decide) (fun c48 => E1 m _ _ i _ _ (by omega)) (fun c48 => absurd (nI_pos' (by omega)) c48)
      refine r_iload dX5_least_39 rfl ?_
      refine r_bipush (v := nI 9) dX5_least_41 (by decide) ?_
      refine r_icmp_gt 83 dX5_least_43 (by decide) (fun c43 => ?_) (fun c43 => ?_)
      · exact absurd c43 (nI_nlt (by omega) (by omega))
      · refine r_iload dX5_least_46 rfl ?_
        refine r_if_ge 83 dX5_least_48 (by decide) (fun c48 => ?_) (fun c48 => ?_)
        · exact absurd c48 (by decide)
        · refine r_aload_n dX5_least_51 rfl ?_
          refine r_getfield dX5_least_52 gfX5_7 rfl rfl ?_
          refine r_iconst (v := nI 4) dX5_least_55 (by decide) ?_
          refine r_iload dX5_least_56 rfl ?_
          refine r_iastN (h' := [_, _, _, _, _, _]) dX5_least_58 rfl (by first | decide | omega) (Nat.le_of_ble_eq_true rfl) rfl ?_
          try simp only [encU0, encU1, encU2, encU3, encA0, encA2, encA3, encA4]
          refine r_aload_n dX5_least_59 rfl ?_
          refine r_iconst (v := (-1)) dX5_least_60 (by decide) ?_
          refine r_iload_n dX5_least_61 rfl ?_
          refine r_v2r (M_behindT (R := sB R (nI i)) (wf_sB hw (by omega)) hm) (Nat.le_of_ble_eq_true rfl) mrX5_behind lkX5_162 rfl rfl rfl dX5_least_62 (Nat.le_of_ble_eq_true rfl) ?_
          refine r_iload_n dX5_least_65 rfl ?_
          refine r_icmp_gt 74 dX5_least_66 (by decide) (fun c66 => ?_) (fun c66 => ?_)
          · refine r_iconst (v := (-1)) dX5_least_74 (by decide) ?_
            refine r_istore (lv' := [_, _, _, _, _, _]) dX5_least_75 (by decide) rfl ?_
            refine r_iinc (lv' := [_, _, _, _, _, _]) dX5_least_77 (by decide) rfl (by first | exact inc1 _ | exact inc1_ _) rfl ?_
            refine r_goto 39 dX5_least_80 (by decide) ?_
            first
            | (simp only [fst1, decide_eq_true (Int32.not_lt.mp c66)]; exact H2)
            | (have e := ih (i + 1) (nI i) (enc (sB R (nI i))) (stpFN m (sB R (nI i)) fl) (by omega); simp only [fst1, decide_eq_false (Int32.not_le.mpr c66)]; exact e)
          · refine r_iload dX5_least_69 rfl ?_
            refine r_goto 75 dX5_least_71 (by decide) ?_
            refine r_istore (lv' := [_, _, _, _, _, _]) dX5_least_75 (by decide) rfl ?_
            refine r_iinc (lv' := [_, _, _, _, _, _]) dX5_least_77 (by decide) rfl (by first | exact inc1 _ | exact inc1_ _) rfl ?_
            refine r_goto 39 dX5_least_80 (by decide) ?_
            first
            | (simp only [fst1, decide_eq_true (Int32.not_lt.mp c66)]; exact H2)
            | (have e := ih (i + 1) (nI i) (enc (sB R (nI i))) (stpFN m (sB R (nI i)) fl) (by omega); simp only [fst1, decide_eq_false (Int32.not_le.mpr c66)]; exact e)
  refine r_iload_n dX5_least_0 rfl ?_
  refine r_s1r M_isSoon (Nat.le_of_ble_eq_true rfl) mrX5_isSoon lkX5_172 dX5_least_1 (Nat.le_of_ble_eq_true rfl) ?_
  refine r_if_eqB 19 dX5_least_4 (by decide) (fun c4 => ?_) (fun c4 => ?_)
  · refine r_aload_n dX5_least_19 rfl ?_
    refine r_ldc kX5_41 dX5_least_20 ?_
    refine r_v1r (M_finds 0 (by decide) (by decide)) (Nat.le_of_ble_eq_true rfl) mrX5_finds lkX5_66 rfl rfl rfl dX5_least_22 (Nat.le_of_ble_eq_true rfl) ?_
    refine r_iret dX5_least_25 rfl rfl ?_ ?_
    · simp only [o_least, c4, if_true, if_false, eq_self, decide_true, decide_false, not_true, not_false_eq_true, Bool.true_and, Bool.and_true, Bool.false_and, Bool.and_false, Bool.true_or, Bool.or_true, Bool.false_or, Bool.or_false, Bool.not_true, Bool.not_false]
      rfl
    · simp only [o_least, c4, if_true, if_false, eq_self, decide_true, decide_false, not_true, not_false_eq_true, Bool.true_and, Bool.and_true, Bool.false_and, Bool.and_false, Bool.true_or, Bool.or_true, Bool.false_or, Bool.or_false, Bool.not_true, Bool.not_false]
      exact ⟨ks, ot, as, fl, hk, HE.rf⟩
  · refine r_iload_n dX5_least_7 rfl ?_
    refine r_i2l dX5_least_8 ?_
    refine r_lconst (v := 0) dX5_least_9 (by decide) ?_
    refine r_ldc2 kX5_179 dX5_least_10 ?_
    refine r_s3r (M_in (lo := nI 0) (hi := 99999) (by decide) (by decide)) (Nat.le_of_ble_eq_true rfl) mrX5_in lkX5_46 dX5_least_13 (Nat.le_of_ble_eq_true rfl) ?_
    refine r_if_neB 26 dX5_least_16 (by decide) (fun c16 => ?_) (fun c16 => ?_)
    · obtain ⟨m, h1, h2, rfl⟩ := inR_of c4 (by decide) (by decide)
      have em : tn (nI m) = m := nI_clamp (by omega)
      have hn := hw.1
      refine r_aload_n dX5_least_26 rfl ?_
      refine r_getfield dX5_least_27 gfX5_7 rfl rfl ?_
      refine r_iconst (v := nI 4) dX5_least_30 (by decide) ?_
      refine r_ialdN dX5_least_31 rfl (by first | decide | omega) (Nat.le_of_ble_eq_true rfl) enc4 ?_
      refine r_istore_n (lv' := [_, _, _, _, _, _]) dX5_least_32 (by decide) rfl ?_
      refine r_iconst (v := (-1)) dX5_least_33 (by decide) ?_
      refine r_istore (lv' := [_, _, _, _, _, _]) dX5_least_34 (by decide) rfl ?_
      refine r_iconst (v := nI 0) dX5_least_36 (by decide) ?_
      refine r_istore (lv' := [_, _, _, _, _, _]) dX5_least_37 (by decide) rfl ?_
      simp only [o_least, c4, c16, em]
      exact L m (by omega) 10 0 (rB R) as fl (by omega)
    · refine r_aload_n dX5_least_19 rfl ?_
      refine r_ldc kX5_41 dX5_least_20 ?_
      refine r_v1r (M_finds 0 (by decide) (by decide)) (Nat.le_of_ble_eq_true rfl) mrX5_finds lkX5_66 rfl rfl rfl dX5_least_22 (Nat.le_of_ble_eq_true rfl) ?_
      refine r_iret dX5_least_25 rfl rfl ?_ ?_
      · simp only [o_least, c4, c16, if_true, if_false, eq_self, decide_true, decide_false, not_true, not_false_eq_true, Bool.true_and, Bool.and_true, Bool.false_and, Bool.and_false, Bool.true_or, Bool.or_true, Bool.false_or, Bool.or_false, Bool.not_true, Bool.not_false]
        rfl
      · simp only [o_least, c4, c16, if_true, if_false, eq_self, decide_true, decide_false, not_true, not_false_eq_true, Bool.true_and, Bool.and_true, Bool.false_and, Bool.and_false, Bool.true_or, Bool.or_true, Bool.false_or, Bool.or_false, Bool.not_true, Bool.not_false]
        exact ⟨ks, ot, as, fl, hk, HE.rf⟩
theorem shr_in {x : Int32} {i : Nat} : ((x >>> (nI i &&& 31)) &&& nI 1 = nI 1) ↔ isIn x (nI i) = true := by
  rw [isIn, decide_eq_true_eq]
theorem N_clear {R : RS} {ks ot as : Nat → Int32} {fl : Int32} {kp : Bool} {tc : Nat → Int32} {g : GO} {K : RS} {m : Int32} (hw : wfR R) (hk : kp = true → ∀ i, i < 37 → ks i = enc K i) : SpQ 11 mX5_clear [.ref 0, .int m] (hM (enc R) ks ot as fl kp tc g) (some (.int (o_clear R K kp tc m).1)) (qM (o_clear R K kp tc m).2 g) := by
  refine SpQ.of [some (.ref 0), some (.int m), none, none, none, none, none] mrX5_clear.1 (fun _ q => qM_len q) (Nat.le_of_ble_eq_true rfl) rfl (fun X => ?_)
  have L : ∀ (m : Nat), m < 2 ^ 31 → ∀ (k i : Nat) (y : Int32) (as : Nat → Int32) (fl : Int32), i + k = 30 → RunQ X 11 mX5_clear 35 [some (.ref 0), some (.int (nI m)), some (.int (rR R)), some (.int (mnC (fun c => isIn (rR R) (nI c)) (fun c => fut m (sR R (setR (rR R) (nI c) false))) (-1, 999999) i).1), some (.int (mnC (fun c => isIn (rR R) (nI c)) (fun c => fut m (sR R (setR (rR R) (nI c) false))) (-1, 999999) i).2), some (.int (nI i)), none] [] (hM (enc (sR R y)) ks ot as fl kp tc g) (some (.int (neg R K kp tc (mnC (fun c => isIn (rR R) (nI c)) (fun c => fut m (sR R (setR (rR R) (nI c) false))) (-1, 999999) 30).1).1)) (qM (neg R K kp tc (mnC (fun c => isIn (rR R) (nI c)) (fun c => fut m (sR R (setR (rR R) (nI c) false))) (-1, 999999) 30).1).2 g) := by
    intro m hm k
    induction k with
    | zero =>
      intro i y as fl hi
      obtain rfl : i = 30 := by omega
      refine r_iload dX5_clear_35 rfl ?_
      refine r_bipush (v := nI 30) dX5_clear_37 (by decide) ?_
      refine r_icmp_ge 110 dX5_clear_39 (by decide) (fun c39 => ?_) (fun c39 => ?_)
      · refine r_aload_n dX5_clear_110 rfl ?_
        refine r_getfield dX5_clear_111 gfX5_7 rfl rfl ?_
        refine r_iconst (v := nI 2) dX5_clear_114 (by decide) ?_
        refine r_iload_n dX5_clear_115 rfl ?_
        refine r_iastN (h' := [_, _, _, _, _, _]) dX5_clear_116 rfl (by first | decide | omega) (Nat.le_of_ble_eq_true rfl) rfl ?_
        try simp only [encU0, encU1, encU2, encU3, encA0, encA2, encA3, encA4]
        refine r_iload_n dX5_clear_117 rfl ?_
        refine r_if_ge 130 dX5_clear_118 (by decide) (fun c118 => ?_) (fun c118 => ?_)
        · refine r_iload_n dX5_clear_130 rfl ?_
          refine r_iret dX5_clear_131 rfl rfl ?_ ?_
          · first | (simp only [neg, c118, if_true, if_false]; done) | (simp only [neg, c118, if_true, if_false]; rfl)
          · simp only [neg, c118, if_true, if_false]
            exact ⟨ks, ot, as, fl, hk, HE.rf⟩
        · refine r_aload_n dX5_clear_121 rfl ?_
          refine r_ldc kX5_165 dX5_clear_122 ?_
          refine r_v1r (M_finds 3 (by decide) (by decide)) (Nat.le_of_ble_eq_true rfl) mrX5_finds lkX5_66 rfl rfl rfl dX5_clear_124 (Nat.le_of_ble_eq_true rfl) ?_
          refine r_goto 131 dX5_clear_127 (by decide) ?_
          refine r_iret dX5_clear_131 rfl rfl ?_ ?_
          · first | (simp only [neg, c118, if_true, if_false]; done) | (simp only [neg, c118, if_true, if_false]; rfl)
          · simp only [neg, c118, if_true, if_false]
            exact ⟨ks, ot, as, fl, hk, HE.rf⟩
      · exact absurd (nI_le (Nat.le_refl _) (by omega)) c39
    | succ k ih =>
      intro i y as fl hi
      refine r_iload dX5_clear_35 rfl ?_
      refine r_bipush (v := nI 30) dX5_clear_37 (by decide) ?_
      refine r_icmp_ge 110 dX5_clear_39 (by decide) (fun c39 => ?_) (fun c39 => ?_)
      · exact absurd c39 (nI_ge (by omega) (by omega))
      · refine r_iload_n dX5_clear_42 rfl ?_
        refine r_iload dX5_clear_43 rfl ?_
        refine r_ishr dX5_clear_45 ?_
        refine r_iconst (v := nI 1) dX5_clear_46 (by decide) ?_
        refine r_iand dX5_clear_47 ?_
        refine r_iconst (v := nI 1) dX5_clear_48 (by decide) ?_
        refine r_icmp_ne 104 dX5_clear_49 (by decide) (fun c49 => ?_) (fun c49 => ?_)
        · refine r_iinc (lv' := [_, _, _, _, _, _, _]) dX5_clear_104 (by decide) rfl (by first | exact inc1 _ | exact inc1_ _) rfl ?_
          refine r_goto 35 dX5_clear_107 (by decide) ?_
          first
          | (have e := ih (i + 1) (setR (rR R) (nI i) false) (enc (sR R (setR (rR R) (nI i) false))) (stpFN m (sR R (setR (rR R) (nI i) false)) fl) (by omega)
             refine r_lv (lv' := [_, _, _, _, _, _, none]) (lvDrop 6 rfl) ?_
             first
             | exact absurd c92 c78
             | exact absurd c78 c92
             | (rw [mnC_t (g := (fun c => isIn (rR R) (nI c))) (f := (fun c => fut m (sR R (setR (rR R) (nI c) false)))) (shr_in.mp c49) (Int32.not_le.mp c78)] at e; exact e)
             | (rw [mnC_f (g := (fun c => isIn (rR R) (nI c))) (f := (fun c => fut m (sR R (setR (rR R) (nI c) false)))) (shr_in.mp c49) (Int32.not_lt.mpr c78)] at e; exact e))
          | (have e := ih (i + 1) y as fl (by omega); rw [mnC_n (g := (fun c => isIn (rR R) (nI c))) (f := (fun c => fut m (sR R (setR (rR R) (nI c) false)))) (Bool.eq_false_iff.mpr (fun z => c49 (shr_in.mpr z)))] at e; exact e)
        · refine r_aload_n dX5_clear_52 rfl ?_
          refine r_getfield dX5_clear_53 gfX5_7 rfl rfl ?_
          refine r_iconst (v := nI 2) dX5_clear_56 (by decide) ?_
          refine r_iload_n dX5_clear_57 rfl ?_
          refine r_iconst (v := nI 1) dX5_clear_58 (by decide) ?_
          refine r_iload dX5_clear_59 rfl ?_
          refine r_ishl dX5_clear_61 ?_
          refine r_iconst (v := (-1)) dX5_clear_62 (by decide) ?_
          refine r_ixor dX5_clear_63 ?_
          refine r_iand dX5_clear_64 ?_
          refine r_iastN (h' := [_, _, _, _, _, _]) dX5_clear_65 rfl (by first | decide | omega) (Nat.le_of_ble_eq_true rfl) rfl ?_
          try simp only [encU0, encU1, encU2, encU3, encA0, encA2, encA3, encA4]
          refine r_aload_n dX5_clear_66 rfl ?_
          refine r_iconst (v := (-1)) dX5_clear_67 (by decide) ?_
          refine r_iload_n dX5_clear_68 rfl ?_
          refine r_v2r (M_behindT (R := sR R (setR (rR R) (nI i) false)) (wf_sR hw) hm) (Nat.le_of_ble_eq_true rfl) mrX5_behind lkX5_162 rfl rfl rfl dX5_clear_69 (Nat.le_of_ble_eq_true rfl) ?_
          refine r_istore (lv' := [_, _, _, _, _, _, _]) dX5_clear_72 (by decide) rfl ?_
          refine r_iload dX5_clear_74 rfl ?_
          refine r_iload dX5_clear_76 rfl ?_
          refine r_icmp_ge 86 dX5_clear_78 (by decide) (fun c78 => ?_) (fun c78 => ?_)
          · refine r_iload_n dX5_clear_86 rfl ?_
            refine r_istore_n (lv' := [_, _, _, _, _, _, _]) dX5_clear_87 (by decide) rfl ?_
            refine r_iload dX5_clear_88 rfl ?_
            refine r_iload dX5_clear_90 rfl ?_
            refine r_icmp_ge 100 dX5_clear_92 (by decide) (fun c92 => ?_) (fun c92 => ?_)
            · refine r_iload dX5_clear_100 rfl ?_
              refine r_istore (lv' := [_, _, _, _, _, _, _]) dX5_clear_102 (by decide) rfl ?_
              refine r_iinc (lv' := [_, _, _, _, _, _, _]) dX5_clear_104 (by decide) rfl (by first | exact inc1 _ | exact inc1_ _) rfl ?_
              refine r_goto 35 dX5_clear_107 (by decide) ?_
              first
              | (have e := ih (i + 1) (setR (rR R) (nI i) false) (enc (sR R (setR (rR R) (nI i) false))) (stpFN m (sR R (setR (rR R) (nI i) false)) fl) (by omega)
                 refine r_lv (lv' := [_, _, _, _, _, _, none]) (lvDrop 6 rfl) ?_
                 first
                 | exact absurd c92 c78
                 | exact absurd c78 c92
                 | (rw [mnC_t (g := (fun c => isIn (rR R) (nI c))) (f := (fun c => fut m (sR R (setR (rR R) (nI c) false)))) (shr_in.mp c49) (Int32.not_le.mp c78)] at e; exact e)
                 | (rw [mnC_f (g := (fun c => isIn (rR R) (nI c))) (f := (fun c => fut m (sR R (setR (rR R) (nI c) false)))) (shr_in.mp c49) (Int32.not_lt.mpr c78)] at e; exact e))
              | (have e := ih (i + 1) y as fl (by omega); rw [mnC_n (g := (fun c => isIn (rR R) (nI c))) (f := (fun c => fut m (sR R (setR (rR R) (nI c) false)))) (Bool.eq_false_iff.mpr (fun z => c49 (shr_in.mpr z)))] at e; exact e)
            · refine r_iload dX5_clear_95 rfl ?_
              refine r_goto 102 dX5_clear_97 (by decide) ?_
              refine r_istore (lv' := [_, _, _, _, _, _, _]) dX5_clear_102 (by decide) rfl ?_
              refine r_iinc (lv' := [_, _, _, _, _, _, _]) dX5_clear_104 (by decide) rfl (by first | exact inc1 _ | exact inc1_ _) rfl ?_
              refine r_goto 35 dX5_clear_107 (by decide) ?_
              first
              | (have e := ih (i + 1) (setR (rR R) (nI i) false) (enc (sR R (setR (rR R) (nI i) false))) (stpFN m (sR R (setR (rR R) (nI i) false)) fl) (by omega)
                 refine r_lv (lv' := [_, _, _, _, _, _, none]) (lvDrop 6 rfl) ?_
                 first
                 | exact absurd c92 c78
                 | exact absurd c78 c92
                 | (rw [mnC_t (g := (fun c => isIn (rR R) (nI c))) (f := (fun c => fut m (sR R (setR (rR R) (nI c) false)))) (shr_in.mp c49) (Int32.not_le.mp c78)] at e; exact e)
                 | (rw [mnC_f (g := (fun c => isIn (rR R) (nI c))) (f := (fun c => fut m (sR R (setR (rR R) (nI c) false)))) (shr_in.mp c49) (Int32.not_lt.mpr c78)] at e; exact e))
              | (have e := ih (i + 1) y as fl (by omega); rw [mnC_n (g := (fun c => isIn (rR R) (nI c))) (f := (fun c => fut m (sR R (setR (rR R) (nI c) false)))) (Bool.eq_false_iff.mpr (fun z => c49 (shr_in.mpr z)))] at e; exact e)
          · refine r_iload dX5_clear_81 rfl ?_
            refine r_goto 87 dX5_clear_83 (by decide) ?_
            refine r_istore_n (lv' := [_, _, _, _, _, _, _]) dX5_clear_87 (by decide) rfl ?_
            refine r_iload dX5_clear_88 rfl ?_
            refine r_iload dX5_clear_90 rfl ?_
            refine r_icmp_ge 100 dX5_clear_92 (by decide) (fun c92 => ?_) (fun c92 => ?_)
            · refine r_iload dX5_clear_100 rfl ?_
              refine r_istore (lv' := [_, _, _, _, _, _, _]) dX5_clear_102 (by decide) rfl ?_
              refine r_iinc (lv' := [_, _, _, _, _, _, _]) dX5_clear_104 (by decide) rfl (by first | exact inc1 _ | exact inc1_ _) rfl ?_
              refine r_goto 35 dX5_clear_107 (by decide) ?_
              first
              | (have e := ih (i + 1) (setR (rR R) (nI i) false) (enc (sR R (setR (rR R) (nI i) false))) (stpFN m (sR R (setR (rR R) (nI i) false)) fl) (by omega)
                 refine r_lv (lv' := [_, _, _, _, _, _, none]) (lvDrop 6 rfl) ?_
                 first
                 | exact absurd c92 c78
                 | exact absurd c78 c92
                 | (rw [mnC_t (g := (fun c => isIn (rR R) (nI c))) (f := (fun c => fut m (sR R (setR (rR R) (nI c) false)))) (shr_in.mp c49) (Int32.not_le.mp c78)] at e; exact e)
                 | (rw [mnC_f (g := (fun c => isIn (rR R) (nI c))) (f := (fun c => fut m (sR R (setR (rR R) (nI c) false)))) (shr_in.mp c49) (Int32.not_lt.mpr c78)] at e; exact e))
              | (have e := ih (i + 1) y as fl (by omega); rw [mnC_n (g := (fun c => isIn (rR R) (nI c))) (f := (fun c => fut m (sR R (setR (rR R) (nI c) false)))) (Bool.eq_false_iff.mpr (fun z => c49 (shr_in.mpr z)))] at e; exact e)
            · refine r_iload dX5_clear_95 rfl ?_
              refine r_goto 102 dX5_clear_97 (by decide) ?_
              refine r_istore (lv' := [_, _, _, _, _, _, _]) dX5_clear_102 (by decide) rfl ?_
              refine r_iinc (lv' := [_, _, _, _, _, _, _]) dX5_clear_104 (by decide) rfl (by first | exact inc1 _ | exact inc1_ _) rfl ?_
              refine r_goto 35 dX5_clear_107 (by decide) ?_
              first
              | (have e := ih (i + 1) (setR (rR R) (nI i) false) (enc (sR R (setR (rR R) (nI i) false))) (stpFN m (sR R (setR (rR R) (nI i) false)) fl) (by omega)
                 refine r_lv (lv' := [_, _, _, _, _, _, none]) (lvDrop 6 rfl) ?_
                 first
                 | exact absurd c92 c78
                 | exact absurd c78 c92
                 | (rw [mnC_t (g := (fun c => isIn (rR R) (nI c))) (f := (fun c => fut m (sR R (setR (rR R) (nI c) false)))) (shr_in.mp c49) (Int32.not_le.mp c78)] at e; exact e)
                 | (rw [mnC_f (g := (fun c => isIn (rR R) (nI c))) (f := (fun c => fut m (sR R (setR (rR R) (nI c) false)))) (shr_in.mp c49) (Int32.not_lt.mpr c78)] at e; exact e))
              | (have e := ih (i + 1) y as fl (by omega); rw [mnC_n (g := (fun c => isIn (rR R) (nI c))) (f := (fun c => fut m (sR R (setR (rR R) (nI c) false)))) (Bool.eq_false_iff.mpr (fun z => c49 (shr_in.mpr z)))] at e; exact e)
  have C9 : ∀ m, (mnC (fun c => isIn (rR R) (nI c)) (fun c => fut m (sR R (setR (rR R) (nI c) false))) (-1, 999999) 30).1 = (mnC (fun c => isIn (rR R) (nI c)) (fun c => fut m (sR R (setR (rR R) (nI c) false))) (-1, 79993) 30).1 := fun m => mnC_1 (g := (fun c => isIn (rR R) (nI c))) (f := (fun c => fut m (sR R (setR (rR R) (nI c) false)))) (fun c => ⟨(fut_lt (R := sR R (setR (rR R) (nI c) false)) (wf_sR hw) m).2, (fut_lt (R := sR R (setR (rR R) (nI c) false)) (wf_sR hw) m).1⟩) 30
  refine r_iload_n dX5_clear_0 rfl ?_
  refine r_i2l dX5_clear_1 ?_
  refine r_lconst (v := 1) dX5_clear_2 (by decide) ?_
  refine r_ldc2 kX5_181 dX5_clear_3 ?_
  refine r_s3r (M_in (lo := nI 1) (hi := nI 60) (by decide) (by decide)) (Nat.le_of_ble_eq_true rfl) mrX5_in lkX5_46 dX5_clear_6 (Nat.le_of_ble_eq_true rfl) ?_
  refine r_if_neB 19 dX5_clear_9 (by decide) (fun c9 => ?_) (fun c9 => ?_)
  · obtain ⟨m, h1, h2, rfl⟩ := inR_of c9 (by decide) (by decide)
    have em : tn (nI m) = m := nI_clamp (by omega)
    have hn := hw.1
    refine r_aload_n dX5_clear_19 rfl ?_
    refine r_getfield dX5_clear_20 gfX5_7 rfl rfl ?_
    refine r_iconst (v := nI 2) dX5_clear_23 (by decide) ?_
    refine r_ialdN dX5_clear_24 rfl (by first | decide | omega) (Nat.le_of_ble_eq_true rfl) enc2 ?_
    refine r_istore_n (lv' := [_, _, _, _, _, _, _]) dX5_clear_25 (by decide) rfl ?_
    refine r_iconst (v := (-1)) dX5_clear_26 (by decide) ?_
    refine r_istore_n (lv' := [_, _, _, _, _, _, _]) dX5_clear_27 (by decide) rfl ?_
    refine r_ldc kX5_171 dX5_clear_28 ?_
    refine r_istore (lv' := [_, _, _, _, _, _, _]) dX5_clear_30 (by decide) rfl ?_
    refine r_iconst (v := nI 0) dX5_clear_32 (by decide) ?_
    refine r_istore (lv' := [_, _, _, _, _, _, _]) dX5_clear_33 (by decide) rfl ?_
    simp only [o_clear, c9, em]
    rw [← C9]
    exact L m (by omega) 30 0 (rR R) as fl (by omega)
  · refine r_aload_n dX5_clear_12 rfl ?_
    refine r_ldc kX5_41 dX5_clear_13 ?_
    refine r_v1r (M_finds 0 (by decide) (by decide)) (Nat.le_of_ble_eq_true rfl) mrX5_finds lkX5_66 rfl rfl rfl dX5_clear_15 (Nat.le_of_ble_eq_true rfl) ?_
    refine r_iret dX5_clear_18 rfl rfl ?_ ?_
    · simp only [o_clear, c9, if_true, if_false, eq_self, decide_true, decide_false, not_true, not_false_eq_true, Bool.true_and, Bool.and_true, Bool.false_and, Bool.and_false, Bool.true_or, Bool.or_true, Bool.false_or, Bool.or_false, Bool.not_true, Bool.not_false]
      rfl
    · simp only [o_clear, c9, if_true, if_false, eq_self, decide_true, decide_false, not_true, not_false_eq_true, Bool.true_and, Bool.and_true, Bool.false_and, Bool.and_false, Bool.true_or, Bool.or_true, Bool.false_or, Bool.or_false, Bool.not_true, Bool.not_false]
      exact ⟨ks, ot, as, fl, hk, HE.rf⟩
theorem N_nerve {R : RS} {ks ot as : Nat → Int32} {fl : Int32} {kp : Bool} {tc : Nat → Int32} {g : GO} {K : RS} {x m : Int32} (hw : wfR R) (hk : kp = true → ∀ i, i < 37 → ks i = enc K i) : SpQ 11 mX5_nerve [.ref 0, .int x, .int m] (hM (enc R) ks ot as fl kp tc g) (some (.int (o_nerve R K kp tc x m).1)) (qM (o_nerve R K kp tc x m).2 g) := by
  refine SpQ.of [some (.ref 0), some (.int x), some (.int m), none, none, none, none, none] mrX5_nerve.1 (fun _ q => qM_len q) (Nat.le_of_ble_eq_true rfl) rfl (fun X => ?_)
  have un : ∀ (p : Nat) (v y : Int32), sN (sN R (upd (rN R) p v)) (upd (rN (sN R (upd (rN R) p v))) p y) = sN R (upd (rN R) p y) := by
    intro p v y
    show sN R (upd (upd (rN R) p v) p y) = _
    congr 1
    funext q
    simp only [upd]
    split <;> rfl
  have us : ∀ p, sN R (upd (rN R) p (rN R p)) = R := by
    intro p
    have e : upd (rN R) p (rN R p) = rN R := by
      funext q
      rw [upd_at]
      split
      · rename_i z; rw [z]
      · rfl
    rw [e]
    rfl
  have E1 : ∀ (p m : Nat), p < 8 → ∀ (y z : Int32) (j : Nat) (as : Nat → Int32) (fl : Int32), j < 2 ^ 31 → RunQ X 11 mX5_nerve 99 [some (.ref 0), some (.int (nI p)), some (.int (nI m)), some (.int (nI (5 + 4 * p + 3))), some (.int (rN R p)), some (.int (rS R p)), some (.int (nI j)), some (.int z)] [] (hM (enc (sN R (upd (rN R) p y))) ks ot as fl kp tc g) (some (.int (nI j))) (qM (R, K, kp, tc) g) := by
    intro p m hp y z j as fl hj
    refine r_aload_n dX5_nerve_99 rfl ?_
    refine r_getfield dX5_nerve_100 gfX5_7 rfl rfl ?_
    refine r_iload_n dX5_nerve_103 rfl ?_
    refine r_iload dX5_nerve_104 rfl ?_
    refine r_iastN (h' := [_, _, _, _, _, _]) dX5_nerve_106 rfl (by omega) (Nat.le_of_ble_eq_true rfl) rfl ?_
    try simp only [encU0, encU1, encU2, encU3, encA0, encA2, encA3, encA4]
    rw [un, us]
    refine r_iload dX5_nerve_107 rfl ?_
    refine r_if_ge 121 dX5_nerve_109 (by decide) (fun c109 => ?_) (fun c109 => ?_)
    · refine r_iload dX5_nerve_121 rfl ?_
      refine r_iret dX5_nerve_123 rfl rfl ?_ ?_
      · rfl
      · exact ⟨ks, ot, as, fl, hk, HE.rf⟩
    · exact absurd (nI_pos' hj) c109
  have E2 : ∀ (p m : Nat), p < 8 → ∀ (y z : Int32) (as : Nat → Int32) (fl : Int32), RunQ X 11 mX5_nerve 99 [some (.ref 0), some (.int (nI p)), some (.int (nI m)), some (.int (nI (5 + 4 * p + 3))), some (.int (rN R p)), some (.int (rS R p)), some (.int (-1)), some (.int z)] [] (hM (enc (sN R (upd (rN R) p y))) ks ot as fl kp tc g) (some (.int (bnd R K kp tc 3).1)) (qM (bnd R K kp tc 3).2 g) := by
    intro p m hp y z as fl
    refine r_aload_n dX5_nerve_99 rfl ?_
    refine r_getfield dX5_nerve_100 gfX5_7 rfl rfl ?_
    refine r_iload_n dX5_nerve_103 rfl ?_
    refine r_iload dX5_nerve_104 rfl ?_
    refine r_iastN (h' := [_, _, _, _, _, _]) dX5_nerve_106 rfl (by omega) (Nat.le_of_ble_eq_true rfl) rfl ?_
    try simp only [encU0, encU1, encU2, encU3, encA0, encA2, encA3, encA4]
    rw [un, us]
    refine r_iload dX5_nerve_107 rfl ?_
    refine r_if_ge 121 dX5_nerve_109 (by decide) (fun c109 => ?_) (fun c109 => ?_)
    · exact absurd c109 (by decide)
    · refine r_aload_n dX5_nerve_112 rfl ?_
      refine r_ldc kX5_165 dX5_nerve_113 ?_
      refine r_v1r (M_finds 3 (by decide) (by decide)) (Nat.le_of_ble_eq_true rfl) mrX5_finds lkX5_66 rfl rfl rfl dX5_nerve_115 (Nat.le_of_ble_eq_true rfl) ?_
      refine r_goto 123 dX5_nerve_118 (by decide) ?_
      refine r_iret dX5_nerve_123 rfl rfl ?_ ?_
      · rfl
      · exact ⟨ks, ot, as, fl, hk, HE.rf⟩
  have L : ∀ (p m : Nat), p < 8 → m < 2 ^ 31 → ∀ (k i : Nat) (y : Int32) (as : Nat → Int32) (fl : Int32), i + k = 100 → RunQ X 11 mX5_nerve 50 [some (.ref 0), some (.int (nI p)), some (.int (nI m)), some (.int (nI (5 + 4 * p + 3))), some (.int (rN R p)), some (.int (rS R p)), some (.int (-1)), some (.int (nI i))] [] (hM (enc (sN R (upd (rN R) p y))) ks ot as fl kp tc g) (some (.int (fnd R K kp tc (fst1 (fun v => noM p (rS R p) m (sN R (upd (rN R) p (nI v)))) k i)).1)) (qM (fnd R K kp tc (fst1 (fun v => noM p (rS R p) m (sN R (upd (rN R) p (nI v)))) k i)).2 g) := by
    intro p m hp hm k
    induction k with
    | zero =>
      intro i y as fl hi
      obtain rfl : i = 100 := by omega
      refine r_iload dX5_nerve_50 rfl ?_
      refine r_bipush (v := nI 99) dX5_nerve_52 (by decide) ?_
      refine r_icmp_gt 99 dX5_nerve_54 (by decide) (fun c54 => ?_) (fun c54 => ?_)
      · exact E2 p m hp y _ as fl
      · exact absurd (nI_lt (by omega) (by omega)) c54
    | succ k ih =>
      intro i y as fl hi
      have NM : noM p (rS R p) m (sN R (upd (rN R) p (nI i))) = decide (rS (stpN m (sN R (upd (rN R) p (nI i)))) p = rS R p) := by
        obtain ⟨v, hv, e⟩ := hw.2.2.1 p hp
        rw [e]
        exact noM_eq hp m (sN R (upd (rN R) p (nI i))) v (wf_sN hw (by omega)) e hv
      have H2 : RunQ X 11 mX5_nerve 50 [some (.ref 0), some (.int (nI p)), some (.int (nI m)), some (.int (nI (5 + 4 * p + 3))), some (.int (rN R p)), some (.int (rS R p)), some (.int (nI i)), some (.int (nI (i + 1)))] [] (hM (enc (sN R (upd (rN R) p (nI i)))) ks ot (enc (sN R (upd (rN R) p (nI i)))) (stpFN m (sN R (upd (rN R) p (nI i))) fl) kp tc g) (some (.int (nI i))) (qM (R, K, kp, tc) g) := by
        refine r_iload dX5_nerve_50 rfl ?_
        refine r_bipush (v := nI 99) dX5_nerve_52 (by decide) ?_
        refine r_icmp_gt 99 dX5_nerve_54 (by decide) (fun c54 => E1 p m hp _ _ i _ _ (by omega)) (fun c54 => ?_)
        refine r_iload dX5_nerve_57 rfl ?_
        exact r_if_ge 99 dX5_nerve_59 (by decide) (fun c59 => E1 p m hp _ _ i _ _ (by omega)) (fun c59 => absurd (nI_pos' (by omega)) c59)
      refine r_iload dX5_nerve_50 rfl ?_
      refine r_bipush (v := nI 99) dX5_nerve_52 (by decide) ?_
      refine r_icmp_gt 99 dX5_nerve_54 (by decide) (fun c54 => ?_) (fun c54 => ?_)
      · exact absurd c54 (nI_nlt (by omega) (by omega))
      · refine r_iload dX5_nerve_57 rfl ?_
        refine r_if_ge 99 dX5_nerve_59 (by decide) (fun c59 => ?_) (fun c59 => ?_)
        · exact absurd c59 (by decide)
        · refine r_aload_n dX5_nerve_62 rfl ?_
          refine r_getfield dX5_nerve_63 gfX5_7 rfl rfl ?_
          refine r_iload_n dX5_nerve_66 rfl ?_
          refine r_iload dX5_nerve_67 rfl ?_
          refine r_iastN (h' := [_, _, _, _, _, _]) dX5_nerve_69 rfl (by omega) (Nat.le_of_ble_eq_true rfl) rfl ?_
          try simp only [encU0, encU1, encU2, encU3, encA0, encA2, encA3, encA4]
          rw [un]
          refine r_aload_n dX5_nerve_70 rfl ?_
          refine r_iload_n dX5_nerve_71 rfl ?_
          refine r_iconst (v := nI 2) dX5_nerve_72 (by decide) ?_
          refine r_s2r M_spot (Nat.le_of_ble_eq_true rfl) mrX5_spot lkX5_42 dX5_nerve_73 (Nat.le_of_ble_eq_true rfl) ?_
          refine r_iload_n dX5_nerve_76 rfl ?_
          refine r_v2r (M_behind (R := sN R (upd (rN R) p (nI i))) (wf_sN hw (by omega)) hm (by omega)) (Nat.le_of_ble_eq_true rfl) mrX5_behind lkX5_162 rfl rfl rfl dX5_nerve_77 (Nat.le_of_ble_eq_true rfl) ?_
          rw [encS]
          refine r_iload dX5_nerve_80 rfl ?_
          refine r_icmp_ne 90 dX5_nerve_82 (by decide) (fun c82 => ?_) (fun c82 => ?_)
          · refine r_iconst (v := (-1)) dX5_nerve_90 (by decide) ?_
            refine r_istore (lv' := [_, _, _, _, _, _, _, _]) dX5_nerve_91 (by decide) rfl ?_
            refine r_iinc (lv' := [_, _, _, _, _, _, _, _]) dX5_nerve_93 (by decide) rfl (by first | exact inc1 _ | exact inc1_ _) rfl ?_
            refine r_goto 50 dX5_nerve_96 (by decide) ?_
            first
            | (simp only [fst1, NM, decide_eq_true c82]; exact H2)
            | (have e := ih (i + 1) (nI i) (enc (sN R (upd (rN R) p (nI i)))) (stpFN m (sN R (upd (rN R) p (nI i))) fl) (by omega); simp only [fst1, NM, decide_eq_false c82]; exact e)
          · refine r_iload dX5_nerve_85 rfl ?_
            refine r_goto 91 dX5_nerve_87 (by decide) ?_
            refine r_istore (lv' := [_, _, _, _, _, _, _, _]) dX5_nerve_91 (by decide) rfl ?_
            refine r_iinc (lv' := [_, _, _, _, _, _, _, _]) dX5_nerve_93 (by decide) rfl (by first | exact inc1 _ | exact inc1_ _) rfl ?_
            refine r_goto 50 dX5_nerve_96 (by decide) ?_
            first
            | (simp only [fst1, NM, decide_eq_true c82]; exact H2)
            | (have e := ih (i + 1) (nI i) (enc (sN R (upd (rN R) p (nI i)))) (stpFN m (sN R (upd (rN R) p (nI i))) fl) (by omega); simp only [fst1, NM, decide_eq_false c82]; exact e)
  refine r_aload_n dX5_nerve_0 rfl ?_
  refine r_iload_n dX5_nerve_1 rfl ?_
  refine r_v1r (M_isPlace hw.1) (Nat.le_of_ble_eq_true rfl) mrX5_isPlace lkX5_69 rfl rfl rfl dX5_nerve_2 (Nat.le_of_ble_eq_true rfl) ?_
  refine r_if_eqB 15 dX5_nerve_5 (by decide) (fun c5 => ?_) (fun c5 => ?_)
  · refine r_aload_n dX5_nerve_15 rfl ?_
    refine r_ldc kX5_41 dX5_nerve_16 ?_
    refine r_v1r (M_finds 0 (by decide) (by decide)) (Nat.le_of_ble_eq_true rfl) mrX5_finds lkX5_66 rfl rfl rfl dX5_nerve_18 (Nat.le_of_ble_eq_true rfl) ?_
    refine r_iret dX5_nerve_21 rfl rfl ?_ ?_
    · simp only [o_nerve, c5, if_true, if_false, eq_self, decide_true, decide_false, not_true, not_false_eq_true, Bool.true_and, Bool.and_true, Bool.false_and, Bool.and_false, Bool.true_or, Bool.or_true, Bool.false_or, Bool.or_false, Bool.not_true, Bool.not_false]
      rfl
    · simp only [o_nerve, c5, if_true, if_false, eq_self, decide_true, decide_false, not_true, not_false_eq_true, Bool.true_and, Bool.and_true, Bool.false_and, Bool.and_false, Bool.true_or, Bool.or_true, Bool.false_or, Bool.or_false, Bool.not_true, Bool.not_false]
      exact ⟨ks, ot, as, fl, hk, HE.rf⟩
  · refine r_iload_n dX5_nerve_8 rfl ?_
    refine r_s1r M_isSoon (Nat.le_of_ble_eq_true rfl) mrX5_isSoon lkX5_172 dX5_nerve_9 (Nat.le_of_ble_eq_true rfl) ?_
    refine r_if_neB 22 dX5_nerve_12 (by decide) (fun c12 => ?_) (fun c12 => ?_)
    · obtain ⟨p, hp, rfl⟩ := hasB_of c5 (by have := hw.1; omega)
      have hn := hw.1
      have et : tn (nI p) = p := nI_clamp (by omega)
      obtain ⟨m, h1, h2, rfl⟩ := inR_of c12 (by decide) (by decide)
      have em : tn (nI m) = m := nI_clamp (by omega)
      refine r_iload_n dX5_nerve_22 rfl ?_
      refine r_iconst (v := nI 3) dX5_nerve_23 (by decide) ?_
      refine r_s2r M_spot (Nat.le_of_ble_eq_true rfl) mrX5_spot lkX5_42 dX5_nerve_24 (Nat.le_of_ble_eq_true rfl) ?_
      refine r_istore_n (lv' := [_, _, _, _, _, _, _, _]) dX5_nerve_27 (by decide) rfl ?_
      refine r_aload_n dX5_nerve_28 rfl ?_
      refine r_getfield dX5_nerve_29 gfX5_7 rfl rfl ?_
      refine r_iload_n dX5_nerve_32 rfl ?_
      refine r_ialdN dX5_nerve_33 rfl (by omega) (Nat.le_of_ble_eq_true rfl) encN ?_
      refine r_istore (lv' := [_, _, _, _, _, _, _, _]) dX5_nerve_34 (by decide) rfl ?_
      refine r_aload_n dX5_nerve_36 rfl ?_
      refine r_iload_n dX5_nerve_37 rfl ?_
      refine r_iconst (v := nI 2) dX5_nerve_38 (by decide) ?_
      refine r_v2r (M_its2 (by omega)) (Nat.le_of_ble_eq_true rfl) mrX5_its lkX5_54 rfl rfl rfl dX5_nerve_39 (Nat.le_of_ble_eq_true rfl) ?_
      refine r_istore (lv' := [_, _, _, _, _, _, _, _]) dX5_nerve_42 (by decide) rfl ?_
      refine r_iconst (v := (-1)) dX5_nerve_44 (by decide) ?_
      refine r_istore (lv' := [_, _, _, _, _, _, _, _]) dX5_nerve_45 (by decide) rfl ?_
      refine r_iconst (v := nI 0) dX5_nerve_47 (by decide) ?_
      refine r_istore (lv' := [_, _, _, _, _, _, _, _]) dX5_nerve_48 (by decide) rfl ?_
      simp only [o_nerve, c5, c12, et, em]
      have e := L p m (by omega) (by omega) 100 0 (rN R p) as fl (by omega)
      rw [us] at e
      exact e
    · refine r_aload_n dX5_nerve_15 rfl ?_
      refine r_ldc kX5_41 dX5_nerve_16 ?_
      refine r_v1r (M_finds 0 (by decide) (by decide)) (Nat.le_of_ble_eq_true rfl) mrX5_finds lkX5_66 rfl rfl rfl dX5_nerve_18 (Nat.le_of_ble_eq_true rfl) ?_
      refine r_iret dX5_nerve_21 rfl rfl ?_ ?_
      · simp only [o_nerve, c5, c12, if_true, if_false, eq_self, decide_true, decide_false, not_true, not_false_eq_true, Bool.true_and, Bool.and_true, Bool.false_and, Bool.and_false, Bool.true_or, Bool.or_true, Bool.false_or, Bool.or_false, Bool.not_true, Bool.not_false]
        rfl
      · simp only [o_nerve, c5, c12, if_true, if_false, eq_self, decide_true, decide_false, not_true, not_false_eq_true, Bool.true_and, Bool.and_true, Bool.false_and, Bool.and_false, Bool.true_or, Bool.or_true, Bool.false_or, Bool.or_false, Bool.not_true, Bool.not_false]
        exact ⟨ks, ot, as, fl, hk, HE.rf⟩
theorem N_worst {R : RS} {ks ot as : Nat → Int32} {fl : Int32} {kp : Bool} {tc : Nat → Int32} {g : GO} {K : RS} {m : Int32} (hw : wfR R) (hk : kp = true → ∀ i, i < 37 → ks i = enc K i) : SpQ 11 mX5_worst [.ref 0, .int m] (hM (enc R) ks ot as fl kp tc g) (some (.int (o_worst R K kp tc m).1)) (qM (o_worst R K kp tc m).2 g) := by
  refine SpQ.of [some (.ref 0), some (.int m), none, none] mrX5_worst.1 (fun _ q => qM_len q) (Nat.le_of_ble_eq_true rfl) rfl (fun X => ?_)
  have L : ∀ (m : Nat) (A : RS) (fl : Int32), wfR A → cnt A = cnt R → ∀ (k j : Nat), j + 1 + k = cnt R → RunQ X 11 mX5_worst 43 [some (.ref 0), some (.int (nI m)), some (.int (nI (mxP (rS A) j))), some (.int (nI (j + 1)))] [] (hM (enc A) ks ot (enc R) fl kp tc g) (some (.int (nI (mxP (rS A) (cnt R - 1))))) (qM (R, K, kp, tc) g) := by
    intro m A fl hA ha k
    have hn := hw.1
    induction k with
    | zero =>
      intro j hj
      obtain rfl : j = cnt R - 1 := by omega
      refine r_iload_n dX5_worst_43 rfl ?_
      refine r_aload_n dX5_worst_44 rfl ?_
      refine r_getfield dX5_worst_45 gfX5_7 rfl rfl ?_
      refine r_iconst (v := nI 1) dX5_worst_48 (by decide) ?_
      refine r_ialdN dX5_worst_49 rfl (by first | decide | omega) (Nat.le_of_ble_eq_true rfl) enc1 ?_
      refine r_icmp_ge 80 dX5_worst_50 (by decide) (fun c50 => ?_) (fun c50 => ?_)
      · refine r_aload_n dX5_worst_80 rfl ?_
        refine r_iload_n dX5_worst_81 rfl ?_
        refine r_v1r M_takesBack (Nat.le_of_ble_eq_true rfl) mrX5_takesBack lkX5_156 rfl rfl rfl dX5_worst_82 (Nat.le_of_ble_eq_true rfl) ?_
        refine r_iret dX5_worst_85 rfl rfl ?_ ?_
        · rfl
        · exact ⟨ks, ot, enc R, fl, hk, HE.rf⟩
      · exact absurd (nI_le (by omega) (by omega)) c50
    | succ k ih =>
      intro j hj
      refine r_iload_n dX5_worst_43 rfl ?_
      refine r_aload_n dX5_worst_44 rfl ?_
      refine r_getfield dX5_worst_45 gfX5_7 rfl rfl ?_
      refine r_iconst (v := nI 1) dX5_worst_48 (by decide) ?_
      refine r_ialdN dX5_worst_49 rfl (by first | decide | omega) (Nat.le_of_ble_eq_true rfl) enc1 ?_
      refine r_icmp_ge 80 dX5_worst_50 (by decide) (fun c50 => ?_) (fun c50 => ?_)
      · exact absurd c50 (nI_ge (by omega) (by omega))
      · refine r_aload_n dX5_worst_53 rfl ?_
        refine r_iload_n dX5_worst_54 rfl ?_
        refine r_iconst (v := nI 2) dX5_worst_55 (by decide) ?_
        refine r_v2r (M_its2 (by omega)) (Nat.le_of_ble_eq_true rfl) mrX5_its lkX5_54 rfl rfl rfl dX5_worst_56 (Nat.le_of_ble_eq_true rfl) ?_
        refine r_aload_n dX5_worst_59 rfl ?_
        refine r_iload_n dX5_worst_60 rfl ?_
        refine r_iconst (v := nI 2) dX5_worst_61 (by decide) ?_
        refine r_v2r (M_its2 (by have := mxP_le (rS A) j; omega)) (Nat.le_of_ble_eq_true rfl) mrX5_its lkX5_54 rfl rfl rfl dX5_worst_62 (Nat.le_of_ble_eq_true rfl) ?_
        refine r_icmp_le 72 dX5_worst_65 (by decide) (fun c65 => ?_) (fun c65 => ?_)
        · refine r_iload_n dX5_worst_72 rfl ?_
          refine r_istore_n (lv' := [_, _, _, _]) dX5_worst_73 (by decide) rfl ?_
          refine r_iinc (lv' := [_, _, _, _]) dX5_worst_74 (by decide) rfl (by first | exact inc1 _ | exact inc1_ _) rfl ?_
          refine r_goto 43 dX5_worst_77 (by decide) ?_
          have e := ih (j + 1) (by omega)
          first
          | (rw [mxP, if_pos c65] at e; exact e)
          | (rw [mxP, if_neg c65] at e; exact e)
        · refine r_iload_n dX5_worst_68 rfl ?_
          refine r_goto 73 dX5_worst_69 (by decide) ?_
          refine r_istore_n (lv' := [_, _, _, _]) dX5_worst_73 (by decide) rfl ?_
          refine r_iinc (lv' := [_, _, _, _]) dX5_worst_74 (by decide) rfl (by first | exact inc1 _ | exact inc1_ _) rfl ?_
          refine r_goto 43 dX5_worst_77 (by decide) ?_
          have e := ih (j + 1) (by omega)
          first
          | (rw [mxP, if_pos c65] at e; exact e)
          | (rw [mxP, if_neg c65] at e; exact e)
  refine r_iload_n dX5_worst_0 rfl ?_
  refine r_s1r M_isAhead (Nat.le_of_ble_eq_true rfl) mrX5_isAhead lkX5_159 dX5_worst_1 (Nat.le_of_ble_eq_true rfl) ?_
  refine r_if_neB 14 dX5_worst_4 (by decide) (fun c4 => ?_) (fun c4 => ?_)
  · refine r_aload_n dX5_worst_14 rfl ?_
    refine r_getfield dX5_worst_15 gfX5_7 rfl rfl ?_
    refine r_iconst (v := nI 1) dX5_worst_18 (by decide) ?_
    refine r_ialdN dX5_worst_19 rfl (by first | decide | omega) (Nat.le_of_ble_eq_true rfl) enc1 ?_
    refine r_if_ne 30 dX5_worst_20 (by decide) (fun c20 => ?_) (fun c20 => ?_)
    · obtain ⟨m, h1, h2, rfl⟩ := inR_of c4 (by decide) (by decide)
      have em : tn (nI m) = m := nI_clamp (by omega)
      have hn := hw.1
      have h0 : cnt R ≠ 0 := fun z => c20 (by rw [z]; rfl)
      refine r_aload_n dX5_worst_30 rfl ?_
      refine r_v0n M_laysAside (Nat.le_of_ble_eq_true rfl) mrX5_laysAside lkX5_153 rfl rfl rfl dX5_worst_31 (Nat.le_of_ble_eq_true rfl) ?_
      refine r_aload_n dX5_worst_34 rfl ?_
      refine r_iload_n dX5_worst_35 rfl ?_
      refine r_v1n (M_stepsGo hw (by omega)) (Nat.le_of_ble_eq_true rfl) mrX5_stepsGo lkX5_148 rfl rfl rfl dX5_worst_36 (Nat.le_of_ble_eq_true rfl) ?_
      refine r_iconst (v := nI 0) dX5_worst_39 (by decide) ?_
      refine r_istore_n (lv' := [_, _, _, _]) dX5_worst_40 (by decide) rfl ?_
      refine r_iconst (v := nI 1) dX5_worst_41 (by decide) ?_
      refine r_istore_n (lv' := [_, _, _, _]) dX5_worst_42 (by decide) rfl ?_
      simp only [o_worst, c4, c20, em, if_false]
      exact L m (stpN m R) (stpFN m R fl) (wf_stpN hw m) (stpN_cnt m R) (cnt R - 1) 0 (by omega)
    · refine r_aload_n dX5_worst_23 rfl ?_
      refine r_ldc kX5_165 dX5_worst_24 ?_
      refine r_v1r (M_finds 3 (by decide) (by decide)) (Nat.le_of_ble_eq_true rfl) mrX5_finds lkX5_66 rfl rfl rfl dX5_worst_26 (Nat.le_of_ble_eq_true rfl) ?_
      refine r_iret dX5_worst_29 rfl rfl ?_ ?_
      · simp only [o_worst, c4, c20, if_true, if_false, eq_self, decide_true, decide_false, not_true, not_false_eq_true, Bool.true_and, Bool.and_true, Bool.false_and, Bool.and_false, Bool.true_or, Bool.or_true, Bool.false_or, Bool.or_false, Bool.not_true, Bool.not_false]
        rfl
      · simp only [o_worst, c4, c20, if_true, if_false, eq_self, decide_true, decide_false, not_true, not_false_eq_true, Bool.true_and, Bool.and_true, Bool.false_and, Bool.and_false, Bool.true_or, Bool.or_true, Bool.false_or, Bool.or_false, Bool.not_true, Bool.not_false]
        exact ⟨ks, ot, as, fl, hk, HE.rf⟩
  · refine r_aload_n dX5_worst_7 rfl ?_
    refine r_ldc kX5_41 dX5_worst_8 ?_
    refine r_v1r (M_finds 0 (by decide) (by decide)) (Nat.le_of_ble_eq_true rfl) mrX5_finds lkX5_66 rfl rfl rfl dX5_worst_10 (Nat.le_of_ble_eq_true rfl) ?_
    refine r_iret dX5_worst_13 rfl rfl ?_ ?_
    · simp only [o_worst, c4, if_true, if_false, eq_self, decide_true, decide_false, not_true, not_false_eq_true, Bool.true_and, Bool.and_true, Bool.false_and, Bool.and_false, Bool.true_or, Bool.or_true, Bool.false_or, Bool.or_false, Bool.not_true, Bool.not_false]
      rfl
    · simp only [o_worst, c4, if_true, if_false, eq_self, decide_true, decide_false, not_true, not_false_eq_true, Bool.true_and, Bool.and_true, Bool.false_and, Bool.and_false, Bool.true_or, Bool.or_true, Bool.false_or, Bool.or_false, Bool.not_true, Bool.not_false]
      exact ⟨ks, ot, as, fl, hk, HE.rf⟩
theorem N_image {R : RS} {ks ot as : Nat → Int32} {fl : Int32} {kp : Bool} {tc : Nat → Int32} {g : GO} {K : RS}   (hk : kp = true → ∀ i, i < 37 → ks i = enc K i) : SpQ 11 mX5_image [.ref 0] (hM (enc R) ks ot as fl kp tc g) (some (.int (o_image R K kp tc ).1)) (qM (o_image R K kp tc ).2 g) := by
  refine SpQ.of [some (.ref 0), none] mrX5_image.1 (fun _ q => qM_len q) (Nat.le_of_ble_eq_true rfl) rfl (fun X => ?_)
  have L : ∀ (k i : Nat), i + k = 37 → RunQ X 11 mX5_image 2 [some (.ref 0), some (.int (nI i))] [] (hM (enc R) (prg i (enc R) ks) ot as fl kp tc g) (some (.int (nI 1))) (qM (R, R, true, tc) g) := by
    intro k
    induction k with
    | zero =>
      intro i hi
      obtain rfl : i = 37 := by omega
      refine r_iload_n dX5_image_2 rfl ?_
      refine r_bipush (v := nI 37) dX5_image_3 (by decide) ?_
      refine r_icmp_ge 26 dX5_image_5 (by decide) (fun c5 => ?_) (fun c5 => ?_)
      · refine r_aload_n dX5_image_26 rfl ?_
        refine r_iconst (v := nI 1) dX5_image_27 (by decide) ?_
        refine r_putfield (fs' := [_, _, _, _, _, _, _, _, _, _, _, _, _, _, _, _, _]) (h' := [_, _, _, _, _, _]) dX5_image_28 pfX5_302 rfl (Nat.le_of_ble_eq_true rfl) (fun _ => rfl) rfl rfl rfl rfl ?_
        refine r_iconst (v := nI 1) dX5_image_31 (by decide) ?_
        refine r_iret dX5_image_32 rfl rfl ?_ ?_
        · rfl
        · exact ⟨prg 37 (enc R) ks, ot, as, fl, fun _ i hi => prg_lo hi, HE.rf⟩
      · exact absurd (nI_le (Nat.le_refl _) (by omega)) c5
    | succ k ih =>
      intro i hi
      refine r_iload_n dX5_image_2 rfl ?_
      refine r_bipush (v := nI 37) dX5_image_3 (by decide) ?_
      refine r_icmp_ge 26 dX5_image_5 (by decide) (fun c5 => ?_) (fun c5 => ?_)
      · exact absurd c5 (nI_ge (by omega) (by omega))
      · refine r_aload_n dX5_image_8 rfl ?_
        refine r_getfield dX5_image_9 gfX5_13 rfl rfl ?_
        refine r_iload_n dX5_image_12 rfl ?_
        refine r_aload_n dX5_image_13 rfl ?_
        refine r_getfield dX5_image_14 gfX5_7 rfl rfl ?_
        refine r_iload_n dX5_image_17 rfl ?_
        refine r_ialdN dX5_image_18 rfl (by omega) (Nat.le_of_ble_eq_true rfl) rfl ?_
        refine r_iastN (h' := [_, _, _, _, _, _]) dX5_image_19 rfl (by omega) (Nat.le_of_ble_eq_true rfl) rfl ?_
        rw [prg_upd rfl]
        refine r_iinc (lv' := [_, _]) dX5_image_20 (by decide) rfl (by first | exact inc1 _ | exact inc1_ _) rfl ?_
        refine r_goto 2 dX5_image_23 (by decide) ?_
        exact ih (i + 1) (by omega)
  refine r_iconst (v := nI 0) dX5_image_0 (by decide) ?_
  refine r_istore_n (lv' := [_, _]) dX5_image_1 (by decide) rfl ?_
  exact L 37 0 (by omega)
theorem N_undo {R : RS} {ks ot as : Nat → Int32} {fl : Int32} {kp : Bool} {tc : Nat → Int32} {g : GO} {K : RS}   (hk : kp = true → ∀ i, i < 37 → ks i = enc K i) : SpQ 11 mX5_undo [.ref 0] (hM (enc R) ks ot as fl kp tc g) (some (.int (o_undo R K kp tc ).1)) (qM (o_undo R K kp tc ).2 g) := by
  refine SpQ.of [some (.ref 0), none] mrX5_undo.1 (fun _ q => qM_len q) (Nat.le_of_ble_eq_true rfl) rfl (fun X => ?_)
  have L : kp = true → ∀ (k i : Nat), i + k = 37 → RunQ X 11 mX5_undo 16 [some (.ref 0), some (.int (nI i))] [] (hM (prg i ks (enc R)) ks ot as fl kp tc g) (some (.int (nI (cnt K)))) (qM (K, K, true, tc) g) := by
    intro e9 k
    induction k with
    | zero =>
      intro i hi
      obtain rfl : i = 37 := by omega
      have hks := hk e9
      subst e9
      refine r_iload_n dX5_undo_16 rfl ?_
      refine r_bipush (v := nI 37) dX5_undo_17 (by decide) ?_
      refine r_icmp_ge 40 dX5_undo_19 (by decide) (fun c19 => ?_) (fun c19 => ?_)
      · refine r_heq (h' := hM (enc K) ks ot as fl true tc g) ⟨CE.rf, CE.ints (fun i hi => (prg_lo hi).trans (hks i hi)), CE.rf, CE.rf, CE.rf, CE.rf, trivial⟩ ?_
        refine r_aload_n dX5_undo_40 rfl ?_
        refine r_getfield dX5_undo_41 gfX5_7 rfl rfl ?_
        refine r_iconst (v := nI 1) dX5_undo_44 (by decide) ?_
        refine r_ialdN dX5_undo_45 rfl (by first | decide | omega) (Nat.le_of_ble_eq_true rfl) enc1 ?_
        refine r_iret dX5_undo_46 rfl rfl ?_ ?_
        · rfl
        · exact ⟨ks, ot, as, fl, fun _ => hks, HE.rf⟩
      · exact absurd (nI_le (Nat.le_refl _) (by omega)) c19
    | succ k ih =>
      intro i hi
      refine r_iload_n dX5_undo_16 rfl ?_
      refine r_bipush (v := nI 37) dX5_undo_17 (by decide) ?_
      refine r_icmp_ge 40 dX5_undo_19 (by decide) (fun c19 => ?_) (fun c19 => ?_)
      · exact absurd c19 (nI_ge (by omega) (by omega))
      · refine r_aload_n dX5_undo_22 rfl ?_
        refine r_getfield dX5_undo_23 gfX5_7 rfl rfl ?_
        refine r_iload_n dX5_undo_26 rfl ?_
        refine r_aload_n dX5_undo_27 rfl ?_
        refine r_getfield dX5_undo_28 gfX5_13 rfl rfl ?_
        refine r_iload_n dX5_undo_31 rfl ?_
        refine r_ialdN dX5_undo_32 rfl (by omega) (Nat.le_of_ble_eq_true rfl) rfl ?_
        refine r_iastN (h' := [_, _, _, _, _, _]) dX5_undo_33 rfl (by omega) (Nat.le_of_ble_eq_true rfl) rfl ?_
        rw [prg_upd rfl]
        refine r_iinc (lv' := [_, _]) dX5_undo_34 (by decide) rfl (by first | exact inc1 _ | exact inc1_ _) rfl ?_
        refine r_goto 16 dX5_undo_37 (by decide) ?_
        exact ih (i + 1) (by omega)
  refine r_aload_n dX5_undo_0 rfl ?_
  refine r_getfield dX5_undo_1 gfX5_302 rfl rfl ?_
  refine r_if_neB 14 dX5_undo_4 (by decide) (fun c4 => ?_) (fun c4 => ?_)
  · refine r_iconst (v := nI 0) dX5_undo_14 (by decide) ?_
    refine r_istore_n (lv' := [_, _]) dX5_undo_15 (by decide) rfl ?_
    have e := L c4 37 0 (by omega)
    simp only [o_undo, c4]
    rw [c4] at e
    exact e
  · refine r_aload_n dX5_undo_7 rfl ?_
    refine r_ldc kX5_165 dX5_undo_8 ?_
    refine r_v1r (M_finds 3 (by decide) (by decide)) (Nat.le_of_ble_eq_true rfl) mrX5_finds lkX5_66 rfl rfl rfl dX5_undo_10 (Nat.le_of_ble_eq_true rfl) ?_
    refine r_iret dX5_undo_13 rfl rfl ?_ ?_
    · rw [c4]
      rfl
    · rw [c4]
      exact ⟨ks, ot, as, fl, (fun z => Bool.noConfusion (show false = true from z)), HE.rf⟩
theorem N_tear {R : RS} {ks ot as : Nat → Int32} {fl : Int32} {kp : Bool} {tc : Nat → Int32} {g : GO} {K : RS}   (hk : kp = true → ∀ i, i < 37 → ks i = enc K i) : SpQ 11 mX5_tear [.ref 0] (hM (enc R) ks ot as fl kp tc g) (some (.int (o_tear R K kp tc ).1)) (qM (o_tear R K kp tc ).2 g) := by
  refine SpQ.of [some (.ref 0), none] mrX5_tear.1 (fun _ q => qM_len q) (Nat.le_of_ble_eq_true rfl) rfl (fun X => ?_)
  refine r_aload_n dX5_tear_0 rfl ?_
  refine r_getfield dX5_tear_1 gfX5_302 rfl rfl ?_
  refine r_if_eqB 11 dX5_tear_4 (by decide) (fun c4 => ?_) (fun c4 => ?_)
  · refine r_iconst (v := nI 0) dX5_tear_11 (by decide) ?_
    refine r_istore_n (lv' := [_, _]) dX5_tear_12 (by decide) rfl ?_
    refine r_aload_n dX5_tear_13 rfl ?_
    refine r_iconst (v := nI 0) dX5_tear_14 (by decide) ?_
    refine r_putfield (fs' := [_, _, _, _, _, _, _, _, _, _, _, _, _, _, _, _, _]) (h' := [_, _, _, _, _, _]) dX5_tear_15 pfX5_302 rfl (Nat.le_of_ble_eq_true rfl) (fun _ => rfl) rfl rfl rfl rfl ?_
    refine r_iload_n dX5_tear_18 rfl ?_
    refine r_iret dX5_tear_19 rfl rfl ?_ ?_
    · subst c4
      rfl
    · exact ⟨ks, ot, as, fl, (fun z => Bool.noConfusion (show false = true from z)), HE.rf⟩
  · refine r_iconst (v := nI 1) dX5_tear_7 (by decide) ?_
    refine r_goto 12 dX5_tear_8 (by decide) ?_
    refine r_istore_n (lv' := [_, _]) dX5_tear_12 (by decide) rfl ?_
    refine r_aload_n dX5_tear_13 rfl ?_
    refine r_iconst (v := nI 0) dX5_tear_14 (by decide) ?_
    refine r_putfield (fs' := [_, _, _, _, _, _, _, _, _, _, _, _, _, _, _, _, _]) (h' := [_, _, _, _, _, _]) dX5_tear_15 pfX5_302 rfl (Nat.le_of_ble_eq_true rfl) (fun _ => rfl) rfl rfl rfl rfl ?_
    refine r_iload_n dX5_tear_18 rfl ?_
    refine r_iret dX5_tear_19 rfl rfl ?_ ?_
    · subst c4
      rfl
    · exact ⟨ks, ot, as, fl, (fun z => Bool.noConfusion (show false = true from z)), HE.rf⟩
def stF (tc : Nat → Int32) (w : Int32) (i : Nat) : Int32 := if w < 0 then tc i else if nI i = w then tc i else 0
theorem stF_neg {tc : Nat → Int32} {w : Int32} (h : w < 0) : ∀ n, sumF (stF tc w) n = sumF tc n
  | 0 => rfl
  | n + 1 => by rw [sumF, sumF, stF_neg h n, stF, if_pos h]
theorem stF_lo {tc : Nat → Int32} {w : Nat} : ∀ n, n ≤ w → w < 7 → sumF (stF tc (nI w)) n = 0
  | 0, _, _ => rfl
  | n + 1, h, h7 => by
    rw [sumF, stF_lo n (by omega) h7, stF, if_neg (Int32.not_lt.mpr (nI_pos' (by omega))), if_neg (fun z => by have := (nI_eq (by omega) (by omega)).mp z; omega)]
    rfl
theorem stF_hi {tc : Nat → Int32} {w : Nat} (h7 : w < 7) : ∀ n, w < n → n ≤ 7 → sumF (stF tc (nI w)) n = tc w
  | 0, h, _ => absurd h (by omega)
  | n + 1, h, hn => by
    rcases Nat.lt_or_ge w n with q | q
    · rw [sumF, stF_hi h7 n q (by omega), stF, if_neg (Int32.not_lt.mpr (nI_pos' (by omega))), if_neg (fun z => by have := (nI_eq (by omega) (by omega)).mp z; omega), Int32.add_zero]
    · obtain rfl : n = w := by omega
      rw [sumF, stF_lo n (Nat.le_refl _) h7, stF, if_neg (Int32.not_lt.mpr (nI_pos' (by omega))), if_pos rfl, Int32.zero_add]
theorem N_status {R : RS} {ks ot as : Nat → Int32} {fl : Int32} {kp : Bool} {tc : Nat → Int32} {g : GO} {K : RS} {w : Int32}  (hk : kp = true → ∀ i, i < 37 → ks i = enc K i) : SpQ 11 mX5_status [.ref 0, .int w] (hM (enc R) ks ot as fl kp tc g) (some (.int (o_status R K kp tc w).1)) (qM (o_status R K kp tc w).2 g) := by
  refine SpQ.of [some (.ref 0), some (.int w), none, none] mrX5_status.1 (fun _ q => qM_len q) (Nat.le_of_ble_eq_true rfl) rfl (fun X => ?_)
  have L : ∀ (k i : Nat), i + k = 7 → RunQ X 11 mX5_status 25 [some (.ref 0), some (.int w), some (.int (sumF (stF tc w) i)), some (.int (nI i))] [] (hM (enc R) ks ot as fl kp tc g) (some (.int (sumF (stF tc w) 7))) (qM (R, K, kp, tc) g) := by
    intro k
    induction k with
    | zero =>
      intro i hi
      obtain rfl : i = 7 := by omega
      refine r_iload_n dX5_status_25 rfl ?_
      refine r_bipush (v := nI 7) dX5_status_26 (by decide) ?_
      refine r_icmp_ge 59 dX5_status_28 (by decide) (fun c28 => ?_) (fun c28 => ?_)
      · refine r_iload_n dX5_status_59 rfl ?_
        refine r_iret dX5_status_60 rfl rfl ?_ ?_
        · rfl
        · exact ⟨ks, ot, as, fl, hk, HE.rf⟩
      · exact absurd (nI_le (Nat.le_refl _) (by omega)) c28
    | succ k ih =>
      intro i hi
      refine r_iload_n dX5_status_25 rfl ?_
      refine r_bipush (v := nI 7) dX5_status_26 (by decide) ?_
      refine r_icmp_ge 59 dX5_status_28 (by decide) (fun c28 => ?_) (fun c28 => ?_)
      · exact absurd c28 (nI_ge (by omega) (by omega))
      · refine r_iload_n dX5_status_31 rfl ?_
        refine r_iload_n dX5_status_32 rfl ?_
        refine r_if_lt 41 dX5_status_33 (by decide) (fun c33 => ?_) (fun c33 => ?_)
        · refine r_aload_n dX5_status_41 rfl ?_
          refine r_getfield dX5_status_42 gfX5_22 rfl rfl ?_
          refine r_iload_n dX5_status_45 rfl ?_
          refine r_ialdN dX5_status_46 rfl (by omega) (Nat.le_of_ble_eq_true rfl) rfl ?_
          refine r_goto 51 dX5_status_47 (by decide) ?_
          refine r_iadd dX5_status_51 ?_
          refine r_istore_n (lv' := [_, _, _, _]) dX5_status_52 (by decide) rfl ?_
          refine r_iinc (lv' := [_, _, _, _]) dX5_status_53 (by decide) rfl (by first | exact inc1 _ | exact inc1_ _) rfl ?_
          refine r_goto 25 dX5_status_56 (by decide) ?_
          have e := ih (i + 1) (by omega)
          first
          | (rw [sumF, stF, if_pos c33] at e; exact e)
          | (rw [sumF, stF, if_neg c33, if_pos c38] at e; exact e)
          | (rw [sumF, stF, if_neg c33, if_neg c38] at e; exact e)
        · refine r_iload_n dX5_status_36 rfl ?_
          refine r_iload_n dX5_status_37 rfl ?_
          refine r_icmp_ne 50 dX5_status_38 (by decide) (fun c38 => ?_) (fun c38 => ?_)
          · refine r_iconst (v := nI 0) dX5_status_50 (by decide) ?_
            refine r_iadd dX5_status_51 ?_
            refine r_istore_n (lv' := [_, _, _, _]) dX5_status_52 (by decide) rfl ?_
            refine r_iinc (lv' := [_, _, _, _]) dX5_status_53 (by decide) rfl (by first | exact inc1 _ | exact inc1_ _) rfl ?_
            refine r_goto 25 dX5_status_56 (by decide) ?_
            have e := ih (i + 1) (by omega)
            first
            | (rw [sumF, stF, if_pos c33] at e; exact e)
            | (rw [sumF, stF, if_neg c33, if_pos c38] at e; exact e)
            | (rw [sumF, stF, if_neg c33, if_neg c38] at e; exact e)
          · refine r_aload_n dX5_status_41 rfl ?_
            refine r_getfield dX5_status_42 gfX5_22 rfl rfl ?_
            refine r_iload_n dX5_status_45 rfl ?_
            refine r_ialdN dX5_status_46 rfl (by omega) (Nat.le_of_ble_eq_true rfl) rfl ?_
            refine r_goto 51 dX5_status_47 (by decide) ?_
            refine r_iadd dX5_status_51 ?_
            refine r_istore_n (lv' := [_, _, _, _]) dX5_status_52 (by decide) rfl ?_
            refine r_iinc (lv' := [_, _, _, _]) dX5_status_53 (by decide) rfl (by first | exact inc1 _ | exact inc1_ _) rfl ?_
            refine r_goto 25 dX5_status_56 (by decide) ?_
            have e := ih (i + 1) (by omega)
            first
            | (rw [sumF, stF, if_pos c33] at e; exact e)
            | (rw [sumF, stF, if_neg c33, if_pos c38] at e; exact e)
            | (rw [sumF, stF, if_neg c33, if_neg c38] at e; exact e)
  have S9 : inR w (-1) (nI 6) = true → o_status R K kp tc w = (sumF (stF tc w) 7, R, K, kp, tc) := by
    intro c
    simp only [o_status, c]
    by_cases q : w < 0
    · rw [if_pos q, stF_neg q]
    · rw [if_neg q]
      obtain ⟨v, hv, rfl⟩ := nI_of q
      simp only [inR, Bool.and_eq_true, decide_eq_true_eq] at c
      have h6 : v ≤ 6 := (nI_leI hv (by decide)).mp c.2
      rw [stF_hi (by omega) 7 (by omega) (by omega), show tn (nI v) = v from nI_clamp (by omega)]
  refine r_iload_n dX5_status_0 rfl ?_
  refine r_i2l dX5_status_1 ?_
  refine r_ldc2 kX5_308 dX5_status_2 ?_
  refine r_ldc2 kX5_310 dX5_status_5 ?_
  refine r_s3r (M_in (lo := -1) (hi := nI 6) (by decide) (by decide)) (Nat.le_of_ble_eq_true rfl) mrX5_in lkX5_46 dX5_status_8 (Nat.le_of_ble_eq_true rfl) ?_
  refine r_if_neB 21 dX5_status_11 (by decide) (fun c11 => ?_) (fun c11 => ?_)
  · refine r_iconst (v := nI 0) dX5_status_21 (by decide) ?_
    refine r_istore_n (lv' := [_, _, _, _]) dX5_status_22 (by decide) rfl ?_
    refine r_iconst (v := nI 0) dX5_status_23 (by decide) ?_
    refine r_istore_n (lv' := [_, _, _, _]) dX5_status_24 (by decide) rfl ?_
    rw [S9 c11]
    exact L 7 0 (by omega)
  · refine r_aload_n dX5_status_14 rfl ?_
    refine r_ldc kX5_41 dX5_status_15 ?_
    refine r_v1r (M_finds 0 (by decide) (by decide)) (Nat.le_of_ble_eq_true rfl) mrX5_finds lkX5_66 rfl rfl rfl dX5_status_17 (Nat.le_of_ble_eq_true rfl) ?_
    refine r_iret dX5_status_20 rfl rfl ?_ ?_
    · simp only [o_status, c11, if_true, if_false, eq_self, decide_true, decide_false, not_true, not_false_eq_true, Bool.true_and, Bool.and_true, Bool.false_and, Bool.and_false, Bool.true_or, Bool.or_true, Bool.false_or, Bool.or_false, Bool.not_true, Bool.not_false]
      rfl
    · simp only [o_status, c11, if_true, if_false, eq_self, decide_true, decide_false, not_true, not_false_eq_true, Bool.true_and, Bool.and_true, Bool.false_and, Bool.and_false, Bool.true_or, Bool.or_true, Bool.false_or, Bool.or_false, Bool.not_true, Bool.not_false]
      exact ⟨ks, ot, as, fl, hk, HE.rf⟩

