/-! the class: order, kind, least, clear, nerve, worst -/
theorem inn_t {f : Nat → Nat → Int32} {p : Nat} {q : Int32 × Int32} {j : Nat} (h : f p (p + 1 + j) < (inn f p q j).2) : inn f p q (j + 1) = (nI 10 * nI p + nI (p + 1 + j), f p (p + 1 + j)) := by rw [inn, if_pos h]
theorem inn_f {f : Nat → Nat → Int32} {p : Nat} {q : Int32 × Int32} {j : Nat} (h : ¬ f p (p + 1 + j) < (inn f p q j).2) : inn f p q (j + 1) = inn f p q j := by rw [inn, if_neg h]
theorem Q_order {R A K : RS} {f1 f2 f3 : Int32} {kp : Bool} {tc : Nat → Int32} {m : Int32} (hn : cnt R ≤ 8) : SpQ 11 mX4_order [.ref 0, .int m] (hC R A K f1 f2 f3 kp tc) (some (.int (o_order R K kp tc m).1)) (qC (o_order R K kp tc m).2) := by
  refine SpQ.of [some (.ref 0), some (.int m), none, none, none, none, none] mrX4_order.1 (fun _ q => qC_len q) (Nat.le_of_ble_eq_true rfl) rfl (fun X => ?_)
  have E : ∀ (m : Nat) (y : Int32) (A : RS) (f2 : Int32), RunQ X 11 mX4_order 114 [some (.ref 0), some (.int (nI m)), none, some (.int y), none, none, none] [] (hC R A K f1 f2 f3 kp tc) (some (.int (neg R K kp tc y).1)) (qC (neg R K kp tc y).2) := by
    intro m y A f2
    refine r_iload_n dX4_order_114 rfl ?_
    refine r_if_ge 127 dX4_order_115 (by decide) (fun c115 => ?_) (fun c115 => ?_)
    · refine r_iload_n dX4_order_127 rfl ?_
      refine r_iret dX4_order_128 rfl rfl ?_ ?_
      · first | (simp only [neg, c115, if_true, if_false, eq_self, decide_true, decide_false, not_true, not_false_eq_true, Bool.true_and, Bool.and_true, Bool.false_and, Bool.and_false, Bool.true_or, Bool.or_true, Bool.false_or, Bool.or_false, Bool.not_true, Bool.not_false]; done) | (simp only [neg, c115, if_true, if_false, eq_self, decide_true, decide_false, not_true, not_false_eq_true, Bool.true_and, Bool.and_true, Bool.false_and, Bool.and_false, Bool.true_or, Bool.or_true, Bool.false_or, Bool.or_false, Bool.not_true, Bool.not_false]; rfl)
      · simp only [neg, c115, if_true, if_false, eq_self, decide_true, decide_false, not_true, not_false_eq_true, Bool.true_and, Bool.and_true, Bool.false_and, Bool.and_false, Bool.true_or, Bool.or_true, Bool.false_or, Bool.or_false, Bool.not_true, Bool.not_false]
        exact ⟨A, f1, f2, f3, HE.rf⟩
    · refine r_aload_n dX4_order_118 rfl ?_
      refine r_ldc kX4_152 dX4_order_119 ?_
      refine r_v1r (C_tell 3 (by decide) (by decide)) (Nat.le_of_ble_eq_true rfl) mrX4_tell lkX4_46 rfl rfl rfl dX4_order_121 (Nat.le_of_ble_eq_true rfl) ?_
      refine r_goto 128 dX4_order_124 (by decide) ?_
      refine r_iret dX4_order_128 rfl rfl ?_ ?_
      · first | (simp only [neg, c115, if_true, if_false, eq_self, decide_true, decide_false, not_true, not_false_eq_true, Bool.true_and, Bool.and_true, Bool.false_and, Bool.and_false, Bool.true_or, Bool.or_true, Bool.false_or, Bool.or_false, Bool.not_true, Bool.not_false]; done) | (simp only [neg, c115, if_true, if_false, eq_self, decide_true, decide_false, not_true, not_false_eq_true, Bool.true_and, Bool.and_true, Bool.false_and, Bool.and_false, Bool.true_or, Bool.or_true, Bool.false_or, Bool.or_false, Bool.not_true, Bool.not_false]; rfl)
      · simp only [neg, c115, if_true, if_false, eq_self, decide_true, decide_false, not_true, not_false_eq_true, Bool.true_and, Bool.and_true, Bool.false_and, Bool.and_false, Bool.true_or, Bool.or_true, Bool.false_or, Bool.or_false, Bool.not_true, Bool.not_false]
        exact ⟨A, f1, f2, f3, HE.rf⟩
  have L2 : ∀ (m : Nat), m < 2 ^ 31 → ∀ (p : Nat) (q : Int32 × Int32) (rv9 : Option Value) (Q9 : AH → Prop), p < cnt R → (∀ (A : RS) (f2 : Int32), RunQ X 11 mX4_order 108 [some (.ref 0), some (.int (nI m)), some (.int (inn (fun p o => fut m (swR R p o)) p q (cnt R - (p + 1))).2), some (.int (inn (fun p o => fut m (swR R p o)) p q (cnt R - (p + 1))).1), some (.int (nI p)), none, none] [] (hC R A K f1 f2 f3 kp tc) rv9 Q9) → ∀ (k j : Nat) (A : RS) (f2 : Int32), p + 1 + j + k = cnt R → RunQ X 11 mX4_order 50 [some (.ref 0), some (.int (nI m)), some (.int (inn (fun p o => fut m (swR R p o)) p q j).2), some (.int (inn (fun p o => fut m (swR R p o)) p q j).1), some (.int (nI p)), some (.int (nI (p + 1 + j))), none] [] (hC R A K f1 f2 f3 kp tc) rv9 Q9 := by
    intro m hm p q rv9 Q9 hp hk k
    induction k with
    | zero =>
      intro j A f2 hj
      obtain rfl : j = cnt R - (p + 1) := by omega
      refine r_iload dX4_order_50 rfl ?_
      refine r_aload_n dX4_order_52 rfl ?_
      refine r_getfield dX4_order_53 gfX4_12 rfl rfl ?_
      refine r_getfield dX4_order_56 gfX4_92 rfl rfl ?_
      refine r_icmp_ge 108 dX4_order_59 (by decide) (fun c59 => ?_) (fun c59 => ?_)
      · exact r_lv (lv' := [_, _, _, _, _, none, none]) (lvDrop 5 rfl) (hk A f2)
      · exact absurd (nI_le (by omega) (by omega)) c59
    | succ k ih =>
      intro j A f2 hj
      refine r_iload dX4_order_50 rfl ?_
      refine r_aload_n dX4_order_52 rfl ?_
      refine r_getfield dX4_order_53 gfX4_12 rfl rfl ?_
      refine r_getfield dX4_order_56 gfX4_92 rfl rfl ?_
      refine r_icmp_ge 108 dX4_order_59 (by decide) (fun c59 => ?_) (fun c59 => ?_)
      · exact absurd c59 (nI_ge (by omega) (by omega))
      · refine r_aload_n dX4_order_62 rfl ?_
        refine r_v0n C_lookAhead (Nat.le_of_ble_eq_true rfl) mrX4_lookAhead lkX4_140 rfl rfl rfl dX4_order_63 (Nat.le_of_ble_eq_true rfl) ?_
        refine r_aload_n dX4_order_66 rfl ?_
        refine r_getfield dX4_order_67 gfX4_16 rfl rfl ?_
        refine r_iload dX4_order_70 rfl ?_
        refine r_iload dX4_order_72 rfl ?_
        refine r_v2n (C_exch6 hn hp (by omega)) (Nat.le_of_ble_eq_true rfl) mrX1_exchange lkX4_127 rfl rfl rfl dX4_order_74 (Nat.le_of_ble_eq_true rfl) ?_
        refine r_aload_n dX4_order_77 rfl ?_
        refine r_iload_n dX4_order_78 rfl ?_
        refine r_v1r (C_stumbledIn (A := swR R p (p + 1 + j)) hn hm) (Nat.le_of_ble_eq_true rfl) mrX4_stumbledIn lkX4_143 rfl rfl rfl dX4_order_79 (Nat.le_of_ble_eq_true rfl) ?_
        refine r_istore (lv' := [_, _, _, _, _, _, _]) dX4_order_82 (by decide) rfl ?_
        refine r_iload dX4_order_84 rfl ?_
        refine r_iload_n dX4_order_86 rfl ?_
        refine r_icmp_ge 102 dX4_order_87 (by decide) (fun c87 => ?_) (fun c87 => ?_)
        · refine r_iinc (lv' := [_, _, _, _, _, _, _]) dX4_order_102 (by decide) rfl (by first | exact inc1 _ | exact inc1_ _) rfl ?_
          refine r_goto 50 dX4_order_105 (by decide) ?_
          refine r_lv (lv' := [_, _, _, _, _, _, none]) (lvDrop 6 rfl) ?_
          have e := ih (j + 1) (stpN m (swR R p (p + 1 + j))) (stpFN m (swR R p (p + 1 + j)) f2) (by omega)
          first
          | (rw [inn_t (f := (fun p o => fut m (swR R p o))) (Int32.not_le.mp c87)] at e; exact e)
          | (rw [inn_f (f := (fun p o => fut m (swR R p o))) (Int32.not_lt.mpr c87)] at e; exact e)
        · refine r_iload dX4_order_90 rfl ?_
          refine r_istore_n (lv' := [_, _, _, _, _, _, _]) dX4_order_92 (by decide) rfl ?_
          refine r_bipush (v := nI 10) dX4_order_93 (by decide) ?_
          refine r_iload dX4_order_95 rfl ?_
          refine r_imul dX4_order_97 ?_
          refine r_iload dX4_order_98 rfl ?_
          refine r_iadd dX4_order_100 ?_
          refine r_istore_n (lv' := [_, _, _, _, _, _, _]) dX4_order_101 (by decide) rfl ?_
          refine r_iinc (lv' := [_, _, _, _, _, _, _]) dX4_order_102 (by decide) rfl (by first | exact inc1 _ | exact inc1_ _) rfl ?_
          refine r_goto 50 dX4_order_105 (by decide) ?_
          refine r_lv (lv' := [_, _, _, _, _, _, none]) (lvDrop 6 rfl) ?_
          have e := ih (j + 1) (stpN m (swR R p (p + 1 + j))) (stpFN m (swR R p (p + 1 + j)) f2) (by omega)
          first
          | (rw [inn_t (f := (fun p o => fut m (swR R p o))) (Int32.not_le.mp c87)] at e; exact e)
          | (rw [inn_f (f := (fun p o => fut m (swR R p o))) (Int32.not_lt.mpr c87)] at e; exact e)
  have L1 : ∀ (m : Nat), m < 2 ^ 31 → ∀ (k i : Nat) (A : RS) (f2 : Int32), i + k = cnt R → RunQ X 11 mX4_order 32 [some (.ref 0), some (.int (nI m)), some (.int (ord (fun p o => fut m (swR R p o)) (cnt R) (-1, fut m R) i).2), some (.int (ord (fun p o => fut m (swR R p o)) (cnt R) (-1, fut m R) i).1), some (.int (nI i)), none, none] [] (hC R A K f1 f2 f3 kp tc) (some (.int (neg R K kp tc (ord (fun p o => fut m (swR R p o)) (cnt R) (-1, fut m R) (cnt R)).1).1)) (qC (neg R K kp tc (ord (fun p o => fut m (swR R p o)) (cnt R) (-1, fut m R) (cnt R)).1).2) := by
    intro m hm k
    induction k with
    | zero =>
      intro i A f2 hi
      obtain rfl : i = cnt R := by omega
      refine r_iload dX4_order_32 rfl ?_
      refine r_aload_n dX4_order_34 rfl ?_
      refine r_getfield dX4_order_35 gfX4_12 rfl rfl ?_
      refine r_getfield dX4_order_38 gfX4_92 rfl rfl ?_
      refine r_icmp_ge 114 dX4_order_41 (by decide) (fun c41 => ?_) (fun c41 => ?_)
      · refine r_lv (lv' := [_, _, none, _, _, none, none]) (lvDrop 2 rfl) ?_
        exact r_lv (lv' := [_, _, none, _, none, none, none]) (lvDrop 4 rfl) (E m _ A f2)
      · exact absurd (nI_le (by omega) (by omega)) c41
    | succ k ih =>
      intro i A f2 hi
      refine r_iload dX4_order_32 rfl ?_
      refine r_aload_n dX4_order_34 rfl ?_
      refine r_getfield dX4_order_35 gfX4_12 rfl rfl ?_
      refine r_getfield dX4_order_38 gfX4_92 rfl rfl ?_
      refine r_icmp_ge 114 dX4_order_41 (by decide) (fun c41 => ?_) (fun c41 => ?_)
      · exact absurd c41 (nI_ge (by omega) (by omega))
      · refine r_iload dX4_order_44 rfl ?_
        refine r_iconst (v := nI 1) dX4_order_46 (by decide) ?_
        refine r_iadd dX4_order_47 ?_
        refine r_istore (lv' := [_, _, _, _, _, _, _]) dX4_order_48 (by decide) rfl ?_
        rw [nI_add]
        refine L2 m hm i (ord (fun p o => fut m (swR R p o)) (cnt R) (-1, fut m R) i) _ _ (by omega) (fun A f2 => ?_) (cnt R - (i + 1)) 0 A f2 (by omega)
        refine r_iinc (lv' := [_, _, _, _, _, _, _]) dX4_order_108 (by decide) rfl (inc1 _) rfl ?_
        refine r_goto 32 dX4_order_111 (by decide) ?_
        exact ih (i + 1) A f2 (by omega)
  refine r_iload_n dX4_order_0 rfl ?_
  refine r_iconst (v := nI 1) dX4_order_1 (by decide) ?_
  refine r_bipush (v := nI 100) dX4_order_2 (by decide) ?_
  refine r_s3r S_X4_within (Nat.le_of_ble_eq_true rfl) mrX4_within lkX4_41 dX4_order_4 (Nat.le_of_ble_eq_true rfl) ?_
  refine r_if_neB 17 dX4_order_7 (by decide) (fun c7 => ?_) (fun c7 => ?_)
  · obtain ⟨m, h1, h2, rfl⟩ := inR_of c7 (by decide) (by decide)
    have em : tn (nI m) = m := nI_clamp (by omega)
    refine r_aload_n dX4_order_17 rfl ?_
    refine r_v0n C_lookAhead (Nat.le_of_ble_eq_true rfl) mrX4_lookAhead lkX4_140 rfl rfl rfl dX4_order_18 (Nat.le_of_ble_eq_true rfl) ?_
    refine r_aload_n dX4_order_21 rfl ?_
    refine r_iload_n dX4_order_22 rfl ?_
    refine r_v1r (C_stumbledIn hn (by omega)) (Nat.le_of_ble_eq_true rfl) mrX4_stumbledIn lkX4_143 rfl rfl rfl dX4_order_23 (Nat.le_of_ble_eq_true rfl) ?_
    refine r_istore_n (lv' := [_, _, _, _, _, _, _]) dX4_order_26 (by decide) rfl ?_
    refine r_iconst (v := (-1)) dX4_order_27 (by decide) ?_
    refine r_istore_n (lv' := [_, _, _, _, _, _, _]) dX4_order_28 (by decide) rfl ?_
    refine r_iconst (v := nI 0) dX4_order_29 (by decide) ?_
    refine r_istore (lv' := [_, _, _, _, _, _, _]) dX4_order_30 (by decide) rfl ?_
    simp only [o_order, c7, em]
    exact L1 m (by omega) (cnt R) 0 (stpN m R) (stpFN m R f2) (by omega)
  · refine r_aload_n dX4_order_10 rfl ?_
    refine r_ldc kX4_45 dX4_order_11 ?_
    refine r_v1r (C_tell 0 (by decide) (by decide)) (Nat.le_of_ble_eq_true rfl) mrX4_tell lkX4_46 rfl rfl rfl dX4_order_13 (Nat.le_of_ble_eq_true rfl) ?_
    refine r_iret dX4_order_16 rfl rfl ?_ ?_
    · simp only [o_order, c7, if_true, if_false, eq_self, decide_true, decide_false, not_true, not_false_eq_true, Bool.true_and, Bool.and_true, Bool.false_and, Bool.and_false, Bool.true_or, Bool.or_true, Bool.false_or, Bool.or_false, Bool.not_true, Bool.not_false]
      rfl
    · simp only [o_order, c7, if_true, if_false, eq_self, decide_true, decide_false, not_true, not_false_eq_true, Bool.true_and, Bool.and_true, Bool.false_and, Bool.and_false, Bool.true_or, Bool.or_true, Bool.false_or, Bool.or_false, Bool.not_true, Bool.not_false]
      exact ⟨A, f1, f2, f3, HE.rf⟩
theorem Q_kind {R A K : RS} {f1 f2 f3 : Int32} {kp : Bool} {tc : Nat → Int32} {x m : Int32} (hn : cnt R ≤ 8) : SpQ 11 mX4_kind [.ref 0, .int x, .int m] (hC R A K f1 f2 f3 kp tc) (some (.int (o_kind R K kp tc x m).1)) (qC (o_kind R K kp tc x m).2) := by
  refine SpQ.of [some (.ref 0), some (.int x), some (.int m), none, none, none] mrX4_kind.1 (fun _ q => qC_len q) (Nat.le_of_ble_eq_true rfl) rfl (fun X => ?_)
  have L : ∀ (p m : Nat), p < 8 → m < 2 ^ 31 → ∀ (k i : Nat) (A : RS) (f2 : Int32), i + k = 6 → RunQ X 11 mX4_kind 37 [some (.ref 0), some (.int (nI p)), some (.int (nI m)), some (.int (mnB (fun k => rS (stpN m (sK R (upd (rK R) p (nI k)))) p) (nI 0, 79993) i).1), some (.int (mnB (fun k => rS (stpN m (sK R (upd (rK R) p (nI k)))) p) (nI 0, 79993) i).2), some (.int (nI i))] [] (hC R A K f1 f2 f3 kp tc) (some (.int (mnB (fun k => rS (stpN m (sK R (upd (rK R) p (nI k)))) p) (nI 0, 79993) 6).1)) (qC (R, K, kp, tc)) := by
    intro p m hp hm k
    induction k with
    | zero =>
      intro i A f2 hi
      obtain rfl : i = 6 := by omega
      refine r_iload dX4_kind_37 rfl ?_
      refine r_bipush (v := nI 6) dX4_kind_39 (by decide) ?_
      refine r_icmp_ge 101 dX4_kind_41 (by decide) (fun c41 => ?_) (fun c41 => ?_)
      · refine r_iload_n dX4_kind_101 rfl ?_
        refine r_iret dX4_kind_102 rfl rfl ?_ ?_
        · rfl
        · exact ⟨A, f1, f2, f3, HE.rf⟩
      · exact absurd (nI_le (Nat.le_refl _) (by omega)) c41
    | succ k ih =>
      intro i A f2 hi
      refine r_iload dX4_kind_37 rfl ?_
      refine r_bipush (v := nI 6) dX4_kind_39 (by decide) ?_
      refine r_icmp_ge 101 dX4_kind_41 (by decide) (fun c41 => ?_) (fun c41 => ?_)
      · exact absurd c41 (nI_ge (by omega) (by omega))
      · refine r_aload_n dX4_kind_44 rfl ?_
        refine r_v0n C_lookAhead (Nat.le_of_ble_eq_true rfl) mrX4_lookAhead lkX4_140 rfl rfl rfl dX4_kind_45 (Nat.le_of_ble_eq_true rfl) ?_
        refine r_aload_n dX4_kind_48 rfl ?_
        refine r_getfield dX4_kind_49 gfX4_16 rfl rfl ?_
        refine r_getfield dX4_kind_52 gfX4_95 rfl rfl ?_
        refine r_iload_n dX4_kind_55 rfl ?_
        refine r_iload dX4_kind_56 rfl ?_
        refine r_iastN (h' := [_, _, _, _, _, _, _, _, _, _, _, _, _, _, _, _, _]) dX4_kind_58 rfl (by first | decide | omega) (Nat.le_of_ble_eq_true rfl) rfl ?_
        refine r_aload_n dX4_kind_59 rfl ?_
        refine r_getfield dX4_kind_60 gfX4_16 rfl rfl ?_
        refine r_iload_n dX4_kind_63 rfl ?_
        refine r_v1n (C_goSteps6 (A := sK R (upd (rK R) p (nI i))) hn hm) (Nat.le_of_ble_eq_true rfl) mrX1_goSteps lkX4_137 rfl rfl rfl dX4_kind_64 (Nat.le_of_ble_eq_true rfl) ?_
        refine r_aload_n dX4_kind_67 rfl ?_
        refine r_getfield dX4_kind_68 gfX4_16 rfl rfl ?_
        refine r_getfield dX4_kind_71 gfX4_104 rfl rfl ?_
        refine r_iload_n dX4_kind_74 rfl ?_
        refine r_ialdN dX4_kind_75 rfl (by first | decide | omega) (Nat.le_of_ble_eq_true rfl) rfl ?_
        refine r_iload dX4_kind_76 rfl ?_
        refine r_icmp_ge 95 dX4_kind_78 (by decide) (fun c78 => ?_) (fun c78 => ?_)
        · refine r_iinc (lv' := [_, _, _, _, _, _]) dX4_kind_95 (by decide) rfl (by first | exact inc1 _ | exact inc1_ _) rfl ?_
          refine r_goto 37 dX4_kind_98 (by decide) ?_
          have e := ih (i + 1) (stpN m (sK R (upd (rK R) p (nI i)))) (stpFN m (sK R (upd (rK R) p (nI i))) f2) (by omega)
          first
          | (rw [mnB_t (f := (fun k => rS (stpN m (sK R (upd (rK R) p (nI k)))) p)) (Int32.not_le.mp c78)] at e; exact e)
          | (rw [mnB_f (f := (fun k => rS (stpN m (sK R (upd (rK R) p (nI k)))) p)) (Int32.not_lt.mpr c78)] at e; exact e)
        · refine r_aload_n dX4_kind_81 rfl ?_
          refine r_getfield dX4_kind_82 gfX4_16 rfl rfl ?_
          refine r_getfield dX4_kind_85 gfX4_104 rfl rfl ?_
          refine r_iload_n dX4_kind_88 rfl ?_
          refine r_ialdN dX4_kind_89 rfl (by first | decide | omega) (Nat.le_of_ble_eq_true rfl) rfl ?_
          refine r_istore (lv' := [_, _, _, _, _, _]) dX4_kind_90 (by decide) rfl ?_
          refine r_iload dX4_kind_92 rfl ?_
          refine r_istore_n (lv' := [_, _, _, _, _, _]) dX4_kind_94 (by decide) rfl ?_
          refine r_iinc (lv' := [_, _, _, _, _, _]) dX4_kind_95 (by decide) rfl (by first | exact inc1 _ | exact inc1_ _) rfl ?_
          refine r_goto 37 dX4_kind_98 (by decide) ?_
          have e := ih (i + 1) (stpN m (sK R (upd (rK R) p (nI i)))) (stpFN m (sK R (upd (rK R) p (nI i))) f2) (by omega)
          first
          | (rw [mnB_t (f := (fun k => rS (stpN m (sK R (upd (rK R) p (nI k)))) p)) (Int32.not_le.mp c78)] at e; exact e)
          | (rw [mnB_f (f := (fun k => rS (stpN m (sK R (upd (rK R) p (nI k)))) p)) (Int32.not_lt.mpr c78)] at e; exact e)
  refine r_aload_n dX4_kind_0 rfl ?_
  refine r_getfield dX4_kind_1 gfX4_12 rfl rfl ?_
  refine r_iload_n dX4_kind_4 rfl ?_
  refine r_v1r C_has (Nat.le_of_ble_eq_true rfl) mrX1_has lkX4_54 rfl rfl rfl dX4_kind_5 (Nat.le_of_ble_eq_true rfl) ?_
  refine r_if_eqB 21 dX4_kind_8 (by decide) (fun c8 => ?_) (fun c8 => ?_)
  · refine r_aload_n dX4_kind_21 rfl ?_
    refine r_ldc kX4_45 dX4_kind_22 ?_
    refine r_v1r (C_tell 0 (by decide) (by decide)) (Nat.le_of_ble_eq_true rfl) mrX4_tell lkX4_46 rfl rfl rfl dX4_kind_24 (Nat.le_of_ble_eq_true rfl) ?_
    refine r_iret dX4_kind_27 rfl rfl ?_ ?_
    · simp only [o_kind, c8, if_true, if_false, eq_self, decide_true, decide_false, not_true, not_false_eq_true, Bool.true_and, Bool.and_true, Bool.false_and, Bool.and_false, Bool.true_or, Bool.or_true, Bool.false_or, Bool.or_false, Bool.not_true, Bool.not_false]
      rfl
    · simp only [o_kind, c8, if_true, if_false, eq_self, decide_true, decide_false, not_true, not_false_eq_true, Bool.true_and, Bool.and_true, Bool.false_and, Bool.and_false, Bool.true_or, Bool.or_true, Bool.false_or, Bool.or_false, Bool.not_true, Bool.not_false]
      exact ⟨A, f1, f2, f3, HE.rf⟩
  · refine r_iload_n dX4_kind_11 rfl ?_
    refine r_iconst (v := nI 1) dX4_kind_12 (by decide) ?_
    refine r_bipush (v := nI 100) dX4_kind_13 (by decide) ?_
    refine r_s3r S_X4_within (Nat.le_of_ble_eq_true rfl) mrX4_within lkX4_41 dX4_kind_15 (Nat.le_of_ble_eq_true rfl) ?_
    refine r_if_neB 28 dX4_kind_18 (by decide) (fun c18 => ?_) (fun c18 => ?_)
    · obtain ⟨p, hp, rfl⟩ := hasB_of c8 (by omega)
      have et : tn (nI p) = p := nI_clamp (by omega)
      obtain ⟨m, h1, h2, rfl⟩ := inR_of c18 (by decide) (by decide)
      have em : tn (nI m) = m := nI_clamp (by omega)
      refine r_iconst (v := nI 0) dX4_kind_28 (by decide) ?_
      refine r_istore_n (lv' := [_, _, _, _, _, _]) dX4_kind_29 (by decide) rfl ?_
      refine r_ldc kX4_153 dX4_kind_30 ?_
      refine r_istore (lv' := [_, _, _, _, _, _]) dX4_kind_32 (by decide) rfl ?_
      refine r_iconst (v := nI 0) dX4_kind_34 (by decide) ?_
      refine r_istore (lv' := [_, _, _, _, _, _]) dX4_kind_35 (by decide) rfl ?_
      simp only [o_kind, c8, c18, et, em]
      exact L p m (by omega) (by omega) 6 0 A f2 (by omega)
    · refine r_aload_n dX4_kind_21 rfl ?_
      refine r_ldc kX4_45 dX4_kind_22 ?_
      refine r_v1r (C_tell 0 (by decide) (by decide)) (Nat.le_of_ble_eq_true rfl) mrX4_tell lkX4_46 rfl rfl rfl dX4_kind_24 (Nat.le_of_ble_eq_true rfl) ?_
      refine r_iret dX4_kind_27 rfl rfl ?_ ?_
      · simp only [o_kind, c8, c18, if_true, if_false, eq_self, decide_true, decide_false, not_true, not_false_eq_true, Bool.true_and, Bool.and_true, Bool.false_and, Bool.and_false, Bool.true_or, Bool.or_true, Bool.false_or, Bool.or_false, Bool.not_true, Bool.not_false]
        rfl
      · simp only [o_kind, c8, c18, if_true, if_false, eq_self, decide_true, decide_false, not_true, not_false_eq_true, Bool.true_and, Bool.and_true, Bool.false_and, Bool.and_false, Bool.true_or, Bool.or_true, Bool.false_or, Bool.or_false, Bool.not_true, Bool.not_false]
        exact ⟨A, f1, f2, f3, HE.rf⟩
theorem Q_least {R A K : RS} {f1 f2 f3 : Int32} {kp : Bool} {tc : Nat → Int32} {m v : Int32} (hn : cnt R ≤ 8) : SpQ 11 mX4_least [.ref 0, .int m, .int v] (hC R A K f1 f2 f3 kp tc) (some (.int (o_least R K kp tc m v).1)) (qC (o_least R K kp tc m v).2) := by
  refine SpQ.of [some (.ref 0), some (.int m), some (.int v), none] mrX4_least.1 (fun _ q => qC_len q) (Nat.le_of_ble_eq_true rfl) rfl (fun X => ?_)
  have L : ∀ (m : Nat), m < 2 ^ 31 → ∀ (k i : Nat) (A : RS) (f2 : Int32), i + k = 10 → RunQ X 11 mX4_least 29 [some (.ref 0), some (.int (nI m)), some (.int v), some (.int (nI i))] [] (hC R A K f1 f2 f3 kp tc) (some (.int (fnd R K kp tc (fst1 (fun b => decide (fut m (sB R (nI b)) ≤ v)) k i)).1)) (qC (fnd R K kp tc (fst1 (fun b => decide (fut m (sB R (nI b)) ≤ v)) k i)).2) := by
    intro m hm k
    induction k with
    | zero =>
      intro i A f2 hi
      obtain rfl : i = 10 := by omega
      refine r_iload_n dX4_least_29 rfl ?_
      refine r_bipush (v := nI 9) dX4_least_30 (by decide) ?_
      refine r_icmp_gt 64 dX4_least_32 (by decide) (fun c32 => ?_) (fun c32 => ?_)
      · refine r_aload_n dX4_least_64 rfl ?_
        refine r_ldc kX4_152 dX4_least_65 ?_
        refine r_v1r (C_tell 3 (by decide) (by decide)) (Nat.le_of_ble_eq_true rfl) mrX4_tell lkX4_46 rfl rfl rfl dX4_least_67 (Nat.le_of_ble_eq_true rfl) ?_
        refine r_iret dX4_least_70 rfl rfl ?_ ?_
        · rfl
        · exact ⟨A, f1, f2, f3, HE.rf⟩
      · exact absurd (nI_lt (by omega) (by omega)) c32
    | succ k ih =>
      intro i A f2 hi
      refine r_iload_n dX4_least_29 rfl ?_
      refine r_bipush (v := nI 9) dX4_least_30 (by decide) ?_
      refine r_icmp_gt 64 dX4_least_32 (by decide) (fun c32 => ?_) (fun c32 => ?_)
      · exact absurd c32 (nI_nlt (by omega) (by omega))
      · refine r_aload_n dX4_least_35 rfl ?_
        refine r_v0n C_lookAhead (Nat.le_of_ble_eq_true rfl) mrX4_lookAhead lkX4_140 rfl rfl rfl dX4_least_36 (Nat.le_of_ble_eq_true rfl) ?_
        refine r_aload_n dX4_least_39 rfl ?_
        refine r_getfield dX4_least_40 gfX4_16 rfl rfl ?_
        refine r_iload_n dX4_least_43 rfl ?_
        refine r_putfield (fs' := [_, _, _, _, _, _, _, _, _, _]) (h' := [_, _, _, _, _, _, _, _, _, _, _, _, _, _, _, _, _]) dX4_least_44 pfX4_61 rfl (Nat.le_of_ble_eq_true rfl) (fun _ => rfl) rfl rfl rfl rfl ?_
        refine r_aload_n dX4_least_47 rfl ?_
        refine r_iload_n dX4_least_48 rfl ?_
        refine r_v1r (C_stumbledIn (A := sB R (nI i)) hn hm) (Nat.le_of_ble_eq_true rfl) mrX4_stumbledIn lkX4_143 rfl rfl rfl dX4_least_49 (Nat.le_of_ble_eq_true rfl) ?_
        refine r_iload_n dX4_least_52 rfl ?_
        refine r_icmp_gt 58 dX4_least_53 (by decide) (fun c53 => ?_) (fun c53 => ?_)
        · refine r_iinc (lv' := [_, _, _, _]) dX4_least_58 (by decide) rfl (by first | exact inc1 _ | exact inc1_ _) rfl ?_
          refine r_goto 29 dX4_least_61 (by decide) ?_
          have e := ih (i + 1) (stpN m (sB R (nI i))) (stpFN m (sB R (nI i)) f2) (by omega)
          simp only [fst1, decide_eq_false (Int32.not_le.mpr c53)]
          exact e
        · refine r_iload_n dX4_least_56 rfl ?_
          refine r_iret dX4_least_57 rfl rfl ?_ ?_
          · simp only [fst1, decide_eq_true (Int32.not_lt.mp c53)]
            rfl
          · simp only [fst1, decide_eq_true (Int32.not_lt.mp c53)]
            exact ⟨stpN m (sB R (nI i)), f1, stpFN m (sB R (nI i)) f2, f3, HE.rf⟩
  refine r_iload_n dX4_least_0 rfl ?_
  refine r_iconst (v := nI 1) dX4_least_1 (by decide) ?_
  refine r_bipush (v := nI 100) dX4_least_2 (by decide) ?_
  refine r_s3r S_X4_within (Nat.le_of_ble_eq_true rfl) mrX4_within lkX4_41 dX4_least_4 (Nat.le_of_ble_eq_true rfl) ?_
  refine r_if_eqB 20 dX4_least_7 (by decide) (fun c7 => ?_) (fun c7 => ?_)
  · refine r_aload_n dX4_least_20 rfl ?_
    refine r_ldc kX4_45 dX4_least_21 ?_
    refine r_v1r (C_tell 0 (by decide) (by decide)) (Nat.le_of_ble_eq_true rfl) mrX4_tell lkX4_46 rfl rfl rfl dX4_least_23 (Nat.le_of_ble_eq_true rfl) ?_
    refine r_iret dX4_least_26 rfl rfl ?_ ?_
    · simp only [o_least, c7, if_true, if_false, eq_self, decide_true, decide_false, not_true, not_false_eq_true, Bool.true_and, Bool.and_true, Bool.false_and, Bool.and_false, Bool.true_or, Bool.or_true, Bool.false_or, Bool.or_false, Bool.not_true, Bool.not_false]
      rfl
    · simp only [o_least, c7, if_true, if_false, eq_self, decide_true, decide_false, not_true, not_false_eq_true, Bool.true_and, Bool.and_true, Bool.false_and, Bool.and_false, Bool.true_or, Bool.or_true, Bool.false_or, Bool.or_false, Bool.not_true, Bool.not_false]
      exact ⟨A, f1, f2, f3, HE.rf⟩
  · refine r_iload_n dX4_least_10 rfl ?_
    refine r_iconst (v := nI 0) dX4_least_11 (by decide) ?_
    refine r_ldc kX4_135 dX4_least_12 ?_
    refine r_s3r S_X4_within (Nat.le_of_ble_eq_true rfl) mrX4_within lkX4_41 dX4_least_14 (Nat.le_of_ble_eq_true rfl) ?_
    refine r_if_neB 27 dX4_least_17 (by decide) (fun c17 => ?_) (fun c17 => ?_)
    · obtain ⟨m, h1, h2, rfl⟩ := inR_of c7 (by decide) (by decide)
      have em : tn (nI m) = m := nI_clamp (by omega)
      refine r_iconst (v := nI 0) dX4_least_27 (by decide) ?_
      refine r_istore_n (lv' := [_, _, _, _]) dX4_least_28 (by decide) rfl ?_
      simp only [o_least, c7, c17, em]
      exact L m (by omega) 10 0 A f2 (by omega)
    · refine r_aload_n dX4_least_20 rfl ?_
      refine r_ldc kX4_45 dX4_least_21 ?_
      refine r_v1r (C_tell 0 (by decide) (by decide)) (Nat.le_of_ble_eq_true rfl) mrX4_tell lkX4_46 rfl rfl rfl dX4_least_23 (Nat.le_of_ble_eq_true rfl) ?_
      refine r_iret dX4_least_26 rfl rfl ?_ ?_
      · simp only [o_least, c7, c17, if_true, if_false, eq_self, decide_true, decide_false, not_true, not_false_eq_true, Bool.true_and, Bool.and_true, Bool.false_and, Bool.and_false, Bool.true_or, Bool.or_true, Bool.false_or, Bool.or_false, Bool.not_true, Bool.not_false]
        rfl
      · simp only [o_least, c7, c17, if_true, if_false, eq_self, decide_true, decide_false, not_true, not_false_eq_true, Bool.true_and, Bool.and_true, Bool.false_and, Bool.and_false, Bool.true_or, Bool.or_true, Bool.false_or, Bool.or_false, Bool.not_true, Bool.not_false]
        exact ⟨A, f1, f2, f3, HE.rf⟩
theorem mnC_t {g : Nat → Bool} {f : Nat → Int32} {q : Int32 × Int32} {i : Nat} (hg : g i = true) (h : f i < (mnC g f q i).2) : mnC g f q (i + 1) = (nI i, f i) := by rw [mnC, hg]; simp only [h, if_true]
theorem mnC_f {g : Nat → Bool} {f : Nat → Int32} {q : Int32 × Int32} {i : Nat} (hg : g i = true) (h : ¬ f i < (mnC g f q i).2) : mnC g f q (i + 1) = mnC g f q i := by rw [mnC, hg]; simp only [h, if_false]
theorem mnC_n {g : Nat → Bool} {f : Nat → Int32} {q : Int32 × Int32} {i : Nat} (hg : g i = false) : mnC g f q (i + 1) = mnC g f q i := by rw [mnC, hg]
theorem Q_clear {R A K : RS} {f1 f2 f3 : Int32} {kp : Bool} {tc : Nat → Int32} {m : Int32} (hn : cnt R ≤ 8) : SpQ 11 mX4_clear [.ref 0, .int m] (hC R A K f1 f2 f3 kp tc) (some (.int (o_clear R K kp tc m).1)) (qC (o_clear R K kp tc m).2) := by
  refine SpQ.of [some (.ref 0), some (.int m), none, none, none, none] mrX4_clear.1 (fun _ q => qC_len q) (Nat.le_of_ble_eq_true rfl) rfl (fun X => ?_)
  have L : ∀ (m : Nat), m < 2 ^ 31 → ∀ (k i : Nat) (A : RS) (f2 : Int32), i + k = 30 → RunQ X 11 mX4_clear 25 [some (.ref 0), some (.int (nI m)), some (.int (mnC (fun c => isIn (rR R) (nI c)) (fun c => fut m (sR R (setR (rR R) (nI c) false))) (-1, 79993) i).1), some (.int (mnC (fun c => isIn (rR R) (nI c)) (fun c => fut m (sR R (setR (rR R) (nI c) false))) (-1, 79993) i).2), some (.int (nI i)), none] [] (hC R A K f1 f2 f3 kp tc) (some (.int (neg R K kp tc (mnC (fun c => isIn (rR R) (nI c)) (fun c => fut m (sR R (setR (rR R) (nI c) false))) (-1, 79993) 30).1).1)) (qC (neg R K kp tc (mnC (fun c => isIn (rR R) (nI c)) (fun c => fut m (sR R (setR (rR R) (nI c) false))) (-1, 79993) 30).1).2) := by
    intro m hm k
    induction k with
    | zero =>
      intro i A f2 hi
      obtain rfl : i = 30 := by omega
      refine r_iload dX4_clear_25 rfl ?_
      refine r_bipush (v := nI 30) dX4_clear_27 (by decide) ?_
      refine r_icmp_ge 86 dX4_clear_29 (by decide) (fun c29 => ?_) (fun c29 => ?_)
      · refine r_iload_n dX4_clear_86 rfl ?_
        refine r_if_ge 99 dX4_clear_87 (by decide) (fun c87 => ?_) (fun c87 => ?_)
        · refine r_iload_n dX4_clear_99 rfl ?_
          refine r_iret dX4_clear_100 rfl rfl ?_ ?_
          · first | (simp only [neg, c87, if_true, if_false]; done) | (simp only [neg, c87, if_true, if_false]; rfl)
          · simp only [neg, c87, if_true, if_false]
            exact ⟨A, f1, f2, f3, HE.rf⟩
        · refine r_aload_n dX4_clear_90 rfl ?_
          refine r_ldc kX4_152 dX4_clear_91 ?_
          refine r_v1r (C_tell 3 (by decide) (by decide)) (Nat.le_of_ble_eq_true rfl) mrX4_tell lkX4_46 rfl rfl rfl dX4_clear_93 (Nat.le_of_ble_eq_true rfl) ?_
          refine r_goto 100 dX4_clear_96 (by decide) ?_
          refine r_iret dX4_clear_100 rfl rfl ?_ ?_
          · first | (simp only [neg, c87, if_true, if_false]; done) | (simp only [neg, c87, if_true, if_false]; rfl)
          · simp only [neg, c87, if_true, if_false]
            exact ⟨A, f1, f2, f3, HE.rf⟩
      · exact absurd (nI_le (Nat.le_refl _) (by omega)) c29
    | succ k ih =>
      intro i A f2 hi
      refine r_iload dX4_clear_25 rfl ?_
      refine r_bipush (v := nI 30) dX4_clear_27 (by decide) ?_
      refine r_icmp_ge 86 dX4_clear_29 (by decide) (fun c29 => ?_) (fun c29 => ?_)
      · exact absurd c29 (nI_ge (by omega) (by omega))
      · refine r_aload_n dX4_clear_32 rfl ?_
        refine r_getfield dX4_clear_33 gfX4_12 rfl rfl ?_
        refine r_getfield dX4_clear_36 gfX4_50 rfl rfl ?_
        refine r_iload dX4_clear_39 rfl ?_
        refine r_s2r S_X4_isIn (Nat.le_of_ble_eq_true rfl) mrX4_isIn lkX4_116 dX4_clear_41 (Nat.le_of_ble_eq_true rfl) ?_
        refine r_if_eqB 80 dX4_clear_44 (by decide) (fun c44 => ?_) (fun c44 => ?_)
        · refine r_iinc (lv' := [_, _, _, _, _, _]) dX4_clear_80 (by decide) rfl (by first | exact inc1 _ | exact inc1_ _) rfl ?_
          refine r_goto 25 dX4_clear_83 (by decide) ?_
          refine r_lv (lv' := [_, _, _, _, _, none]) (lvDrop 5 rfl) ?_
          first
          | (have e := ih (i + 1) (stpN m (sR R (setR (rR R) (nI i) false))) (stpFN m (sR R (setR (rR R) (nI i) false)) f2) (by omega); rw [mnC_t (g := (fun c => isIn (rR R) (nI c))) (f := (fun c => fut m (sR R (setR (rR R) (nI c) false)))) c44 (Int32.not_le.mp c71)] at e; exact e)
          | (have e := ih (i + 1) (stpN m (sR R (setR (rR R) (nI i) false))) (stpFN m (sR R (setR (rR R) (nI i) false)) f2) (by omega); rw [mnC_f (g := (fun c => isIn (rR R) (nI c))) (f := (fun c => fut m (sR R (setR (rR R) (nI c) false)))) c44 (Int32.not_lt.mpr c71)] at e; exact e)
          | (have e := ih (i + 1) A f2 (by omega); rw [mnC_n (g := (fun c => isIn (rR R) (nI c))) (f := (fun c => fut m (sR R (setR (rR R) (nI c) false)))) c44] at e; exact e)
        · refine r_aload_n dX4_clear_47 rfl ?_
          refine r_v0n C_lookAhead (Nat.le_of_ble_eq_true rfl) mrX4_lookAhead lkX4_140 rfl rfl rfl dX4_clear_48 (Nat.le_of_ble_eq_true rfl) ?_
          refine r_aload_n dX4_clear_51 rfl ?_
          refine r_getfield dX4_clear_52 gfX4_16 rfl rfl ?_
          refine r_iload dX4_clear_55 rfl ?_
          refine r_iconst (v := nI 0) dX4_clear_57 (by decide) ?_
          refine r_v2n (C_setRoot6 (b := false)) (Nat.le_of_ble_eq_true rfl) mrX1_setRoot lkX4_154 rfl rfl rfl dX4_clear_58 (Nat.le_of_ble_eq_true rfl) ?_
          refine r_aload_n dX4_clear_61 rfl ?_
          refine r_iload_n dX4_clear_62 rfl ?_
          refine r_v1r (C_stumbledIn (A := sR R (setR (rR R) (nI i) false)) hn hm) (Nat.le_of_ble_eq_true rfl) mrX4_stumbledIn lkX4_143 rfl rfl rfl dX4_clear_63 (Nat.le_of_ble_eq_true rfl) ?_
          refine r_istore (lv' := [_, _, _, _, _, _]) dX4_clear_66 (by decide) rfl ?_
          refine r_iload dX4_clear_68 rfl ?_
          refine r_iload_n dX4_clear_70 rfl ?_
          refine r_icmp_ge 80 dX4_clear_71 (by decide) (fun c71 => ?_) (fun c71 => ?_)
          · refine r_iinc (lv' := [_, _, _, _, _, _]) dX4_clear_80 (by decide) rfl (by first | exact inc1 _ | exact inc1_ _) rfl ?_
            refine r_goto 25 dX4_clear_83 (by decide) ?_
            refine r_lv (lv' := [_, _, _, _, _, none]) (lvDrop 5 rfl) ?_
            first
            | (have e := ih (i + 1) (stpN m (sR R (setR (rR R) (nI i) false))) (stpFN m (sR R (setR (rR R) (nI i) false)) f2) (by omega); rw [mnC_t (g := (fun c => isIn (rR R) (nI c))) (f := (fun c => fut m (sR R (setR (rR R) (nI c) false)))) c44 (Int32.not_le.mp c71)] at e; exact e)
            | (have e := ih (i + 1) (stpN m (sR R (setR (rR R) (nI i) false))) (stpFN m (sR R (setR (rR R) (nI i) false)) f2) (by omega); rw [mnC_f (g := (fun c => isIn (rR R) (nI c))) (f := (fun c => fut m (sR R (setR (rR R) (nI c) false)))) c44 (Int32.not_lt.mpr c71)] at e; exact e)
            | (have e := ih (i + 1) A f2 (by omega); rw [mnC_n (g := (fun c => isIn (rR R) (nI c))) (f := (fun c => fut m (sR R (setR (rR R) (nI c) false)))) c44] at e; exact e)
          · refine r_iload dX4_clear_74 rfl ?_
            refine r_istore_n (lv' := [_, _, _, _, _, _]) dX4_clear_76 (by decide) rfl ?_
            refine r_iload dX4_clear_77 rfl ?_
            refine r_istore_n (lv' := [_, _, _, _, _, _]) dX4_clear_79 (by decide) rfl ?_
            refine r_iinc (lv' := [_, _, _, _, _, _]) dX4_clear_80 (by decide) rfl (by first | exact inc1 _ | exact inc1_ _) rfl ?_
            refine r_goto 25 dX4_clear_83 (by decide) ?_
            refine r_lv (lv' := [_, _, _, _, _, none]) (lvDrop 5 rfl) ?_
            first
            | (have e := ih (i + 1) (stpN m (sR R (setR (rR R) (nI i) false))) (stpFN m (sR R (setR (rR R) (nI i) false)) f2) (by omega); rw [mnC_t (g := (fun c => isIn (rR R) (nI c))) (f := (fun c => fut m (sR R (setR (rR R) (nI c) false)))) c44 (Int32.not_le.mp c71)] at e; exact e)
            | (have e := ih (i + 1) (stpN m (sR R (setR (rR R) (nI i) false))) (stpFN m (sR R (setR (rR R) (nI i) false)) f2) (by omega); rw [mnC_f (g := (fun c => isIn (rR R) (nI c))) (f := (fun c => fut m (sR R (setR (rR R) (nI c) false)))) c44 (Int32.not_lt.mpr c71)] at e; exact e)
            | (have e := ih (i + 1) A f2 (by omega); rw [mnC_n (g := (fun c => isIn (rR R) (nI c))) (f := (fun c => fut m (sR R (setR (rR R) (nI c) false)))) c44] at e; exact e)
  refine r_iload_n dX4_clear_0 rfl ?_
  refine r_iconst (v := nI 1) dX4_clear_1 (by decide) ?_
  refine r_bipush (v := nI 60) dX4_clear_2 (by decide) ?_
  refine r_s3r S_X4_within (Nat.le_of_ble_eq_true rfl) mrX4_within lkX4_41 dX4_clear_4 (Nat.le_of_ble_eq_true rfl) ?_
  refine r_if_neB 17 dX4_clear_7 (by decide) (fun c7 => ?_) (fun c7 => ?_)
  · obtain ⟨m, h1, h2, rfl⟩ := inR_of c7 (by decide) (by decide)
    have em : tn (nI m) = m := nI_clamp (by omega)
    refine r_iconst (v := (-1)) dX4_clear_17 (by decide) ?_
    refine r_istore_n (lv' := [_, _, _, _, _, _]) dX4_clear_18 (by decide) rfl ?_
    refine r_ldc kX4_153 dX4_clear_19 ?_
    refine r_istore_n (lv' := [_, _, _, _, _, _]) dX4_clear_21 (by decide) rfl ?_
    refine r_iconst (v := nI 0) dX4_clear_22 (by decide) ?_
    refine r_istore (lv' := [_, _, _, _, _, _]) dX4_clear_23 (by decide) rfl ?_
    simp only [o_clear, c7, em]
    exact L m (by omega) 30 0 A f2 (by omega)
  · refine r_aload_n dX4_clear_10 rfl ?_
    refine r_ldc kX4_45 dX4_clear_11 ?_
    refine r_v1r (C_tell 0 (by decide) (by decide)) (Nat.le_of_ble_eq_true rfl) mrX4_tell lkX4_46 rfl rfl rfl dX4_clear_13 (Nat.le_of_ble_eq_true rfl) ?_
    refine r_iret dX4_clear_16 rfl rfl ?_ ?_
    · simp only [o_clear, c7, if_true, if_false, eq_self, decide_true, decide_false, not_true, not_false_eq_true, Bool.true_and, Bool.and_true, Bool.false_and, Bool.and_false, Bool.true_or, Bool.or_true, Bool.false_or, Bool.or_false, Bool.not_true, Bool.not_false]
      rfl
    · simp only [o_clear, c7, if_true, if_false, eq_self, decide_true, decide_false, not_true, not_false_eq_true, Bool.true_and, Bool.and_true, Bool.false_and, Bool.and_false, Bool.true_or, Bool.or_true, Bool.false_or, Bool.or_false, Bool.not_true, Bool.not_false]
      exact ⟨A, f1, f2, f3, HE.rf⟩
/-- the row ahead is anything -/
abbrev qA (R K : RS) (kp : Bool) (tc : Nat → Int32) (h : AH) : Prop := qC (R, K, kp, tc) h
theorem C_noMore {R A K : RS} {f1 f2 f3 : Int32} {kp : Bool} {tc : Nat → Int32} {p m : Nat} (hn : cnt A ≤ 8) (hp : p < 8) (hm : m < 2 ^ 31) : SpQ 4 mX4_stumblesNoMore [.ref 0, .int (nI p), .int (nI m)] (hC R A K f1 f2 f3 kp tc) (some (.int (bI (noM p (rS R p) m A)))) (qC (R, K, kp, tc)) := by
  refine SpQ.of [some (.ref 0), some (.int (nI p)), some (.int (nI m)), none] mrX4_stumblesNoMore.1 (fun _ q => qC_len q) (Nat.le_of_ble_eq_true rfl) rfl (fun X => ?_)
  have L : ∀ (k i : Nat) (A : RS) (f2 : Int32), cnt A ≤ 8 → i + k = m → RunQ X 4 mX4_stumblesNoMore 2 [some (.ref 0), some (.int (nI p)), some (.int (nI m)), some (.int (nI i))] [] (hC R A K f1 f2 f3 kp tc) (some (.int (bI (noM p (rS R p) k A)))) (qC (R, K, kp, tc)) := by
    intro k
    induction k with
    | zero =>
      intro i A f2 hn hi
      obtain rfl : i = m := by omega
      refine r_iload_n dX4_stumblesNoMore_2 rfl ?_
      refine r_iload_n dX4_stumblesNoMore_3 rfl ?_
      refine r_icmp_ge 43 dX4_stumblesNoMore_4 (by decide) (fun c4 => ?_) (fun c4 => ?_)
      · refine r_iconst (v := nI 1) dX4_stumblesNoMore_43 (by decide) ?_
        refine r_iret dX4_stumblesNoMore_44 rfl (by first | exact bI_nar _ | rfl) ?_ ?_
        · exact ret_t rfl
        · exact ⟨A, f1, f2, f3, HE.rf⟩
      · exact absurd (nI_le (Nat.le_refl _) (by omega)) c4
    | succ k ih =>
      intro i A f2 hn hi
      refine r_iload_n dX4_stumblesNoMore_2 rfl ?_
      refine r_iload_n dX4_stumblesNoMore_3 rfl ?_
      refine r_icmp_ge 43 dX4_stumblesNoMore_4 (by decide) (fun c4 => ?_) (fun c4 => ?_)
      · exact absurd c4 (nI_ge (by omega) (by omega))
      · refine r_aload_n dX4_stumblesNoMore_7 rfl ?_
        refine r_getfield dX4_stumblesNoMore_8 gfX4_16 rfl rfl ?_
        refine r_v0n (C_goStep6 hn) (Nat.le_of_ble_eq_true rfl) mrX1_goStep lkX4_146 rfl rfl rfl dX4_stumblesNoMore_11 (Nat.le_of_ble_eq_true rfl) ?_
        refine r_aload_n dX4_stumblesNoMore_14 rfl ?_
        refine r_getfield dX4_stumblesNoMore_15 gfX4_16 rfl rfl ?_
        refine r_getfield dX4_stumblesNoMore_18 gfX4_104 rfl rfl ?_
        refine r_iload_n dX4_stumblesNoMore_21 rfl ?_
        refine r_ialdN dX4_stumblesNoMore_22 rfl (by first | decide | omega) (Nat.le_of_ble_eq_true rfl) rfl ?_
        refine r_aload_n dX4_stumblesNoMore_23 rfl ?_
        refine r_getfield dX4_stumblesNoMore_24 gfX4_12 rfl rfl ?_
        refine r_getfield dX4_stumblesNoMore_27 gfX4_104 rfl rfl ?_
        refine r_iload_n dX4_stumblesNoMore_30 rfl ?_
        refine r_ialdN dX4_stumblesNoMore_31 rfl (by first | decide | omega) (Nat.le_of_ble_eq_true rfl) rfl ?_
        refine r_icmp_le 37 dX4_stumblesNoMore_32 (by decide) (fun c32 => ?_) (fun c32 => ?_)
        · refine r_iinc (lv' := [_, _, _, _]) dX4_stumblesNoMore_37 (by decide) rfl (by first | exact inc1 _ | exact inc1_ _) rfl ?_
          refine r_goto 2 dX4_stumblesNoMore_40 (by decide) ?_
          have e := ih (i + 1) (stp A) (stpF A) hn (by omega)
          rw [noM, if_pos c32]
          exact e
        · refine r_iconst (v := nI 0) dX4_stumblesNoMore_35 (by decide) ?_
          refine r_iret dX4_stumblesNoMore_36 rfl (by first | exact bI_nar _ | rfl) ?_ ?_
          · exact ret_f (by rw [noM, if_neg c32])
          · exact ⟨stp A, f1, stpF A, f3, HE.rf⟩
  refine r_iconst (v := nI 0) dX4_stumblesNoMore_0 (by decide) ?_
  refine r_istore_n (lv' := [_, _, _, _]) dX4_stumblesNoMore_1 (by decide) rfl ?_
  exact L m 0 A f2 hn (by omega)
theorem Q_nerve {R A K : RS} {f1 f2 f3 : Int32} {kp : Bool} {tc : Nat → Int32} {x m : Int32} (hn : cnt R ≤ 8) : SpQ 11 mX4_nerve [.ref 0, .int x, .int m] (hC R A K f1 f2 f3 kp tc) (some (.int (o_nerve R K kp tc x m).1)) (qC (o_nerve R K kp tc x m).2) := by
  refine SpQ.of [some (.ref 0), some (.int x), some (.int m), none] mrX4_nerve.1 (fun _ q => qC_len q) (Nat.le_of_ble_eq_true rfl) rfl (fun X => ?_)
  have L : ∀ (p m : Nat), p < 8 → m < 2 ^ 31 → ∀ (k i : Nat) (A : RS) (f1 f2 f3 : Int32), i + k = 100 → RunQ X 11 mX4_nerve 30 [some (.ref 0), some (.int (nI p)), some (.int (nI m)), some (.int (nI i))] [] (hC R A K f1 f2 f3 kp tc) (some (.int (fnd R K kp tc (fst1 (fun v => noM p (rS R p) m (sN R (upd (rN R) p (nI v)))) k i)).1)) (qC (fnd R K kp tc (fst1 (fun v => noM p (rS R p) m (sN R (upd (rN R) p (nI v)))) k i)).2) := by
    intro p m hp hm k
    induction k with
    | zero =>
      intro i A f1 f2 f3 hi
      obtain rfl : i = 100 := by omega
      refine r_iload_n dX4_nerve_30 rfl ?_
      refine r_bipush (v := nI 99) dX4_nerve_31 (by decide) ?_
      refine r_icmp_gt 67 dX4_nerve_33 (by decide) (fun c33 => ?_) (fun c33 => ?_)
      · refine r_aload_n dX4_nerve_67 rfl ?_
        refine r_ldc kX4_152 dX4_nerve_68 ?_
        refine r_v1r (C_tell 3 (by decide) (by decide)) (Nat.le_of_ble_eq_true rfl) mrX4_tell lkX4_46 rfl rfl rfl dX4_nerve_70 (Nat.le_of_ble_eq_true rfl) ?_
        refine r_iret dX4_nerve_73 rfl rfl ?_ ?_
        · rfl
        · exact ⟨A, f1, f2, f3, HE.rf⟩
      · exact absurd (nI_lt (by omega) (by omega)) c33
    | succ k ih =>
      intro i A f1 f2 f3 hi
      refine r_iload_n dX4_nerve_30 rfl ?_
      refine r_bipush (v := nI 99) dX4_nerve_31 (by decide) ?_
      refine r_icmp_gt 67 dX4_nerve_33 (by decide) (fun c33 => ?_) (fun c33 => ?_)
      · exact absurd c33 (nI_nlt (by omega) (by omega))
      · refine r_aload_n dX4_nerve_36 rfl ?_
        refine r_v0n C_lookAhead (Nat.le_of_ble_eq_true rfl) mrX4_lookAhead lkX4_140 rfl rfl rfl dX4_nerve_37 (Nat.le_of_ble_eq_true rfl) ?_
        refine r_aload_n dX4_nerve_40 rfl ?_
        refine r_getfield dX4_nerve_41 gfX4_16 rfl rfl ?_
        refine r_getfield dX4_nerve_44 gfX4_107 rfl rfl ?_
        refine r_iload_n dX4_nerve_47 rfl ?_
        refine r_iload_n dX4_nerve_48 rfl ?_
        refine r_iastN (h' := [_, _, _, _, _, _, _, _, _, _, _, _, _, _, _, _, _]) dX4_nerve_49 rfl (by first | decide | omega) (Nat.le_of_ble_eq_true rfl) rfl ?_
        refine r_aload_n dX4_nerve_50 rfl ?_
        refine r_iload_n dX4_nerve_51 rfl ?_
        refine r_iload_n dX4_nerve_52 rfl ?_
        refine r_v2rq (C_noMore (A := sN R (upd (rN R) p (nI i))) hn hp hm) (Nat.le_of_ble_eq_true rfl) mrX4_stumblesNoMore lkX4_158 rfl rfl rfl dX4_nerve_53 (Nat.le_of_ble_eq_true rfl) (fun h9 _ q9 => ?_)
        obtain ⟨A9, g1, g2, g3, q9⟩ := q9
        refine r_heq q9 ?_
        refine r_if_eqB 61 dX4_nerve_56 (by decide) (fun c56 => ?_) (fun c56 => ?_)
        · refine r_iinc (lv' := [_, _, _, _]) dX4_nerve_61 (by decide) rfl (by first | exact inc1 _ | exact inc1_ _) rfl ?_
          refine r_goto 30 dX4_nerve_64 (by decide) ?_
          have e := ih (i + 1) A9 g1 g2 g3 (by omega)
          simp only [fst1, c56]
          exact e
        · refine r_iload_n dX4_nerve_59 rfl ?_
          refine r_iret dX4_nerve_60 rfl rfl ?_ ?_
          · simp only [fst1, c56]
            rfl
          · simp only [fst1, c56]
            exact ⟨A9, g1, g2, g3, HE.rf⟩
  refine r_aload_n dX4_nerve_0 rfl ?_
  refine r_getfield dX4_nerve_1 gfX4_12 rfl rfl ?_
  refine r_iload_n dX4_nerve_4 rfl ?_
  refine r_v1r C_has (Nat.le_of_ble_eq_true rfl) mrX1_has lkX4_54 rfl rfl rfl dX4_nerve_5 (Nat.le_of_ble_eq_true rfl) ?_
  refine r_if_eqB 21 dX4_nerve_8 (by decide) (fun c8 => ?_) (fun c8 => ?_)
  · refine r_aload_n dX4_nerve_21 rfl ?_
    refine r_ldc kX4_45 dX4_nerve_22 ?_
    refine r_v1r (C_tell 0 (by decide) (by decide)) (Nat.le_of_ble_eq_true rfl) mrX4_tell lkX4_46 rfl rfl rfl dX4_nerve_24 (Nat.le_of_ble_eq_true rfl) ?_
    refine r_iret dX4_nerve_27 rfl rfl ?_ ?_
    · simp only [o_nerve, c8, if_true, if_false, eq_self, decide_true, decide_false, not_true, not_false_eq_true, Bool.true_and, Bool.and_true, Bool.false_and, Bool.and_false, Bool.true_or, Bool.or_true, Bool.false_or, Bool.or_false, Bool.not_true, Bool.not_false]
      rfl
    · simp only [o_nerve, c8, if_true, if_false, eq_self, decide_true, decide_false, not_true, not_false_eq_true, Bool.true_and, Bool.and_true, Bool.false_and, Bool.and_false, Bool.true_or, Bool.or_true, Bool.false_or, Bool.or_false, Bool.not_true, Bool.not_false]
      exact ⟨A, f1, f2, f3, HE.rf⟩
  · refine r_iload_n dX4_nerve_11 rfl ?_
    refine r_iconst (v := nI 1) dX4_nerve_12 (by decide) ?_
    refine r_bipush (v := nI 100) dX4_nerve_13 (by decide) ?_
    refine r_s3r S_X4_within (Nat.le_of_ble_eq_true rfl) mrX4_within lkX4_41 dX4_nerve_15 (Nat.le_of_ble_eq_true rfl) ?_
    refine r_if_neB 28 dX4_nerve_18 (by decide) (fun c18 => ?_) (fun c18 => ?_)
    · obtain ⟨p, hp, rfl⟩ := hasB_of c8 (by omega)
      have et : tn (nI p) = p := nI_clamp (by omega)
      obtain ⟨m, h1, h2, rfl⟩ := inR_of c18 (by decide) (by decide)
      have em : tn (nI m) = m := nI_clamp (by omega)
      refine r_iconst (v := nI 0) dX4_nerve_28 (by decide) ?_
      refine r_istore_n (lv' := [_, _, _, _]) dX4_nerve_29 (by decide) rfl ?_
      simp only [o_nerve, c8, c18, et, em]
      exact L p m (by omega) (by omega) 100 0 A f1 f2 f3 (by omega)
    · refine r_aload_n dX4_nerve_21 rfl ?_
      refine r_ldc kX4_45 dX4_nerve_22 ?_
      refine r_v1r (C_tell 0 (by decide) (by decide)) (Nat.le_of_ble_eq_true rfl) mrX4_tell lkX4_46 rfl rfl rfl dX4_nerve_24 (Nat.le_of_ble_eq_true rfl) ?_
      refine r_iret dX4_nerve_27 rfl rfl ?_ ?_
      · simp only [o_nerve, c8, c18, if_true, if_false, eq_self, decide_true, decide_false, not_true, not_false_eq_true, Bool.true_and, Bool.and_true, Bool.false_and, Bool.and_false, Bool.true_or, Bool.or_true, Bool.false_or, Bool.or_false, Bool.not_true, Bool.not_false]
        rfl
      · simp only [o_nerve, c8, c18, if_true, if_false, eq_self, decide_true, decide_false, not_true, not_false_eq_true, Bool.true_and, Bool.and_true, Bool.false_and, Bool.and_false, Bool.true_or, Bool.or_true, Bool.false_or, Bool.or_false, Bool.not_true, Bool.not_false]
        exact ⟨A, f1, f2, f3, HE.rf⟩
theorem Q_worst {R A K : RS} {f1 f2 f3 : Int32} {kp : Bool} {tc : Nat → Int32} {m : Int32} (hn : cnt R ≤ 8) : SpQ 11 mX4_worst [.ref 0, .int m] (hC R A K f1 f2 f3 kp tc) (some (.int (o_worst R K kp tc m).1)) (qC (o_worst R K kp tc m).2) := by
  refine SpQ.of [some (.ref 0), some (.int m), none, none] mrX4_worst.1 (fun _ q => qC_len q) (Nat.le_of_ble_eq_true rfl) rfl (fun X => ?_)
  have L : ∀ (m : Nat) (A : RS) (f2 : Int32), cnt A = cnt R → ∀ (k j : Nat), j + 1 + k = cnt R → RunQ X 11 mX4_worst 51 [some (.ref 0), some (.int (nI m)), some (.int (nI (mxP (rS A) j))), some (.int (nI (j + 1)))] [] (hC R A K f1 f2 f3 kp tc) (some (.int (nI (mxP (rS A) (cnt R - 1))))) (qC (R, K, kp, tc)) := by
    intro m A f2 ha k
    induction k with
    | zero =>
      intro j hj
      obtain rfl : j = cnt R - 1 := by omega
      refine r_iload_n dX4_worst_51 rfl ?_
      refine r_aload_n dX4_worst_52 rfl ?_
      refine r_getfield dX4_worst_53 gfX4_16 rfl rfl ?_
      refine r_getfield dX4_worst_56 gfX4_92 rfl rfl ?_
      refine r_icmp_ge 91 dX4_worst_59 (by decide) (fun c59 => ?_) (fun c59 => ?_)
      · refine r_iload_n dX4_worst_91 rfl ?_
        refine r_iret dX4_worst_92 rfl rfl ?_ ?_
        · rfl
        · exact ⟨A, f1, f2, f3, HE.rf⟩
      · exact absurd (nI_le (by omega) (by omega)) c59
    | succ k ih =>
      intro j hj
      refine r_iload_n dX4_worst_51 rfl ?_
      refine r_aload_n dX4_worst_52 rfl ?_
      refine r_getfield dX4_worst_53 gfX4_16 rfl rfl ?_
      refine r_getfield dX4_worst_56 gfX4_92 rfl rfl ?_
      refine r_icmp_ge 91 dX4_worst_59 (by decide) (fun c59 => ?_) (fun c59 => ?_)
      · exact absurd c59 (nI_ge (by omega) (by omega))
      · refine r_aload_n dX4_worst_62 rfl ?_
        refine r_getfield dX4_worst_63 gfX4_16 rfl rfl ?_
        refine r_getfield dX4_worst_66 gfX4_104 rfl rfl ?_
        refine r_iload_n dX4_worst_69 rfl ?_
        refine r_ialdN dX4_worst_70 rfl (by first | decide | omega) (Nat.le_of_ble_eq_true rfl) rfl ?_
        refine r_aload_n dX4_worst_71 rfl ?_
        refine r_getfield dX4_worst_72 gfX4_16 rfl rfl ?_
        refine r_getfield dX4_worst_75 gfX4_104 rfl rfl ?_
        refine r_iload_n dX4_worst_78 rfl ?_
        refine r_ialdN dX4_worst_79 rfl (by have := mxP_le (rS A) j; omega) (Nat.le_of_ble_eq_true rfl) rfl ?_
        refine r_icmp_le 85 dX4_worst_80 (by decide) (fun c80 => ?_) (fun c80 => ?_)
        · refine r_iinc (lv' := [_, _, _, _]) dX4_worst_85 (by decide) rfl (by first | exact inc1 _ | exact inc1_ _) rfl ?_
          refine r_goto 51 dX4_worst_88 (by decide) ?_
          have e := ih (j + 1) (by omega)
          first
          | (rw [mxP, if_pos c80] at e; exact e)
          | (rw [mxP, if_neg c80] at e; exact e)
        · refine r_iload_n dX4_worst_83 rfl ?_
          refine r_istore_n (lv' := [_, _, _, _]) dX4_worst_84 (by decide) rfl ?_
          refine r_iinc (lv' := [_, _, _, _]) dX4_worst_85 (by decide) rfl (by first | exact inc1 _ | exact inc1_ _) rfl ?_
          refine r_goto 51 dX4_worst_88 (by decide) ?_
          have e := ih (j + 1) (by omega)
          first
          | (rw [mxP, if_pos c80] at e; exact e)
          | (rw [mxP, if_neg c80] at e; exact e)
  refine r_iload_n dX4_worst_0 rfl ?_
  refine r_iconst (v := nI 0) dX4_worst_1 (by decide) ?_
  refine r_sipush (v := nI 300) dX4_worst_2 (by decide) ?_
  refine r_s3r S_X4_within (Nat.le_of_ble_eq_true rfl) mrX4_within lkX4_41 dX4_worst_5 (Nat.le_of_ble_eq_true rfl) ?_
  refine r_if_neB 18 dX4_worst_8 (by decide) (fun c8 => ?_) (fun c8 => ?_)
  · refine r_aload_n dX4_worst_18 rfl ?_
    refine r_getfield dX4_worst_19 gfX4_12 rfl rfl ?_
    refine r_getfield dX4_worst_22 gfX4_92 rfl rfl ?_
    refine r_if_ne 35 dX4_worst_25 (by decide) (fun c25 => ?_) (fun c25 => ?_)
    · obtain ⟨m, h1, h2, rfl⟩ := inR_of c8 (by decide) (by decide)
      have em : tn (nI m) = m := nI_clamp (by omega)
      have h0 : cnt R ≠ 0 := fun z => c25 (by rw [z]; rfl)
      refine r_aload_n dX4_worst_35 rfl ?_
      refine r_v0n C_lookAhead (Nat.le_of_ble_eq_true rfl) mrX4_lookAhead lkX4_140 rfl rfl rfl dX4_worst_36 (Nat.le_of_ble_eq_true rfl) ?_
      refine r_aload_n dX4_worst_39 rfl ?_
      refine r_getfield dX4_worst_40 gfX4_16 rfl rfl ?_
      refine r_iload_n dX4_worst_43 rfl ?_
      refine r_v1n (C_goSteps6 hn (by omega)) (Nat.le_of_ble_eq_true rfl) mrX1_goSteps lkX4_137 rfl rfl rfl dX4_worst_44 (Nat.le_of_ble_eq_true rfl) ?_
      refine r_iconst (v := nI 0) dX4_worst_47 (by decide) ?_
      refine r_istore_n (lv' := [_, _, _, _]) dX4_worst_48 (by decide) rfl ?_
      refine r_iconst (v := nI 1) dX4_worst_49 (by decide) ?_
      refine r_istore_n (lv' := [_, _, _, _]) dX4_worst_50 (by decide) rfl ?_
      simp only [o_worst, c8, c25, em, if_false]
      exact L m (stpN m R) (stpFN m R f2) (stpN_cnt m R) (cnt R - 1) 0 (by omega)
    · refine r_aload_n dX4_worst_28 rfl ?_
      refine r_ldc kX4_152 dX4_worst_29 ?_
      refine r_v1r (C_tell 3 (by decide) (by decide)) (Nat.le_of_ble_eq_true rfl) mrX4_tell lkX4_46 rfl rfl rfl dX4_worst_31 (Nat.le_of_ble_eq_true rfl) ?_
      refine r_iret dX4_worst_34 rfl rfl ?_ ?_
      · simp only [o_worst, c8, c25, if_true, if_false, eq_self, decide_true, decide_false, not_true, not_false_eq_true, Bool.true_and, Bool.and_true, Bool.false_and, Bool.and_false, Bool.true_or, Bool.or_true, Bool.false_or, Bool.or_false, Bool.not_true, Bool.not_false]
        rfl
      · simp only [o_worst, c8, c25, if_true, if_false, eq_self, decide_true, decide_false, not_true, not_false_eq_true, Bool.true_and, Bool.and_true, Bool.false_and, Bool.and_false, Bool.true_or, Bool.or_true, Bool.false_or, Bool.or_false, Bool.not_true, Bool.not_false]
        exact ⟨A, f1, f2, f3, HE.rf⟩
  · refine r_aload_n dX4_worst_11 rfl ?_
    refine r_ldc kX4_45 dX4_worst_12 ?_
    refine r_v1r (C_tell 0 (by decide) (by decide)) (Nat.le_of_ble_eq_true rfl) mrX4_tell lkX4_46 rfl rfl rfl dX4_worst_14 (Nat.le_of_ble_eq_true rfl) ?_
    refine r_iret dX4_worst_17 rfl rfl ?_ ?_
    · simp only [o_worst, c8, if_true, if_false, eq_self, decide_true, decide_false, not_true, not_false_eq_true, Bool.true_and, Bool.and_true, Bool.false_and, Bool.and_false, Bool.true_or, Bool.or_true, Bool.false_or, Bool.or_false, Bool.not_true, Bool.not_false]
      rfl
    · simp only [o_worst, c8, if_true, if_false, eq_self, decide_true, decide_false, not_true, not_false_eq_true, Bool.true_and, Bool.and_true, Bool.false_and, Bool.and_false, Bool.true_or, Bool.or_true, Bool.false_or, Bool.or_false, Bool.not_true, Bool.not_false]
      exact ⟨A, f1, f2, f3, HE.rf⟩

