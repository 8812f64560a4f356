/-! the reference: lays, book, read -/
theorem upd_self (f : Nat → Int32) (k : Nat) : upd f k (f k) = f := by
  funext j
  simp only [upd]
  split
  · rename_i h; rw [h]
  · rfl
theorem layN_t {f : Nat → Int64} {N : Nat → Int32} {k : Nat} (h : inL (f k) 0 99 = true) : layN f N (k + 1) = (upd (layN f N k).1 k (f k).toInt32, (layN f N k).2 + nI 1) := by rw [layN, h]
theorem layN_f {f : Nat → Int64} {N : Nat → Int32} {k : Nat} (h : inL (f k) 0 99 = false) : layN f N (k + 1) = layN f N k := by rw [layN, h]
theorem Y_lays {R K : RS} {ks ot as : Nat → Int32} {fl : Int32} {kp : Bool} {tc : Nat → Int32} {n : Nat} {T : Nat → Nat} {Z : Nat → SHT} {a : Nat} {b v : Int32} {w : Bool} {mv : Nat → Int64} {x : Int32} (hZ : wfZ Z) (hw : wfR R) (hk : kp = true → ∀ i, i < 37 → ks i = enc K i) : SpQ 11 mX5_lays [.ref 0, .int x] (hY (enc R) ks ot as fl kp tc (nI n, nI a, b, v, w) T (bsF Z) (szF Z) (nmF Z) mv) (some (.int (o_lays ((R, K, kp, tc), (n, T), Z) x).1)) (qY (o_lays ((R, K, kp, tc), (n, T), Z) x).2) := by
  refine SpQ.of [some (.ref 0), some (.int x), none, none, none, none] mrX5_lays.1 (fun _ q => qY_len q) (Nat.le_of_ble_eq_true rfl) rfl (fun X => ?_)
  have hc8 := hw.1
  cases c4 : inR x (nI 0) (nI 3) with
  | false =>
    refine r_aload_n dX5_lays_0 rfl ?_
    refine r_iload_n dX5_lays_1 rfl ?_
    refine r_v1r (M_wrA c4) (Nat.le_of_ble_eq_true rfl) mrX5_wrongSheet lkX5_292 rfl rfl rfl dX5_lays_2 (Nat.le_of_ble_eq_true rfl) ?_
    refine r_istore_n (lv' := [_, _, _, _, _, _]) dX5_lays_5 (by decide) rfl ?_
    refine r_iload_n dX5_lays_6 rfl ?_
    refine r_if_eq 16 dX5_lays_7 (by decide) (fun c7 => ?_) (fun c7 => ?_)
    · exact absurd c7 (by decide)
    · refine r_aload_n dX5_lays_10 rfl ?_
      refine r_iload_n dX5_lays_11 rfl ?_
      refine r_v1r (Y_finds 0 (by decide) (by decide)) (Nat.le_of_ble_eq_true rfl) mrX5_finds lkX5_66 rfl rfl rfl dX5_lays_12 (Nat.le_of_ble_eq_true rfl) ?_
      refine r_iret dX5_lays_15 rfl rfl ?_ ?_
      · rw [o_lays, c4]; rfl
      · rw [o_lays, c4]
        exact ⟨ks, ot, as, fl, a, b, v, w, mv, hk, HE.rf⟩
  | true =>
    obtain ⟨i, -, hi, rfl⟩ := inR_of c4 (by decide) (by decide)
    have ei : tn (nI i) = i := nI_clamp (by omega)
    obtain ⟨z, hz, ez⟩ := hZ i (by omega)
    have etz : tn (Z i).2.1 = z := by rw [ez]; exact nI_clamp (by omega)
    rw [o_lays, c4]
    dsimp only
    rw [ei]
    by_cases hb : (Z i).1 = 0
    · rw [if_pos hb]
      refine r_aload_n dX5_lays_0 rfl ?_
      refine r_iload_n dX5_lays_1 rfl ?_
      refine r_v1r (M_wrB (by omega) hb) (Nat.le_of_ble_eq_true rfl) mrX5_wrongSheet lkX5_292 rfl rfl rfl dX5_lays_2 (Nat.le_of_ble_eq_true rfl) ?_
      refine r_istore_n (lv' := [_, _, _, _, _, _]) dX5_lays_5 (by decide) rfl ?_
      refine r_iload_n dX5_lays_6 rfl ?_
      refine r_if_eq 16 dX5_lays_7 (by decide) (fun c7 => ?_) (fun c7 => ?_)
      · exact absurd c7 (by decide)
      · refine r_aload_n dX5_lays_10 rfl ?_
        refine r_iload_n dX5_lays_11 rfl ?_
        refine r_v1r (Y_finds 5 (by decide) (by decide)) (Nat.le_of_ble_eq_true rfl) mrX5_finds lkX5_66 rfl rfl rfl dX5_lays_12 (Nat.le_of_ble_eq_true rfl) ?_
        refine r_iret dX5_lays_15 rfl rfl ?_ ?_
        · rfl
        · exact ⟨ks, ot, as, fl, a, b, v, w, mv, hk, HE.rf⟩
    · rw [if_neg hb, etz]
      have L : ∀ (k c : Nat), c + k = min z (cnt R) → RunQ X 11 mX5_lays 21 [some (.ref 0), some (.int (nI i)), some (.int 0), some (.int (layN (Z i).2.2 (rN R) c).2), some (.int (nI c)), none] [] (hY (enc (sN R (layN (Z i).2.2 (rN R) c).1)) ks ot as fl kp tc (nI n, nI a, b, v, w) T (bsF Z) (szF Z) (nmF Z) mv) (some (.int (layN (Z i).2.2 (rN R) (min z (cnt R))).2)) (qY ((sN R (layN (Z i).2.2 (rN R) (min z (cnt R))).1, K, kp, tc), (n, T), Z)) := by
        intro k
        induction k with
        | zero =>
          intro c hc
          rw [Nat.add_zero] at hc
          rw [← hc]
          refine r_iload dX5_lays_21 rfl ?_
          refine r_aload_n dX5_lays_23 rfl ?_
          refine r_getfield dX5_lays_24 gfX5_31 rfl rfl ?_
          refine r_iload_n dX5_lays_27 rfl ?_
          refine r_ialdN dX5_lays_28 rfl (by omega) (Nat.le_of_ble_eq_true rfl) (show szF Z i = nI z from ez) ?_
          refine r_icmp_ge 122 dX5_lays_29 (by decide) (fun c29 => ?_) (fun c29 => ?_)
          · refine r_iload_n dX5_lays_122 rfl ?_
            refine r_iret dX5_lays_123 rfl rfl ?_ ?_
            · rfl
            · exact qY_of (a := a) (b := b) (v := v) (w := w) hk rfl rfl rfl
          · refine r_iload dX5_lays_32 rfl ?_
            refine r_aload_n dX5_lays_34 rfl ?_
            refine r_getfield dX5_lays_35 gfX5_7 rfl rfl ?_
            refine r_iconst (v := nI 1) dX5_lays_38 (by decide) ?_
            refine r_ialdN dX5_lays_39 rfl (by first | decide | omega) (Nat.le_of_ble_eq_true rfl) (show enc (sN R _) 1 = nI (cnt R) from rfl) ?_
            refine r_icmp_ge 122 dX5_lays_40 (by decide) (fun c40 => ?_) (fun c40 => ?_)
            · refine r_iload_n dX5_lays_122 rfl ?_
              refine r_iret dX5_lays_123 rfl rfl ?_ ?_
              · rfl
              · exact qY_of (a := a) (b := b) (v := v) (w := w) hk rfl rfl rfl
            · exact absurd (show c < min z (cnt R) from Nat.lt_min.mpr ⟨Nat.lt_of_not_le (fun y => c29 (nI_le y (by omega))), Nat.lt_of_not_le (fun y => c40 (nI_le y (by omega)))⟩) (by omega)
        | succ k ih =>
          intro c hc
          have hm := Nat.min_le_left z (cnt R)
          have hm2 := Nat.min_le_right z (cnt R)
          refine r_iload dX5_lays_21 rfl ?_
          refine r_aload_n dX5_lays_23 rfl ?_
          refine r_getfield dX5_lays_24 gfX5_31 rfl rfl ?_
          refine r_iload_n dX5_lays_27 rfl ?_
          refine r_ialdN dX5_lays_28 rfl (by omega) (Nat.le_of_ble_eq_true rfl) (show szF Z i = nI z from ez) ?_
          refine r_icmp_ge 122 dX5_lays_29 (by decide) (fun c29 => ?_) (fun c29 => ?_)
          · exact absurd c29 (nI_ge (by omega) (by omega))
          · refine r_iload dX5_lays_32 rfl ?_
            refine r_aload_n dX5_lays_34 rfl ?_
            refine r_getfield dX5_lays_35 gfX5_7 rfl rfl ?_
            refine r_iconst (v := nI 1) dX5_lays_38 (by decide) ?_
            refine r_ialdN dX5_lays_39 rfl (by first | decide | omega) (Nat.le_of_ble_eq_true rfl) (show enc (sN R _) 1 = nI (cnt R) from rfl) ?_
            refine r_icmp_ge 122 dX5_lays_40 (by decide) (fun c40 => ?_) (fun c40 => ?_)
            · exact absurd c40 (nI_ge (by omega) (by omega))
            · refine r_aload_n dX5_lays_43 rfl ?_
              refine r_getfield dX5_lays_44 gfX5_34 rfl rfl ?_
              refine r_bipush (v := nI 40) dX5_lays_47 (by decide) ?_
              refine r_iload_n dX5_lays_49 rfl ?_
              refine r_imul dX5_lays_50 ?_
              rw [pk_mul]
              refine r_iload dX5_lays_51 rfl ?_
              refine r_iadd dX5_lays_53 ?_
              rw [nI_add]
              refine r_laldN dX5_lays_54 rfl (by omega) (Nat.le_of_ble_eq_true rfl) (nm_at Z (by omega)) ?_
              refine r_lconst (v := 0) dX5_lays_55 (by decide) ?_
              refine r_ldc2 kX5_123 dX5_lays_56 ?_
              refine r_s3r M_inL (Nat.le_of_ble_eq_true rfl) mrX5_in lkX5_46 dX5_lays_59 (Nat.le_of_ble_eq_true rfl) ?_
              refine r_istore (lv' := [_, _, _, _, _, _]) dX5_lays_62 (by decide) rfl ?_
              refine r_aload_n dX5_lays_64 rfl ?_
              refine r_getfield dX5_lays_65 gfX5_7 rfl rfl ?_
              refine r_iload dX5_lays_68 rfl ?_
              refine r_iconst (v := nI 3) dX5_lays_70 (by decide) ?_
              refine r_s2r M_spot (Nat.le_of_ble_eq_true rfl) mrX5_spot lkX5_42 dX5_lays_71 (Nat.le_of_ble_eq_true rfl) ?_
              refine r_iload dX5_lays_74 rfl ?_
              refine r_if_eqB 95 dX5_lays_76 (by decide) (fun c76 => ?_) (fun c76 => ?_)
              · refine r_aload_n dX5_lays_95 rfl ?_
                refine r_iload dX5_lays_96 rfl ?_
                refine r_iconst (v := nI 3) dX5_lays_98 (by decide) ?_
                refine r_v2r (((M_its3 (by omega)).pre rfl (Nat.le_of_ble_eq_true rfl)).pre rfl (Nat.le_of_ble_eq_true rfl)) (Nat.le_of_ble_eq_true rfl) mrX5_its lkX5_54 rfl rfl rfl dX5_lays_99 (Nat.le_of_ble_eq_true rfl) ?_
                refine r_iastN (h' := [_, _, _, _, _, _, _, _, _, _, _]) dX5_lays_102 rfl (by omega) (Nat.le_of_ble_eq_true rfl) rfl ?_
                rw [encU3]
                refine r_iload_n dX5_lays_103 rfl ?_
                refine r_iload dX5_lays_104 rfl ?_
                refine r_if_eqB 113 dX5_lays_106 (by decide) (fun c106 => ?_) (fun c106 => ?_)
                · refine r_iconst (v := nI 0) dX5_lays_113 (by decide) ?_
                  refine r_iadd dX5_lays_114 ?_
                  refine r_istore_n (lv' := [_, _, _, _, _, _]) dX5_lays_115 (by decide) rfl ?_
                  refine r_iinc (lv' := [_, _, _, _, _, _]) dX5_lays_116 (by decide) rfl (by first | exact inc1 _ | exact inc1_ _) rfl ?_
                  refine r_goto 21 dX5_lays_119 (by decide) ?_
                  have e := ih (c + 1) (by omega)
                  first
                  | exact Bool.noConfusion (c76.symm.trans c106)
                  | (rw [layN_t c76] at e; exact r_lv (lv' := [_, _, _, _, _, none]) (lvDrop 5 rfl) e)
                  | (rw [layN_f c76] at e; rw [add_0, upd_self]; exact r_lv (lv' := [_, _, _, _, _, none]) (lvDrop 5 rfl) e)
                · refine r_iconst (v := nI 1) dX5_lays_109 (by decide) ?_
                  refine r_goto 114 dX5_lays_110 (by decide) ?_
                  refine r_iadd dX5_lays_114 ?_
                  refine r_istore_n (lv' := [_, _, _, _, _, _]) dX5_lays_115 (by decide) rfl ?_
                  refine r_iinc (lv' := [_, _, _, _, _, _]) dX5_lays_116 (by decide) rfl (by first | exact inc1 _ | exact inc1_ _) rfl ?_
                  refine r_goto 21 dX5_lays_119 (by decide) ?_
                  have e := ih (c + 1) (by omega)
                  first
                  | exact Bool.noConfusion (c76.symm.trans c106)
                  | (rw [layN_t c76] at e; exact r_lv (lv' := [_, _, _, _, _, none]) (lvDrop 5 rfl) e)
                  | (rw [layN_f c76] at e; rw [add_0, upd_self]; exact r_lv (lv' := [_, _, _, _, _, none]) (lvDrop 5 rfl) e)
              · refine r_aload_n dX5_lays_79 rfl ?_
                refine r_getfield dX5_lays_80 gfX5_34 rfl rfl ?_
                refine r_bipush (v := nI 40) dX5_lays_83 (by decide) ?_
                refine r_iload_n dX5_lays_85 rfl ?_
                refine r_imul dX5_lays_86 ?_
                rw [pk_mul]
                refine r_iload dX5_lays_87 rfl ?_
                refine r_iadd dX5_lays_89 ?_
                rw [nI_add]
                refine r_laldN dX5_lays_90 rfl (by omega) (Nat.le_of_ble_eq_true rfl) (nm_at Z (by omega)) ?_
                refine r_l2i dX5_lays_91 ?_
                refine r_goto 102 dX5_lays_92 (by decide) ?_
                refine r_iastN (h' := [_, _, _, _, _, _, _, _, _, _, _]) dX5_lays_102 rfl (by omega) (Nat.le_of_ble_eq_true rfl) rfl ?_
                rw [encU3]
                refine r_iload_n dX5_lays_103 rfl ?_
                refine r_iload dX5_lays_104 rfl ?_
                refine r_if_eqB 113 dX5_lays_106 (by decide) (fun c106 => ?_) (fun c106 => ?_)
                · refine r_iconst (v := nI 0) dX5_lays_113 (by decide) ?_
                  refine r_iadd dX5_lays_114 ?_
                  refine r_istore_n (lv' := [_, _, _, _, _, _]) dX5_lays_115 (by decide) rfl ?_
                  refine r_iinc (lv' := [_, _, _, _, _, _]) dX5_lays_116 (by decide) rfl (by first | exact inc1 _ | exact inc1_ _) rfl ?_
                  refine r_goto 21 dX5_lays_119 (by decide) ?_
                  have e := ih (c + 1) (by omega)
                  first
                  | exact Bool.noConfusion (c76.symm.trans c106)
                  | (rw [layN_t c76] at e; exact r_lv (lv' := [_, _, _, _, _, none]) (lvDrop 5 rfl) e)
                  | (rw [layN_f c76] at e; rw [add_0, upd_self]; exact r_lv (lv' := [_, _, _, _, _, none]) (lvDrop 5 rfl) e)
                · refine r_iconst (v := nI 1) dX5_lays_109 (by decide) ?_
                  refine r_goto 114 dX5_lays_110 (by decide) ?_
                  refine r_iadd dX5_lays_114 ?_
                  refine r_istore_n (lv' := [_, _, _, _, _, _]) dX5_lays_115 (by decide) rfl ?_
                  refine r_iinc (lv' := [_, _, _, _, _, _]) dX5_lays_116 (by decide) rfl (by first | exact inc1 _ | exact inc1_ _) rfl ?_
                  refine r_goto 21 dX5_lays_119 (by decide) ?_
                  have e := ih (c + 1) (by omega)
                  first
                  | exact Bool.noConfusion (c76.symm.trans c106)
                  | (rw [layN_t c76] at e; exact r_lv (lv' := [_, _, _, _, _, none]) (lvDrop 5 rfl) e)
                  | (rw [layN_f c76] at e; rw [add_0, upd_self]; exact r_lv (lv' := [_, _, _, _, _, none]) (lvDrop 5 rfl) e)
      refine r_aload_n dX5_lays_0 rfl ?_
      refine r_iload_n dX5_lays_1 rfl ?_
      refine r_v1r (M_wrC (by omega) hb) (Nat.le_of_ble_eq_true rfl) mrX5_wrongSheet lkX5_292 rfl rfl rfl dX5_lays_2 (Nat.le_of_ble_eq_true rfl) ?_
      refine r_istore_n (lv' := [_, _, _, _, _, _]) dX5_lays_5 (by decide) rfl ?_
      refine r_iload_n dX5_lays_6 rfl ?_
      refine r_if_eq 16 dX5_lays_7 (by decide) (fun c7 => ?_) (fun c7 => ?_)
      · refine r_iconst (v := nI 0) dX5_lays_16 (by decide) ?_
        refine r_istore_n (lv' := [_, _, _, _, _, _]) dX5_lays_17 (by decide) rfl ?_
        refine r_iconst (v := nI 0) dX5_lays_18 (by decide) ?_
        refine r_istore (lv' := [_, _, _, _, _, _]) dX5_lays_19 (by decide) rfl ?_
        exact L (min z (cnt R)) 0 (Nat.zero_add _)
      · exact absurd (by decide) c7
theorem bk_if {u : Int32} {g : Nat → Int32} {f : Nat → Int64} {c j : Nat} : bkF u g f c j = if 0 ≤ j ∧ j < 0 + c then cutZ u (g (j - 0)).toInt64 else f j := by
  rw [bkF]
  by_cases h9 : j < c
  · rw [if_pos h9, if_pos (by omega), Nat.sub_zero]
  · rw [if_neg h9, if_neg (by omega)]
theorem bk_nm {Z : Nat → SHT} {i c : Nat} {g : Nat → Int32} (hc : c ≤ 40) : blk (40 * i) c (fun j => cutZ (Z i).1 (g j).toInt64) (nmF Z) = nmF (updZ Z i ((Z i).1, (Z i).2.1, bkF (Z i).1 g (Z i).2.2 c)) :=
  blk_nm (Z := Z) (s := i) (t := 0) (k := c) (g := fun j => cutZ (Z i).1 (g j).toInt64) (Y := ((Z i).1, (Z i).2.1, bkF (Z i).1 g (Z i).2.2 c)) (by omega) (fun j _ => bk_if (u := (Z i).1) (g := g) (f := (Z i).2.2) (c := c) (j := j))
theorem Y_step {A : RS} {ks ot as : Nat → Int32} {fl : Int32} {kp : Bool} {tc : Nat → Int32} {g : GO} {T : Nat → Nat} {B S : Nat → Int32} {N mv : Nat → Int64} (hA : wfR A) : Sp 6 mX5_step [.ref 0] (hY (enc A) ks ot as fl kp tc g T B S N mv) none (hY (enc (stp A)) ks ot as (stpF A) kp tc g T B S N mv) := ((M_step hA).pre rfl (Nat.le_of_ble_eq_true rfl)).pre rfl (Nat.le_of_ble_eq_true rfl)
theorem Y_book {R K : RS} {ks ot as : Nat → Int32} {fl : Int32} {kp : Bool} {tc : Nat → Int32} {n : Nat} {T : Nat → Nat} {Z : Nat → SHT} {a : Nat} {b v : Int32} {w : Bool} {mv : Nat → Int64} {x y : Int32} (hZ : wfZ Z) (hw : wfR R) (hk : kp = true → ∀ i, i < 37 → ks i = enc K i) : SpQ 11 mX5_book [.ref 0, .int x, .int y] (hY (enc R) ks ot as fl kp tc (nI n, nI a, b, v, w) T (bsF Z) (szF Z) (nmF Z) mv) (some (.int (o_book ((R, K, kp, tc), (n, T), Z) x y).1)) (qY (o_book ((R, K, kp, tc), (n, T), Z) x y).2) := by
  refine SpQ.of [some (.ref 0), some (.int x), some (.int y), none, none] mrX5_book.1 (fun _ q => qY_len q) (Nat.le_of_ble_eq_true rfl) rfl (fun X => ?_)
  have hc8 := hw.1
  rw [o_book]
  cases c4 : inR x (nI 0) (nI 3) with
  | false =>
    rw [bkL, c4]
    refine r_aload_n dX5_book_0 rfl ?_
    refine r_iload_n dX5_book_1 rfl ?_
    refine r_v1r (M_wrA c4) (Nat.le_of_ble_eq_true rfl) mrX5_wrongSheet lkX5_292 rfl rfl rfl dX5_book_2 (Nat.le_of_ble_eq_true rfl) ?_
    refine r_istore_n (lv' := [_, _, _, _, _]) dX5_book_5 (by decide) rfl ?_
    refine r_iload_n dX5_book_6 rfl ?_
    refine r_if_eq 16 dX5_book_7 (by decide) (fun c7 => ?_) (fun c7 => ?_)
    · exact absurd c7 (by decide)
    · refine r_aload_n dX5_book_10 rfl ?_
      refine r_iload_n dX5_book_11 rfl ?_
      refine r_v1r (Y_finds 0 (by decide) (by decide)) (Nat.le_of_ble_eq_true rfl) mrX5_finds lkX5_66 rfl rfl rfl dX5_book_12 (Nat.le_of_ble_eq_true rfl) ?_
      refine r_iret dX5_book_15 rfl rfl ?_ ?_
      · rfl
      · exact ⟨ks, ot, as, fl, a, b, v, w, mv, hk, HE.rf⟩
  | true =>
    rw [bkL, c4]
    obtain ⟨i, -, hi, rfl⟩ := inR_of c4 (by decide) (by decide)
    have ei : tn (nI i) = i := nI_clamp (by omega)
    obtain ⟨z, hz, ez⟩ := hZ i (by omega)
    have etz : tn (Z i).2.1 = z := by rw [ez]; exact nI_clamp (by omega)
    dsimp only
    rw [ei]
    by_cases hb : (Z i).1 = 0
    · rw [if_pos hb]
      refine r_aload_n dX5_book_0 rfl ?_
      refine r_iload_n dX5_book_1 rfl ?_
      refine r_v1r (M_wrB (by omega) hb) (Nat.le_of_ble_eq_true rfl) mrX5_wrongSheet lkX5_292 rfl rfl rfl dX5_book_2 (Nat.le_of_ble_eq_true rfl) ?_
      refine r_istore_n (lv' := [_, _, _, _, _]) dX5_book_5 (by decide) rfl ?_
      refine r_iload_n dX5_book_6 rfl ?_
      refine r_if_eq 16 dX5_book_7 (by decide) (fun c7 => ?_) (fun c7 => ?_)
      · exact absurd c7 (by decide)
      · refine r_aload_n dX5_book_10 rfl ?_
        refine r_iload_n dX5_book_11 rfl ?_
        refine r_v1r (Y_finds 5 (by decide) (by decide)) (Nat.le_of_ble_eq_true rfl) mrX5_finds lkX5_66 rfl rfl rfl dX5_book_12 (Nat.le_of_ble_eq_true rfl) ?_
        refine r_iret dX5_book_15 rfl rfl ?_ ?_
        · rfl
        · exact ⟨ks, ot, as, fl, a, b, v, w, mv, hk, HE.rf⟩
    · rw [if_neg hb, etz]
      have L : ∀ (p : Nat), p < 8 → ∀ (k c : Nat) (fl : Int32), c + k = z → RunQ X 11 mX5_book 38 [some (.ref 0), some (.int (nI i)), some (.int (nI p)), some (.int 0), some (.int (nI c))] [] (hY (enc (stpN c R)) ks ot (enc R) fl kp tc (nI n, nI a, b, v, w) T (bsF Z) (szF Z) (blk (40 * i) c (fun j => cutZ (Z i).1 (rS (stpN j R) p).toInt64) (nmF Z)) mv) (some (.int (Z i).2.1)) (qY ((R, K, kp, tc), (n, T), updZ Z i ((Z i).1, (Z i).2.1, bkF (Z i).1 (fun j => rS (stpN j R) p) (Z i).2.2 z))) := by
        intro p hp k
        induction k with
        | zero =>
          intro c fl hc
          obtain rfl : c = z := by omega
          refine r_iload dX5_book_38 rfl ?_
          refine r_aload_n dX5_book_40 rfl ?_
          refine r_getfield dX5_book_41 gfX5_31 rfl rfl ?_
          refine r_iload_n dX5_book_44 rfl ?_
          refine r_ialdN dX5_book_45 rfl (by omega) (Nat.le_of_ble_eq_true rfl) (show szF Z i = nI c from ez) ?_
          refine r_icmp_ge 87 dX5_book_46 (by decide) (fun c46 => ?_) (fun c46 => ?_)
          · refine r_aload_n dX5_book_87 rfl ?_
            refine r_aload_n dX5_book_88 rfl ?_
            refine r_getfield dX5_book_89 gfX5_31 rfl rfl ?_
            refine r_iload_n dX5_book_92 rfl ?_
            refine r_ialdN dX5_book_93 rfl (by omega) (Nat.le_of_ble_eq_true rfl) (show szF Z i = (Z i).2.1 from rfl) ?_
            refine r_v1r ((M_takesBack.pre rfl (Nat.le_of_ble_eq_true rfl)).pre rfl (Nat.le_of_ble_eq_true rfl)) (Nat.le_of_ble_eq_true rfl) mrX5_takesBack lkX5_156 rfl rfl rfl dX5_book_94 (Nat.le_of_ble_eq_true rfl) ?_
            refine r_iret dX5_book_97 rfl rfl ?_ ?_
            · rfl
            · exact qY_of (a := a) (b := b) (v := v) (w := w) (Z := updZ Z i ((Z i).1, (Z i).2.1, bkF (Z i).1 (fun j => rS (stpN j R) p) (Z i).2.2 c)) hk (bs_same Z i _ _) (sz_same Z i _ _) (bk_nm (g := fun j => rS (stpN j R) p) hz)
          · exact absurd (nI_le (by omega) (by omega)) c46
        | succ k ih =>
          intro c fl hc
          refine r_iload dX5_book_38 rfl ?_
          refine r_aload_n dX5_book_40 rfl ?_
          refine r_getfield dX5_book_41 gfX5_31 rfl rfl ?_
          refine r_iload_n dX5_book_44 rfl ?_
          refine r_ialdN dX5_book_45 rfl (by omega) (Nat.le_of_ble_eq_true rfl) (show szF Z i = nI z from ez) ?_
          refine r_icmp_ge 87 dX5_book_46 (by decide) (fun c46 => ?_) (fun c46 => ?_)
          · exact absurd c46 (nI_ge (by omega) (by omega))
          · refine r_aload_n dX5_book_49 rfl ?_
            refine r_getfield dX5_book_50 gfX5_34 rfl rfl ?_
            refine r_bipush (v := nI 40) dX5_book_53 (by decide) ?_
            refine r_iload_n dX5_book_55 rfl ?_
            refine r_imul dX5_book_56 ?_
            rw [pk_mul]
            refine r_iload dX5_book_57 rfl ?_
            refine r_iadd dX5_book_59 ?_
            rw [nI_add]
            refine r_aload_n dX5_book_60 rfl ?_
            refine r_getfield dX5_book_61 gfX5_28 rfl rfl ?_
            refine r_iload_n dX5_book_64 rfl ?_
            refine r_ialdN dX5_book_65 rfl (by omega) (Nat.le_of_ble_eq_true rfl) (show bsF Z i = (Z i).1 from rfl) ?_
            refine r_aload_n dX5_book_66 rfl ?_
            refine r_iload_n dX5_book_67 rfl ?_
            refine r_iconst (v := nI 2) dX5_book_68 (by decide) ?_
            refine r_v2r (((M_its2 hp).pre rfl (Nat.le_of_ble_eq_true rfl)).pre rfl (Nat.le_of_ble_eq_true rfl)) (Nat.le_of_ble_eq_true rfl) mrX5_its lkX5_54 rfl rfl rfl dX5_book_69 (Nat.le_of_ble_eq_true rfl) ?_
            refine r_i2l dX5_book_72 ?_
            refine r_s2r M_narrowed (Nat.le_of_ble_eq_true rfl) mrX5_narrowed lkX5_295 dX5_book_73 (Nat.le_of_ble_eq_true rfl) ?_
            refine r_lastN (h' := [_, _, _, _, _, _, _, _, _, _, _]) dX5_book_76 rfl (by omega) (Nat.le_of_ble_eq_true rfl) rfl ?_
            rw [blk_s rfl]
            refine r_aload_n dX5_book_77 rfl ?_
            refine r_v0n (Y_step (g := (nI n, nI a, b, v, w)) (wf_stpN hw c)) (Nat.le_of_ble_eq_true rfl) mrX5_step lkX5_141 rfl rfl rfl dX5_book_78 (Nat.le_of_ble_eq_true rfl) ?_
            refine r_iinc (lv' := [_, _, _, _, _]) dX5_book_81 (by decide) rfl (by first | exact inc1 _ | exact inc1_ _) rfl ?_
            refine r_goto 38 dX5_book_84 (by decide) ?_
            have e := ih (c + 1) (stpF (stpN c R)) (by omega)
            rw [stpN_s] at e
            exact e
      refine r_aload_n dX5_book_0 rfl ?_
      refine r_iload_n dX5_book_1 rfl ?_
      refine r_v1r (M_wrC (by omega) hb) (Nat.le_of_ble_eq_true rfl) mrX5_wrongSheet lkX5_292 rfl rfl rfl dX5_book_2 (Nat.le_of_ble_eq_true rfl) ?_
      refine r_istore_n (lv' := [_, _, _, _, _]) dX5_book_5 (by decide) rfl ?_
      refine r_iload_n dX5_book_6 rfl ?_
      refine r_if_eq 16 dX5_book_7 (by decide) (fun c7 => ?_) (fun c7 => ?_)
      · refine r_aload_n dX5_book_16 rfl ?_
        refine r_iload_n dX5_book_17 rfl ?_
        refine r_v1r (((M_isPlace hw.1).pre rfl (Nat.le_of_ble_eq_true rfl)).pre rfl (Nat.le_of_ble_eq_true rfl)) (Nat.le_of_ble_eq_true rfl) mrX5_isPlace lkX5_69 rfl rfl rfl dX5_book_18 (Nat.le_of_ble_eq_true rfl) ?_
        refine r_if_neB 31 dX5_book_21 (by decide) (fun c21 => ?_) (fun c21 => ?_)
        · rw [c21]
          obtain ⟨p, hp, rfl⟩ := hasB_of c21 (by omega)
          have ep : tn (nI p) = p := nI_clamp (by omega)
          rw [ep]
          refine r_aload_n dX5_book_31 rfl ?_
          refine r_v0n ((M_laysAside.pre rfl (Nat.le_of_ble_eq_true rfl)).pre rfl (Nat.le_of_ble_eq_true rfl)) (Nat.le_of_ble_eq_true rfl) mrX5_laysAside lkX5_153 rfl rfl rfl dX5_book_32 (Nat.le_of_ble_eq_true rfl) ?_
          refine r_iconst (v := nI 0) dX5_book_35 (by decide) ?_
          refine r_istore (lv' := [_, _, _, _, _]) dX5_book_36 (by decide) rfl ?_
          have e := L p (by omega) z 0 fl (by omega)
          rw [blk_0] at e
          exact e
        · refine r_aload_n dX5_book_24 rfl ?_
          refine r_ldc kX5_41 dX5_book_25 ?_
          refine r_v1r (Y_finds 0 (by decide) (by decide)) (Nat.le_of_ble_eq_true rfl) mrX5_finds lkX5_66 rfl rfl rfl dX5_book_27 (Nat.le_of_ble_eq_true rfl) ?_
          refine r_iret dX5_book_30 rfl rfl ?_ ?_
          · rw [c21]; rfl
          · rw [c21]
            exact ⟨ks, ot, as, fl, a, b, v, w, mv, hk, HE.rf⟩
      · exact absurd (by decide) c7
/-- some row of ints stands; what fell last is anything -/
def qB (ks ot as : Nat → Int32) (kp : Bool) (tc : Nat → Int32) (g : GO) (T : Nat → Nat) (Z : Nat → SHT) (mv : Nat → Int64) (h : AH) : Prop := ∃ (s : Nat → Int32) (fl : Int32), HE h (hY s ks ot as fl kp tc g T (bsF Z) (szF Z) (nmF Z) mv)
theorem qB_len {ks ot as : Nat → Int32} {kp : Bool} {tc : Nat → Int32} {g : GO} {T : Nat → Nat} {Z : Nat → SHT} {mv : Nat → Int64} {h' : AH} (q : qB ks ot as kp tc g T Z mv h') : h'.length = 11 := by
  obtain ⟨_, _, q⟩ := q
  exact q.len.symm
theorem Y_isBook {A : RS} {ks ot as : Nat → Int32} {fl : Int32} {kp : Bool} {tc : Nat → Int32} {g : GO} {T : Nat → Nat} {Z : Nat → SHT} {mv : Nat → Int64} {i p z : Nat} (hi : i < 4) (hp : p < 8) (hw : wfR A) (hz : z ≤ 40) (ez : (Z i).2.1 = nI z) : SpQ 7 mX5_isBook [.ref 0, .int (nI i), .int (nI p)] (hY (enc A) ks ot as fl kp tc g T (bsF Z) (szF Z) (nmF Z) mv) (some (.int (bI (jst (Z i).2.2 p z 0 A)))) (qB ks ot as kp tc g T Z mv) := by
  refine SpQ.of [some (.ref 0), some (.int (nI i)), some (.int (nI p)), none] mrX5_isBook.1 (fun _ q => qB_len q) (Nat.le_of_ble_eq_true rfl) rfl (fun X => ?_)
  have L : ∀ (k c : Nat) (A : RS) (fl : Int32), wfR A → c + k = z → RunQ X 7 mX5_isBook 2 [some (.ref 0), some (.int (nI i)), some (.int (nI p)), some (.int (nI c))] [] (hY (enc A) ks ot as fl kp tc g T (bsF Z) (szF Z) (nmF Z) mv) (some (.int (bI (jst (Z i).2.2 p k c A)))) (qB ks ot as kp tc g T Z mv) := by
    intro k
    induction k with
    | zero =>
      intro c A fl hA hc
      refine r_iload_n dX5_isBook_2 rfl ?_
      refine r_aload_n dX5_isBook_3 rfl ?_
      refine r_getfield dX5_isBook_4 gfX5_31 rfl rfl ?_
      refine r_iload_n dX5_isBook_7 rfl ?_
      refine r_ialdN dX5_isBook_8 rfl (by omega) (Nat.le_of_ble_eq_true rfl) (show szF Z i = nI z from ez) ?_
      refine r_icmp_ge 46 dX5_isBook_9 (by decide) (fun c9 => ?_) (fun c9 => ?_)
      · refine r_iconst (v := nI 1) dX5_isBook_46 (by decide) ?_
        refine r_iret dX5_isBook_47 rfl (by first | exact bI_nar _ | rfl) ?_ ?_
        · rfl
        · exact ⟨_, _, HE.rf⟩
      · exact absurd (nI_le (by omega) (by omega)) c9
    | succ k ih =>
      intro c A fl hA hc
      refine r_iload_n dX5_isBook_2 rfl ?_
      refine r_aload_n dX5_isBook_3 rfl ?_
      refine r_getfield dX5_isBook_4 gfX5_31 rfl rfl ?_
      refine r_iload_n dX5_isBook_7 rfl ?_
      refine r_ialdN dX5_isBook_8 rfl (by omega) (Nat.le_of_ble_eq_true rfl) (show szF Z i = nI z from ez) ?_
      refine r_icmp_ge 46 dX5_isBook_9 (by decide) (fun c9 => ?_) (fun c9 => ?_)
      · exact absurd c9 (nI_ge (by omega) (by omega))
      · refine r_aload_n dX5_isBook_12 rfl ?_
        refine r_getfield dX5_isBook_13 gfX5_34 rfl rfl ?_
        refine r_bipush (v := nI 40) dX5_isBook_16 (by decide) ?_
        refine r_iload_n dX5_isBook_18 rfl ?_
        refine r_imul dX5_isBook_19 ?_
        rw [pk_mul]
        refine r_iload_n dX5_isBook_20 rfl ?_
        refine r_iadd dX5_isBook_21 ?_
        rw [nI_add]
        refine r_laldN dX5_isBook_22 rfl (by omega) (Nat.le_of_ble_eq_true rfl) (nm_at Z (by omega)) ?_
        refine r_aload_n dX5_isBook_23 rfl ?_
        refine r_iload_n dX5_isBook_24 rfl ?_
        refine r_iconst (v := nI 2) dX5_isBook_25 (by decide) ?_
        refine r_v2r (((M_its2 hp).pre rfl (Nat.le_of_ble_eq_true rfl)).pre rfl (Nat.le_of_ble_eq_true rfl)) (Nat.le_of_ble_eq_true rfl) mrX5_its lkX5_54 rfl rfl rfl dX5_isBook_26 (Nat.le_of_ble_eq_true rfl) ?_
        refine r_i2l dX5_isBook_29 ?_
        refine r_lcmp dX5_isBook_30 ?_
        refine r_if_eq 36 dX5_isBook_31 (by decide) (fun c31 => ?_) (fun c31 => ?_)
        · refine r_aload_n dX5_isBook_36 rfl ?_
          refine r_v0n (((M_step hA).pre rfl (Nat.le_of_ble_eq_true rfl)).pre rfl (Nat.le_of_ble_eq_true rfl)) (Nat.le_of_ble_eq_true rfl) mrX5_step lkX5_141 rfl rfl rfl dX5_isBook_37 (Nat.le_of_ble_eq_true rfl) ?_
          refine r_iinc (lv' := [_, _, _, _]) dX5_isBook_40 (by decide) rfl (by first | exact inc1 _ | exact inc1_ _) rfl ?_
          refine r_goto 2 dX5_isBook_43 (by decide) ?_
          rw [jst, decide_eq_true (cmp_0.mp c31)]
          exact ih (c + 1) (stp A) (stpF A) (wf_stp hA) (by omega)
        · refine r_iconst (v := nI 0) dX5_isBook_34 (by decide) ?_
          refine r_iret dX5_isBook_35 rfl (by first | exact bI_nar _ | rfl) ?_ ?_
          · rw [jst, decide_eq_false (fun y => c31 (cmp_0.mpr y))]; rfl
          · exact ⟨_, _, HE.rf⟩
  refine r_iconst (v := nI 0) dX5_isBook_0 (by decide) ?_
  refine r_istore_n (lv' := [_, _, _, _]) dX5_isBook_1 (by decide) rfl ?_
  exact L z 0 A fl hw (by omega)
theorem div10 : ∀ c, c < 60 → nI c / nI 10 = nI (c / 10) := by decide +kernel
theorem rem10 : ∀ c, c < 60 → nI c - nI c / nI 10 * nI 10 = nI (c % 10) := by decide +kernel
theorem rdN_t {R : RS} {f : Nat → Int64} {p z m : Nat} (h : jst f p z 0 (sB (sK R (upd (rK R) p (nI (m / 10)))) (nI (m % 10))) = true) : rdN R f p z (m + 1) = rdN R f p z m + nI 1 := by rw [rdN, h]
theorem rdN_f {R : RS} {f : Nat → Int64} {p z m : Nat} (h : jst f p z 0 (sB (sK R (upd (rK R) p (nI (m / 10)))) (nI (m % 10))) = false) : rdN R f p z (m + 1) = rdN R f p z m := by rw [rdN, h]
theorem Y_read {R K : RS} {ks ot as : Nat → Int32} {fl : Int32} {kp : Bool} {tc : Nat → Int32} {n : Nat} {T : Nat → Nat} {Z : Nat → SHT} {a : Nat} {b v : Int32} {w : Bool} {mv : Nat → Int64} {x y : Int32} (hZ : wfZ Z) (hw : wfR R) (hk : kp = true → ∀ i, i < 37 → ks i = enc K i) : SpQ 11 mX5_read [.ref 0, .int x, .int y] (hY (enc R) ks ot as fl kp tc (nI n, nI a, b, v, w) T (bsF Z) (szF Z) (nmF Z) mv) (some (.int (o_read ((R, K, kp, tc), (n, T), Z) x y).1)) (qY (o_read ((R, K, kp, tc), (n, T), Z) x y).2) := by
  refine SpQ.of [some (.ref 0), some (.int x), some (.int y), none, none, none] mrX5_read.1 (fun _ q => qY_len q) (Nat.le_of_ble_eq_true rfl) rfl (fun X => ?_)
  have hc8 := hw.1
  rw [o_read]
  cases c4 : inR x (nI 0) (nI 3) with
  | false =>
    rw [bkL, c4]
    refine r_aload_n dX5_read_0 rfl ?_
    refine r_iload_n dX5_read_1 rfl ?_
    refine r_v1r (M_wrA c4) (Nat.le_of_ble_eq_true rfl) mrX5_wrongSheet lkX5_292 rfl rfl rfl dX5_read_2 (Nat.le_of_ble_eq_true rfl) ?_
    refine r_istore_n (lv' := [_, _, _, _, _, _]) dX5_read_5 (by decide) rfl ?_
    refine r_iload_n dX5_read_6 rfl ?_
    refine r_if_eq 16 dX5_read_7 (by decide) (fun c7 => ?_) (fun c7 => ?_)
    · exact absurd c7 (by decide)
    · refine r_aload_n dX5_read_10 rfl ?_
      refine r_iload_n dX5_read_11 rfl ?_
      refine r_v1r (Y_finds 0 (by decide) (by decide)) (Nat.le_of_ble_eq_true rfl) mrX5_finds lkX5_66 rfl rfl rfl dX5_read_12 (Nat.le_of_ble_eq_true rfl) ?_
      refine r_iret dX5_read_15 rfl rfl ?_ ?_
      · rfl
      · exact ⟨ks, ot, as, fl, a, b, v, w, mv, hk, HE.rf⟩
  | true =>
    rw [bkL, c4]
    obtain ⟨i, -, hi, rfl⟩ := inR_of c4 (by decide) (by decide)
    have ei : tn (nI i) = i := nI_clamp (by omega)
    obtain ⟨z, hz, ez⟩ := hZ i (by omega)
    have etz : tn (Z i).2.1 = z := by rw [ez]; exact nI_clamp (by omega)
    dsimp only
    rw [ei]
    by_cases hb : (Z i).1 = 0
    · rw [if_pos hb]
      refine r_aload_n dX5_read_0 rfl ?_
      refine r_iload_n dX5_read_1 rfl ?_
      refine r_v1r (M_wrB (by omega) hb) (Nat.le_of_ble_eq_true rfl) mrX5_wrongSheet lkX5_292 rfl rfl rfl dX5_read_2 (Nat.le_of_ble_eq_true rfl) ?_
      refine r_istore_n (lv' := [_, _, _, _, _, _]) dX5_read_5 (by decide) rfl ?_
      refine r_iload_n dX5_read_6 rfl ?_
      refine r_if_eq 16 dX5_read_7 (by decide) (fun c7 => ?_) (fun c7 => ?_)
      · exact absurd c7 (by decide)
      · refine r_aload_n dX5_read_10 rfl ?_
        refine r_iload_n dX5_read_11 rfl ?_
        refine r_v1r (Y_finds 5 (by decide) (by decide)) (Nat.le_of_ble_eq_true rfl) mrX5_finds lkX5_66 rfl rfl rfl dX5_read_12 (Nat.le_of_ble_eq_true rfl) ?_
        refine r_iret dX5_read_15 rfl rfl ?_ ?_
        · rfl
        · exact ⟨ks, ot, as, fl, a, b, v, w, mv, hk, HE.rf⟩
    · rw [if_neg hb, etz]
      have L : ∀ (p : Nat), p < 8 → ∀ (k c : Nat) (fl : Int32), c + k = 60 → RunQ X 11 mX5_read 41 [some (.ref 0), some (.int (nI i)), some (.int (nI p)), some (.int 0), some (.int (rdN R (Z i).2.2 p z c)), some (.int (nI c))] [] (hY (enc R) ks ot (enc R) fl kp tc (nI n, nI a, b, v, w) T (bsF Z) (szF Z) (nmF Z) mv) (some (.int (rdN R (Z i).2.2 p z 60))) (qY ((R, K, kp, tc), (n, T), Z)) := by
        intro p hp k
        induction k with
        | zero =>
          intro c fl hc
          obtain rfl : c = 60 := by omega
          refine r_iload dX5_read_41 rfl ?_
          refine r_bipush (v := nI 60) dX5_read_43 (by decide) ?_
          refine r_icmp_ge 103 dX5_read_45 (by decide) (fun c45 => ?_) (fun c45 => ?_)
          · refine r_iload dX5_read_103 rfl ?_
            refine r_iret dX5_read_105 rfl rfl ?_ ?_
            · rfl
            · exact qY_of (a := a) (b := b) (v := v) (w := w) hk rfl rfl rfl
          · exact absurd (nI_le (by omega) (by omega)) c45
        | succ k ih =>
          intro c fl hc
          have hA := wf_sB (b := c % 10) (wf_sK (p := p) (k := c / 10) hw (by omega)) (by omega)
          refine r_iload dX5_read_41 rfl ?_
          refine r_bipush (v := nI 60) dX5_read_43 (by decide) ?_
          refine r_icmp_ge 103 dX5_read_45 (by decide) (fun c45 => ?_) (fun c45 => ?_)
          · exact absurd c45 (nI_ge (by omega) (by omega))
          · refine r_aload_n dX5_read_48 rfl ?_
            refine r_getfield dX5_read_49 gfX5_7 rfl rfl ?_
            refine r_iload_n dX5_read_52 rfl ?_
            refine r_iconst (v := nI 0) dX5_read_53 (by decide) ?_
            refine r_s2r M_spot (Nat.le_of_ble_eq_true rfl) mrX5_spot lkX5_42 dX5_read_54 (Nat.le_of_ble_eq_true rfl) ?_
            refine r_iload dX5_read_57 rfl ?_
            refine r_bipush (v := nI 10) dX5_read_59 (by decide) ?_
            refine r_idiv dX5_read_61 (by decide) ?_
            rw [div10 c (by omega)]
            refine r_iastN (h' := [_, _, _, _, _, _, _, _, _, _, _]) dX5_read_62 rfl (by omega) (Nat.le_of_ble_eq_true rfl) rfl ?_
            rw [encU0]
            refine r_aload_n dX5_read_63 rfl ?_
            refine r_getfield dX5_read_64 gfX5_7 rfl rfl ?_
            refine r_iconst (v := nI 4) dX5_read_67 (by decide) ?_
            refine r_iload dX5_read_68 rfl ?_
            refine r_bipush (v := nI 10) dX5_read_70 (by decide) ?_
            refine r_irem dX5_read_72 (by decide) ?_
            rw [rem10 c (by omega)]
            refine r_iastN (h' := [_, _, _, _, _, _, _, _, _, _, _]) dX5_read_73 rfl (by first | decide | omega) (Nat.le_of_ble_eq_true rfl) rfl ?_
            rw [encA4]
            refine r_aload_n dX5_read_74 rfl ?_
            refine r_iload dX5_read_75 rfl ?_
            refine r_aload_n dX5_read_77 rfl ?_
            refine r_iload_n dX5_read_78 rfl ?_
            refine r_iload_n dX5_read_79 rfl ?_
            refine r_v2rq (Y_isBook (g := (nI n, nI a, b, v, w)) (by omega) hp hA hz ez) (Nat.le_of_ble_eq_true rfl) mrX5_isBook lkX5_299 rfl rfl rfl dX5_read_80 (Nat.le_of_ble_eq_true rfl) (fun h9 _ g9 => ?_)
            obtain ⟨s9, fl9, g9⟩ := g9
            refine r_heq g9 ?_
            refine r_if_eqB 90 dX5_read_83 (by decide) (fun c83 => ?_) (fun c83 => ?_)
            · refine r_iconst (v := nI 0) dX5_read_90 (by decide) ?_
              refine r_iadd dX5_read_91 ?_
              refine r_v1r ((M_takesBack.pre rfl (Nat.le_of_ble_eq_true rfl)).pre rfl (Nat.le_of_ble_eq_true rfl)) (Nat.le_of_ble_eq_true rfl) mrX5_takesBack lkX5_156 rfl rfl rfl dX5_read_92 (Nat.le_of_ble_eq_true rfl) ?_
              refine r_istore (lv' := [_, _, _, _, _, _]) dX5_read_95 (by decide) rfl ?_
              refine r_iinc (lv' := [_, _, _, _, _, _]) dX5_read_97 (by decide) rfl (by first | exact inc1 _ | exact inc1_ _) rfl ?_
              refine r_goto 41 dX5_read_100 (by decide) ?_
              have e := ih (c + 1) fl9 (by omega)
              first
              | (rw [rdN_t c83] at e; exact e)
              | (rw [rdN_f c83] at e; rw [add_0]; exact e)
            · refine r_iconst (v := nI 1) dX5_read_86 (by decide) ?_
              refine r_goto 91 dX5_read_87 (by decide) ?_
              refine r_iadd dX5_read_91 ?_
              refine r_v1r ((M_takesBack.pre rfl (Nat.le_of_ble_eq_true rfl)).pre rfl (Nat.le_of_ble_eq_true rfl)) (Nat.le_of_ble_eq_true rfl) mrX5_takesBack lkX5_156 rfl rfl rfl dX5_read_92 (Nat.le_of_ble_eq_true rfl) ?_
              refine r_istore (lv' := [_, _, _, _, _, _]) dX5_read_95 (by decide) rfl ?_
              refine r_iinc (lv' := [_, _, _, _, _, _]) dX5_read_97 (by decide) rfl (by first | exact inc1 _ | exact inc1_ _) rfl ?_
              refine r_goto 41 dX5_read_100 (by decide) ?_
              have e := ih (c + 1) fl9 (by omega)
              first
              | (rw [rdN_t c83] at e; exact e)
              | (rw [rdN_f c83] at e; rw [add_0]; exact e)
      refine r_aload_n dX5_read_0 rfl ?_
      refine r_iload_n dX5_read_1 rfl ?_
      refine r_v1r (M_wrC (by omega) hb) (Nat.le_of_ble_eq_true rfl) mrX5_wrongSheet lkX5_292 rfl rfl rfl dX5_read_2 (Nat.le_of_ble_eq_true rfl) ?_
      refine r_istore_n (lv' := [_, _, _, _, _, _]) dX5_read_5 (by decide) rfl ?_
      refine r_iload_n dX5_read_6 rfl ?_
      refine r_if_eq 16 dX5_read_7 (by decide) (fun c7 => ?_) (fun c7 => ?_)
      · refine r_aload_n dX5_read_16 rfl ?_
        refine r_iload_n dX5_read_17 rfl ?_
        refine r_v1r (((M_isPlace hw.1).pre rfl (Nat.le_of_ble_eq_true rfl)).pre rfl (Nat.le_of_ble_eq_true rfl)) (Nat.le_of_ble_eq_true rfl) mrX5_isPlace lkX5_69 rfl rfl rfl dX5_read_18 (Nat.le_of_ble_eq_true rfl) ?_
        refine r_if_neB 31 dX5_read_21 (by decide) (fun c21 => ?_) (fun c21 => ?_)
        · rw [c21]
          obtain ⟨p, hp, rfl⟩ := hasB_of c21 (by omega)
          have ep : tn (nI p) = p := nI_clamp (by omega)
          rw [ep]
          refine r_aload_n dX5_read_31 rfl ?_
          refine r_v0n ((M_laysAside.pre rfl (Nat.le_of_ble_eq_true rfl)).pre rfl (Nat.le_of_ble_eq_true rfl)) (Nat.le_of_ble_eq_true rfl) mrX5_laysAside lkX5_153 rfl rfl rfl dX5_read_32 (Nat.le_of_ble_eq_true rfl) ?_
          refine r_iconst (v := nI 0) dX5_read_35 (by decide) ?_
          refine r_istore (lv' := [_, _, _, _, _, _]) dX5_read_36 (by decide) rfl ?_
          refine r_iconst (v := nI 0) dX5_read_38 (by decide) ?_
          refine r_istore (lv' := [_, _, _, _, _, _]) dX5_read_39 (by decide) rfl ?_
          exact L p (by omega) 60 0 fl rfl
        · refine r_aload_n dX5_read_24 rfl ?_
          refine r_ldc kX5_41 dX5_read_25 ?_
          refine r_v1r (Y_finds 0 (by decide) (by decide)) (Nat.le_of_ble_eq_true rfl) mrX5_finds lkX5_66 rfl rfl rfl dX5_read_27 (Nat.le_of_ble_eq_true rfl) ?_
          refine r_iret dX5_read_30 rfl rfl ?_ ?_
          · rw [c21]; rfl
          · rw [c21]
            exact ⟨ks, ot, as, fl, a, b, v, w, mv, hk, HE.rf⟩
      · exact absurd (by decide) c7

