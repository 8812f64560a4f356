/-! a STEP in the class -/
def nwS (fell : Bool) (x : Int32) : Int32 := match fell with
  | true => if nI 9999 < x + nI 1 then nI 9999 else x + nI 1
  | false => x
def nwN (fell : Bool) (x : Int32) : Int32 := match fell with
  | true => if x - nI 10 < nI 0 then nI 0 else x - nI 10
  | false => if nI 99 < x + nI 1 then nI 99 else x + nI 1
theorem S_X1_walk {t r l b : Int32} {n : Nat} {K Hd St Nv : Nat → Int32} {fl un : Int32} (hn : n ≤ 8) (F : Nat → Bool) (hF : ∀ p, p < n → F p = (isIn un (nI p) && !warnF (K p) (Hd p) (Nv p))) : Sp 2 mX1_walk [.ref 0, .int un] (hRc t r l b n K Hd St Nv fl) none (hRc t r l b n K Hd (prg n (fun p => nwS (F p) (St p)) St) (prg n (fun p => nwN (F p) (Nv p)) Nv) (setOf F n)) := by
  refine Sp.of [some (.ref 0), some (.int un), none] mrX1_walk.1 rfl (Nat.le_of_ble_eq_true rfl) rfl (fun X => ?_)
  have L : ∀ (k i : Nat), i + k = n → Run X 2 mX1_walk 7 [some (.ref 0), some (.int un), some (.int (nI i))] [] (hRc t r l b n K Hd (prg i (fun p => nwS (F p) (St p)) St) (prg i (fun p => nwN (F p) (Nv p)) Nv) (setOf F i)) none (hRc t r l b n K Hd (prg n (fun p => nwS (F p) (St p)) St) (prg n (fun p => nwN (F p) (Nv p)) Nv) (setOf F n)) := by
    intro k
    induction k with
    | zero =>
      intro i hi
      obtain rfl : i = n := by omega
      refine r_iload_n dX1_walk_7 rfl ?_
      refine r_aload_n dX1_walk_8 rfl ?_
      refine r_getfield dX1_walk_9 gfX1_38 rfl rfl ?_
      refine r_icmp_ge 110 dX1_walk_12 (by decide) (fun c12 => ?_) (fun c12 => ?_)
      · refine r_vret dX1_walk_110 rfl ?_ ?_
        · rfl
        · exact HE.rf
      · exact absurd (nI_le (Nat.le_refl _) (by omega)) c12
    | succ k ih =>
      intro i hi
      refine r_iload_n dX1_walk_7 rfl ?_
      refine r_aload_n dX1_walk_8 rfl ?_
      refine r_getfield dX1_walk_9 gfX1_38 rfl rfl ?_
      refine r_icmp_ge 110 dX1_walk_12 (by decide) (fun c12 => ?_) (fun c12 => ?_)
      · exact absurd c12 (nI_ge (by omega) (by omega))
      · refine r_iload_n dX1_walk_15 rfl ?_
        refine r_iload_n dX1_walk_16 rfl ?_
        refine r_s2r S_X4_isIn (Nat.le_of_ble_eq_true rfl) mrX4_isIn lkX1_66 dX1_walk_17 (Nat.le_of_ble_eq_true rfl) ?_
        refine r_if_eqB 85 dX1_walk_20 (by decide) (fun c20 => ?_) (fun c20 => ?_)
        · refine r_aload_n dX1_walk_85 rfl ?_
          refine r_getfield dX1_walk_86 gfX1_29 rfl rfl ?_
          refine r_iload_n dX1_walk_89 rfl ?_
          refine r_aload_n dX1_walk_90 rfl ?_
          refine r_getfield dX1_walk_91 gfX1_29 rfl rfl ?_
          refine r_iload_n dX1_walk_94 rfl ?_
          refine r_ialdN dX1_walk_95 rfl (by first | decide | omega) (Nat.le_of_ble_eq_true rfl) prg_at ?_
          refine r_iconst (v := nI 1) dX1_walk_96 (by decide) ?_
          refine r_iadd dX1_walk_97 ?_
          refine r_bipush (v := nI 99) dX1_walk_98 (by decide) ?_
          refine r_s2r S_J9_min_7cf53 (Nat.le_of_ble_eq_true rfl) mrJ9_min_7cf53 lkX1_106 dX1_walk_100 (Nat.le_of_ble_eq_true rfl) ?_
          refine r_iastN (h' := [_, _, _, _, _]) dX1_walk_103 rfl (by first | decide | omega) (Nat.le_of_ble_eq_true rfl) rfl ?_
          refine r_iinc (lv' := [_, _, _]) dX1_walk_104 (by decide) rfl (inc1 _) rfl ?_
          refine r_goto 7 dX1_walk_107 (by decide) ?_
          have e := ih (i + 1) (by omega)
          first
          | (have hf : F i = true := by rw [hF i (by omega), c20]; rw [prg_at] at c28; rw [c28]; rfl
             rw [setOf_t hf, ← prg_upd (f := fun p => nwS (F p) (St p)) (x := if nI 9999 < St i + nI 1 then nI 9999 else St i + nI 1) (by show nwS (F i) (St i) = _; rw [hf]; rfl), ← prg_upd (f := fun p => nwN (F p) (Nv p)) (x := if Nv i - nI 10 < nI 0 then nI 0 else Nv i - nI 10) (by show nwN (F i) (Nv i) = _; rw [hf]; rfl)] at e
             exact e)
          | (have hf : F i = false := by first | (rw [hF i (by omega), c20]; rfl) | (rw [hF i (by omega), c20]; rw [prg_at] at c28; rw [c28]; rfl)
             rw [setOf_f hf, ← prg_skip (f := fun p => nwS (F p) (St p)) (by show nwS (F i) (St i) = _; rw [hf]; rfl), ← prg_upd (f := fun p => nwN (F p) (Nv p)) (x := if nI 99 < Nv i + nI 1 then nI 99 else Nv i + nI 1) (by show nwN (F i) (Nv i) = _; rw [hf]; rfl)] at e
             exact e)
        · refine r_aload_n dX1_walk_23 rfl ?_
          refine r_iload_n dX1_walk_24 rfl ?_
          refine r_v1r (S_X1_isWarned (by omega)) (Nat.le_of_ble_eq_true rfl) mrX1_isWarned lkX1_103 rfl rfl rfl dX1_walk_25 (Nat.le_of_ble_eq_true rfl) ?_
          refine r_if_neB 85 dX1_walk_28 (by decide) (fun c28 => ?_) (fun c28 => ?_)
          · refine r_aload_n dX1_walk_85 rfl ?_
            refine r_getfield dX1_walk_86 gfX1_29 rfl rfl ?_
            refine r_iload_n dX1_walk_89 rfl ?_
            refine r_aload_n dX1_walk_90 rfl ?_
            refine r_getfield dX1_walk_91 gfX1_29 rfl rfl ?_
            refine r_iload_n dX1_walk_94 rfl ?_
            refine r_ialdN dX1_walk_95 rfl (by first | decide | omega) (Nat.le_of_ble_eq_true rfl) prg_at ?_
            refine r_iconst (v := nI 1) dX1_walk_96 (by decide) ?_
            refine r_iadd dX1_walk_97 ?_
            refine r_bipush (v := nI 99) dX1_walk_98 (by decide) ?_
            refine r_s2r S_J9_min_7cf53 (Nat.le_of_ble_eq_true rfl) mrJ9_min_7cf53 lkX1_106 dX1_walk_100 (Nat.le_of_ble_eq_true rfl) ?_
            refine r_iastN (h' := [_, _, _, _, _]) dX1_walk_103 rfl (by first | decide | omega) (Nat.le_of_ble_eq_true rfl) rfl ?_
            refine r_iinc (lv' := [_, _, _]) dX1_walk_104 (by decide) rfl (inc1 _) rfl ?_
            refine r_goto 7 dX1_walk_107 (by decide) ?_
            have e := ih (i + 1) (by omega)
            first
            | (have hf : F i = true := by rw [hF i (by omega), c20]; rw [prg_at] at c28; rw [c28]; rfl
               rw [setOf_t hf, ← prg_upd (f := fun p => nwS (F p) (St p)) (x := if nI 9999 < St i + nI 1 then nI 9999 else St i + nI 1) (by show nwS (F i) (St i) = _; rw [hf]; rfl), ← prg_upd (f := fun p => nwN (F p) (Nv p)) (x := if Nv i - nI 10 < nI 0 then nI 0 else Nv i - nI 10) (by show nwN (F i) (Nv i) = _; rw [hf]; rfl)] at e
               exact e)
            | (have hf : F i = false := by first | (rw [hF i (by omega), c20]; rfl) | (rw [hF i (by omega), c20]; rw [prg_at] at c28; rw [c28]; rfl)
               rw [setOf_f hf, ← prg_skip (f := fun p => nwS (F p) (St p)) (by show nwS (F i) (St i) = _; rw [hf]; rfl), ← prg_upd (f := fun p => nwN (F p) (Nv p)) (x := if nI 99 < Nv i + nI 1 then nI 99 else Nv i + nI 1) (by show nwN (F i) (Nv i) = _; rw [hf]; rfl)] at e
               exact e)
          · refine r_aload_n dX1_walk_31 rfl ?_
            refine r_dup dX1_walk_32 rfl ?_
            refine r_getfield dX1_walk_33 gfX1_81 rfl rfl ?_
            refine r_iconst (v := nI 1) dX1_walk_36 (by decide) ?_
            refine r_iload_n dX1_walk_37 rfl ?_
            refine r_ishl dX1_walk_38 ?_
            refine r_ior dX1_walk_39 ?_
            refine r_putfield (fs' := [_, _, _, _, _, _, _, _, _, _]) (h' := [_, _, _, _, _]) dX1_walk_40 pfX1_81 rfl (Nat.le_of_ble_eq_true rfl) (fun _ => rfl) rfl rfl rfl rfl ?_
            refine r_aload_n dX1_walk_43 rfl ?_
            refine r_getfield dX1_walk_44 gfX1_26 rfl rfl ?_
            refine r_iload_n dX1_walk_47 rfl ?_
            refine r_aload_n dX1_walk_48 rfl ?_
            refine r_getfield dX1_walk_49 gfX1_26 rfl rfl ?_
            refine r_iload_n dX1_walk_52 rfl ?_
            refine r_ialdN dX1_walk_53 rfl (by first | decide | omega) (Nat.le_of_ble_eq_true rfl) prg_at ?_
            refine r_iconst (v := nI 1) dX1_walk_54 (by decide) ?_
            refine r_iadd dX1_walk_55 ?_
            refine r_sipush (v := nI 9999) dX1_walk_56 (by decide) ?_
            refine r_s2r S_J9_min_7cf53 (Nat.le_of_ble_eq_true rfl) mrJ9_min_7cf53 lkX1_106 dX1_walk_59 (Nat.le_of_ble_eq_true rfl) ?_
            refine r_iastN (h' := [_, _, _, _, _]) dX1_walk_62 rfl (by first | decide | omega) (Nat.le_of_ble_eq_true rfl) rfl ?_
            refine r_aload_n dX1_walk_63 rfl ?_
            refine r_getfield dX1_walk_64 gfX1_29 rfl rfl ?_
            refine r_iload_n dX1_walk_67 rfl ?_
            refine r_aload_n dX1_walk_68 rfl ?_
            refine r_getfield dX1_walk_69 gfX1_29 rfl rfl ?_
            refine r_iload_n dX1_walk_72 rfl ?_
            refine r_ialdN dX1_walk_73 rfl (by first | decide | omega) (Nat.le_of_ble_eq_true rfl) prg_at ?_
            refine r_bipush (v := nI 10) dX1_walk_74 (by decide) ?_
            refine r_isub dX1_walk_76 ?_
            refine r_iconst (v := nI 0) dX1_walk_77 (by decide) ?_
            refine r_s2r S_J9_max_7cf53 (Nat.le_of_ble_eq_true rfl) mrJ9_max_7cf53 lkX1_109 dX1_walk_78 (Nat.le_of_ble_eq_true rfl) ?_
            refine r_iastN (h' := [_, _, _, _, _]) dX1_walk_81 rfl (by first | decide | omega) (Nat.le_of_ble_eq_true rfl) rfl ?_
            refine r_goto 104 dX1_walk_82 (by decide) ?_
            refine r_iinc (lv' := [_, _, _]) dX1_walk_104 (by decide) rfl (inc1 _) rfl ?_
            refine r_goto 7 dX1_walk_107 (by decide) ?_
            have e := ih (i + 1) (by omega)
            first
            | (have hf : F i = true := by rw [hF i (by omega), c20]; rw [prg_at] at c28; rw [c28]; rfl
               rw [setOf_t hf, ← prg_upd (f := fun p => nwS (F p) (St p)) (x := if nI 9999 < St i + nI 1 then nI 9999 else St i + nI 1) (by show nwS (F i) (St i) = _; rw [hf]; rfl), ← prg_upd (f := fun p => nwN (F p) (Nv p)) (x := if Nv i - nI 10 < nI 0 then nI 0 else Nv i - nI 10) (by show nwN (F i) (Nv i) = _; rw [hf]; rfl)] at e
               exact e)
            | (have hf : F i = false := by first | (rw [hF i (by omega), c20]; rfl) | (rw [hF i (by omega), c20]; rw [prg_at] at c28; rw [c28]; rfl)
               rw [setOf_f hf, ← prg_skip (f := fun p => nwS (F p) (St p)) (by show nwS (F i) (St i) = _; rw [hf]; rfl), ← prg_upd (f := fun p => nwN (F p) (Nv p)) (x := if nI 99 < Nv i + nI 1 then nI 99 else Nv i + nI 1) (by show nwN (F i) (Nv i) = _; rw [hf]; rfl)] at e
               exact e)
  refine r_aload_n dX1_walk_0 rfl ?_
  refine r_iconst (v := nI 0) dX1_walk_1 (by decide) ?_
  refine r_putfield (fs' := [_, _, _, _, _, _, _, _, _, _]) (h' := [_, _, _, _, _]) dX1_walk_2 pfX1_81 rfl (Nat.le_of_ble_eq_true rfl) (fun _ => rfl) rfl rfl rfl rfl ?_
  refine r_iconst (v := nI 0) dX1_walk_5 (by decide) ?_
  refine r_istore_n (lv' := [_, _, _]) dX1_walk_6 (by decide) rfl ?_
  have e := L n 0 (by omega)
  rw [prg_0, prg_0] at e
  exact e
theorem S_X1_sayOn {t r l b : Int32} {n : Nat} {K Hd St Nv : Nat → Int32} {fl sn : Int32} (hn : n ≤ 8) (G : Nat → Bool) (hG : ∀ p, p < n → G p = saysF (K p) (Hd p) (Nv p) (isIn fl (nI p)) (isIn sn (nI p))) : Sp 2 mX1_sayOn [.ref 0, .int sn] (hRc t r l b n K Hd St Nv fl) none (hRc t r l b n K (prg n (fun p => bI (decide (1 ≤ p) && G (p - 1))) Hd) St Nv fl) := by
  refine Sp.of [some (.ref 0), some (.int sn), none, none] mrX1_sayOn.1 rfl (Nat.le_of_ble_eq_true rfl) rfl (fun X => ?_)
  have L2 : ∀ (k i : Nat), i + k = n → Run X 2 mX1_sayOn 35 [some (.ref 0), some (.int sn), some (.int (setOf G n)), some (.int (nI i))] [] (hRc t r l b n K (prg i (fun p => bI (decide (1 ≤ p) && G (p - 1))) Hd) St Nv fl) none (hRc t r l b n K (prg n (fun p => bI (decide (1 ≤ p) && G (p - 1))) Hd) St Nv fl) := by
    intro k
    induction k with
    | zero =>
      intro i hi
      obtain rfl : i = n := by omega
      refine r_iload_n dX1_sayOn_35 rfl ?_
      refine r_aload_n dX1_sayOn_36 rfl ?_
      refine r_getfield dX1_sayOn_37 gfX1_38 rfl rfl ?_
      refine r_icmp_ge 70 dX1_sayOn_40 (by decide) (fun c40 => ?_) (fun c40 => ?_)
      · refine r_vret dX1_sayOn_70 rfl ?_ ?_
        · rfl
        · exact HE.rf
      · exact absurd (nI_le (Nat.le_refl _) (by omega)) c40
    | succ k ih =>
      intro i hi
      refine r_iload_n dX1_sayOn_35 rfl ?_
      refine r_aload_n dX1_sayOn_36 rfl ?_
      refine r_getfield dX1_sayOn_37 gfX1_38 rfl rfl ?_
      refine r_icmp_ge 70 dX1_sayOn_40 (by decide) (fun c40 => ?_) (fun c40 => ?_)
      · exact absurd c40 (nI_ge (by omega) (by omega))
      · refine r_aload_n dX1_sayOn_43 rfl ?_
        refine r_getfield dX1_sayOn_44 gfX1_23 rfl rfl ?_
        refine r_iload_n dX1_sayOn_47 rfl ?_
        refine r_iload_n dX1_sayOn_48 rfl ?_
        refine r_iconst (v := nI 1) dX1_sayOn_49 (by decide) ?_
        refine r_ishl dX1_sayOn_50 ?_
        refine r_iload_n dX1_sayOn_51 rfl ?_
        refine r_s2r S_X4_isIn (Nat.le_of_ble_eq_true rfl) mrX4_isIn lkX1_66 dX1_sayOn_52 (Nat.le_of_ble_eq_true rfl) ?_
        refine r_if_eqB 62 dX1_sayOn_55 (by decide) (fun c55 => ?_) (fun c55 => ?_)
        · refine r_iconst (v := nI 0) dX1_sayOn_62 (by decide) ?_
          refine r_iastN (h' := [_, _, _, _, _]) dX1_sayOn_63 rfl (by first | decide | omega) (Nat.le_of_ble_eq_true rfl) rfl ?_
          refine r_iinc (lv' := [_, _, _, _]) dX1_sayOn_64 (by decide) rfl (by first | exact inc1 _ | exact inc1_ _) rfl ?_
          refine r_goto 35 dX1_sayOn_67 (by decide) ?_
          have e := ih (i + 1) (by omega)
          rw [← prg_upd (x := bI (decide (1 ≤ i) && G (i - 1))) rfl] at e
          have q : isIn (setOf G n <<< (nI 1 &&& 31)) (nI i) = (decide (1 ≤ i) && G (i - 1)) := by
            rw [isIn_sh1 _ (by omega)]
            by_cases z : 1 ≤ i
            · rw [isIn_setOf G (by omega) (by omega)]
            · rw [decide_eq_false z]; rfl
          rw [← q, c55] at e
          exact e
        · refine r_iconst (v := nI 1) dX1_sayOn_58 (by decide) ?_
          refine r_goto 63 dX1_sayOn_59 (by decide) ?_
          refine r_iastN (h' := [_, _, _, _, _]) dX1_sayOn_63 rfl (by first | decide | omega) (Nat.le_of_ble_eq_true rfl) rfl ?_
          refine r_iinc (lv' := [_, _, _, _]) dX1_sayOn_64 (by decide) rfl (by first | exact inc1 _ | exact inc1_ _) rfl ?_
          refine r_goto 35 dX1_sayOn_67 (by decide) ?_
          have e := ih (i + 1) (by omega)
          rw [← prg_upd (x := bI (decide (1 ≤ i) && G (i - 1))) rfl] at e
          have q : isIn (setOf G n <<< (nI 1 &&& 31)) (nI i) = (decide (1 ≤ i) && G (i - 1)) := by
            rw [isIn_sh1 _ (by omega)]
            by_cases z : 1 ≤ i
            · rw [isIn_setOf G (by omega) (by omega)]
            · rw [decide_eq_false z]; rfl
          rw [← q, c55] at e
          exact e
  have L1 : ∀ (k i : Nat), i + k = n → Run X 2 mX1_sayOn 4 [some (.ref 0), some (.int sn), some (.int (setOf G i)), some (.int (nI i))] [] (hRc t r l b n K Hd St Nv fl) none (hRc t r l b n K (prg n (fun p => bI (decide (1 ≤ p) && G (p - 1))) Hd) St Nv fl) := by
    intro k
    induction k with
    | zero =>
      intro i hi
      obtain rfl : i = n := by omega
      refine r_iload_n dX1_sayOn_4 rfl ?_
      refine r_aload_n dX1_sayOn_5 rfl ?_
      refine r_getfield dX1_sayOn_6 gfX1_38 rfl rfl ?_
      refine r_icmp_ge 33 dX1_sayOn_9 (by decide) (fun c9 => ?_) (fun c9 => ?_)
      · refine r_iconst (v := nI 0) dX1_sayOn_33 (by decide) ?_
        refine r_istore_n (lv' := [_, _, _, _]) dX1_sayOn_34 (by decide) rfl ?_
        have e := L2 i 0 (by omega)
        rw [prg_0] at e
        exact e
      · exact absurd (nI_le (Nat.le_refl _) (by omega)) c9
    | succ k ih =>
      intro i hi
      refine r_iload_n dX1_sayOn_4 rfl ?_
      refine r_aload_n dX1_sayOn_5 rfl ?_
      refine r_getfield dX1_sayOn_6 gfX1_38 rfl rfl ?_
      refine r_icmp_ge 33 dX1_sayOn_9 (by decide) (fun c9 => ?_) (fun c9 => ?_)
      · exact absurd c9 (nI_ge (by omega) (by omega))
      · refine r_aload_n dX1_sayOn_12 rfl ?_
        refine r_iload_n dX1_sayOn_13 rfl ?_
        refine r_iload_n dX1_sayOn_14 rfl ?_
        refine r_v2r (S_X1_says (by omega)) (Nat.le_of_ble_eq_true rfl) mrX1_says lkX1_112 rfl rfl rfl dX1_sayOn_15 (Nat.le_of_ble_eq_true rfl) ?_
        refine r_if_eqB 27 dX1_sayOn_18 (by decide) (fun c18 => ?_) (fun c18 => ?_)
        · refine r_iinc (lv' := [_, _, _, _]) dX1_sayOn_27 (by decide) rfl (by first | exact inc1 _ | exact inc1_ _) rfl ?_
          refine r_goto 4 dX1_sayOn_30 (by decide) ?_
          have e := ih (i + 1) (by omega)
          rw [← hG i (by omega)] at c18
          first | (rw [setOf_t (f := G) c18] at e; exact e) | (rw [setOf_f (f := G) c18] at e; exact e)
        · refine r_iload_n dX1_sayOn_21 rfl ?_
          refine r_iconst (v := nI 1) dX1_sayOn_22 (by decide) ?_
          refine r_iload_n dX1_sayOn_23 rfl ?_
          refine r_ishl dX1_sayOn_24 ?_
          refine r_ior dX1_sayOn_25 ?_
          refine r_istore_n (lv' := [_, _, _, _]) dX1_sayOn_26 (by decide) rfl ?_
          refine r_iinc (lv' := [_, _, _, _]) dX1_sayOn_27 (by decide) rfl (by first | exact inc1 _ | exact inc1_ _) rfl ?_
          refine r_goto 4 dX1_sayOn_30 (by decide) ?_
          have e := ih (i + 1) (by omega)
          rw [← hG i (by omega)] at c18
          first | (rw [setOf_t (f := G) c18] at e; exact e) | (rw [setOf_f (f := G) c18] at e; exact e)
  refine r_iconst (v := nI 0) dX1_sayOn_0 (by decide) ?_
  refine r_istore_n (lv' := [_, _, _, _]) dX1_sayOn_1 (by decide) rfl ?_
  refine r_iconst (v := nI 0) dX1_sayOn_2 (by decide) ?_
  refine r_istore_n (lv' := [_, _, _, _]) dX1_sayOn_3 (by decide) rfl ?_
  exact L1 n 0 (by omega)
/-! the STEP in plain words -/
def seeP (t l b : Int32) (n : Nat) (K : Nat → Int32) (p : Nat) : Bool := seesF t l (K p) (nI p) (lit l b n K p)
def fellP (t r l b : Int32) (n : Nat) (K Hd Nv : Nat → Int32) (p : Nat) : Bool := (atR t r p && !seeP t l b n K p) && !warnF (K p) (Hd p) (Nv p)
def sayP (t r l b : Int32) (n : Nat) (K Hd Nv : Nat → Int32) (p : Nat) : Bool := saysF (K p) (Hd p) (nwN (fellP t r l b n K Hd Nv p) (Nv p)) (fellP t r l b n K Hd Nv p) (atR t r p && seeP t l b n K p)
def stHd (t r l b : Int32) (n : Nat) (K Hd Nv : Nat → Int32) : Nat → Int32 := prg n (fun p => bI (decide (1 ≤ p) && sayP t r l b n K Hd Nv (p - 1))) Hd
def stSt (t r l b : Int32) (n : Nat) (K Hd St Nv : Nat → Int32) : Nat → Int32 := prg n (fun p => nwS (fellP t r l b n K Hd Nv p) (St p)) St
def stNv (t r l b : Int32) (n : Nat) (K Hd Nv : Nat → Int32) : Nat → Int32 := prg n (fun p => nwN (fellP t r l b n K Hd Nv p) (Nv p)) Nv
def stFl (t r l b : Int32) (n : Nat) (K Hd Nv : Nat → Int32) : Int32 := setOf (fellP t r l b n K Hd Nv) n
theorem lit_S {l b : Int32} {n p : Nat} {K : Nat → Int32} (hn : n ≤ 8) (hp : p < n) : isIn (litS l b n K) (nI p) = lit l b n K p := by
  unfold litS lit
  cases hasB n l with
  | true => rw [Bool.true_and]; exact isIn_setOf _ (by omega) hp
  | false =>
    rw [Bool.false_and]
    show isIn (setOf (fun _ => false) 0) (nI p) = false
    rw [isIn_bt _ (by omega), bt_setOf _ 0 (by omega) p (by omega)]
    rfl
theorem seeG_P {t l b : Int32} {n p : Nat} {K : Nat → Int32} (hn : n ≤ 8) (hp : p < n) : seeG t l b n K p = seeP t l b n K p := by rw [seeG, seeP, lit_S hn hp]
theorem S_X1_goStep {t r l b : Int32} {n : Nat} {K Hd St Nv : Nat → Int32} {fl : Int32} (hn : n ≤ 8) : Sp 3 mX1_goStep [.ref 0] (hRc t r l b n K Hd St Nv fl) none (hRc (t + nI 1) r l b n K (stHd (t + nI 1) r l b n K Hd Nv) (stSt (t + nI 1) r l b n K Hd St Nv) (stNv (t + nI 1) r l b n K Hd Nv) (stFl (t + nI 1) r l b n K Hd Nv)) := by
  refine Sp.of [some (.ref 0), none, none] mrX1_goStep.1 rfl (Nat.le_of_ble_eq_true rfl) rfl (fun X => ?_)
  have hF : ∀ p, p < n → fellP (t + nI 1) r l b n K Hd Nv p = (isIn (setOf (atR (t + nI 1) r) n &&& (setOf (seeG (t + nI 1) l b n K) n ^^^ (-1))) (nI p) && !warnF (K p) (Hd p) (Nv p)) := by
    intro p hp
    rw [isIn_and _ _ (by omega), isIn_not _ (by omega), isIn_setOf _ (by omega) hp, isIn_setOf _ (by omega) hp, seeG_P hn hp]
    rfl
  have hG : ∀ p, p < n → sayP (t + nI 1) r l b n K Hd Nv p = saysF (K p) (Hd p) (prg n (fun p => nwN (fellP (t + nI 1) r l b n K Hd Nv p) (Nv p)) Nv p) (isIn (setOf (fellP (t + nI 1) r l b n K Hd Nv) n) (nI p)) (isIn (setOf (atR (t + nI 1) r) n &&& setOf (seeG (t + nI 1) l b n K) n) (nI p)) := by
    intro p hp
    rw [isIn_and _ _ (by omega), isIn_setOf _ (by omega) hp, isIn_setOf _ (by omega) hp, isIn_setOf _ (by omega) hp, seeG_P hn hp, prg_lo hp]
    rfl
  refine r_aload_n dX1_goStep_0 rfl ?_
  refine r_dup dX1_goStep_1 rfl ?_
  refine r_getfield dX1_goStep_2 gfX1_32 rfl rfl ?_
  refine r_iconst (v := nI 1) dX1_goStep_5 (by decide) ?_
  refine r_iadd dX1_goStep_6 ?_
  refine r_putfield (fs' := [_, _, _, _, _, _, _, _, _, _]) (h' := [_, _, _, _, _]) dX1_goStep_7 pfX1_32 rfl (Nat.le_of_ble_eq_true rfl) (fun _ => rfl) rfl rfl rfl rfl ?_
  refine r_aload_n dX1_goStep_10 rfl ?_
  refine r_v0r (S_X1_atRootSet hn) (Nat.le_of_ble_eq_true rfl) mrX1_atRootSet lkX1_90 rfl rfl rfl dX1_goStep_11 (Nat.le_of_ble_eq_true rfl) ?_
  refine r_istore_n (lv' := [_, _, _]) dX1_goStep_14 (by decide) rfl ?_
  refine r_aload_n dX1_goStep_15 rfl ?_
  refine r_v0r (S_X1_seeingSet hn) (Nat.le_of_ble_eq_true rfl) mrX1_seeingSet lkX1_93 rfl rfl rfl dX1_goStep_16 (Nat.le_of_ble_eq_true rfl) ?_
  refine r_istore_n (lv' := [_, _, _]) dX1_goStep_19 (by decide) rfl ?_
  refine r_aload_n dX1_goStep_20 rfl ?_
  refine r_iload_n dX1_goStep_21 rfl ?_
  refine r_iload_n dX1_goStep_22 rfl ?_
  refine r_iconst (v := (-1)) dX1_goStep_23 (by decide) ?_
  refine r_ixor dX1_goStep_24 ?_
  refine r_iand dX1_goStep_25 ?_
  refine r_v1n (S_X1_walk hn (fellP (t + nI 1) r l b n K Hd Nv) hF) (Nat.le_of_ble_eq_true rfl) mrX1_walk lkX1_96 rfl rfl rfl dX1_goStep_26 (Nat.le_of_ble_eq_true rfl) ?_
  refine r_aload_n dX1_goStep_29 rfl ?_
  refine r_iload_n dX1_goStep_30 rfl ?_
  refine r_iload_n dX1_goStep_31 rfl ?_
  refine r_iand dX1_goStep_32 ?_
  refine r_v1n (S_X1_sayOn hn (sayP (t + nI 1) r l b n K Hd Nv) hG) (Nat.le_of_ble_eq_true rfl) mrX1_sayOn lkX1_100 rfl rfl rfl dX1_goStep_33 (Nat.le_of_ble_eq_true rfl) ?_
  refine r_vret dX1_goStep_36 rfl ?_ ?_
  · rfl
  · exact HE.rf

