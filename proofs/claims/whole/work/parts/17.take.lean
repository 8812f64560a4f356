/-! taking over a Row, and many STEPS -/
def hR (R : RS) (fl : Int32) : AH := hRc R.1.1 R.1.2.1 R.1.2.2.1 R.1.2.2.2.1 R.1.2.2.2.2 R.2.1 R.2.2.1 R.2.2.2.1 R.2.2.2.2 fl
/-- two Rows side by side -/
abbrev hR2c (t r l b : Int32) (n : Nat) (K Hd St Nv : Nat → Int32) (fl : Int32) (t' r' l' b' : Int32) (n' : Nat) (K' Hd' St' Nv' : Nat → Int32) (fl' : Int32) : AH := [.inr (1, [.int t, .int r, .int l, .int b, .int (nI n), .ref 1, .ref 2, .ref 3, .ref 4, .int fl]), .inl (0, 8, .inl K), .inl (0, 8, .inl Hd), .inl (0, 8, .inl St), .inl (0, 8, .inl Nv), .inr (1, [.int t', .int r', .int l', .int b', .int (nI n'), .ref 6, .ref 7, .ref 8, .ref 9, .int fl']), .inl (0, 8, .inl K'), .inl (0, 8, .inl Hd'), .inl (0, 8, .inl St'), .inl (0, 8, .inl Nv')]
def hR2 (R : RS) (fl : Int32) (R' : RS) (fl' : Int32) : AH := hR2c R.1.1 R.1.2.1 R.1.2.2.1 R.1.2.2.2.1 R.1.2.2.2.2 R.2.1 R.2.2.1 R.2.2.2.1 R.2.2.2.2 fl R'.1.1 R'.1.2.1 R'.1.2.2.1 R'.1.2.2.2.1 R'.1.2.2.2.2 R'.2.1 R'.2.2.1 R'.2.2.2.1 R'.2.2.2.2 fl'
theorem S_X1_takeFrom {R R' : RS} {fl fl' : Int32} : Sp 0 mX1_takeFrom [.ref 0, .ref 5] (hR2 R fl R' fl') none (hR2 R' fl R' fl') := by
  obtain ⟨⟨t, r, l, b, n⟩, K, Hd, St, Nv⟩ := R
  obtain ⟨⟨t', r', l', b', n'⟩, K', Hd', St', Nv'⟩ := R'
  refine Sp.of [some (.ref 0), some (.ref 5), none] mrX1_takeFrom.1 rfl (Nat.le_of_ble_eq_true rfl) rfl (fun X => ?_)
  have L : ∀ (k i : Nat), i + k = 8 → Run X 0 mX1_takeFrom 42 [some (.ref 0), some (.ref 5), some (.int (nI i))] [] (hR2c t' r' l' b' n' (prg i K' K) (prg i Hd' Hd) (prg i St' St) (prg i Nv' Nv) fl t' r' l' b' n' K' Hd' St' Nv' fl') none (hR2c t' r' l' b' n' K' Hd' St' Nv' fl t' r' l' b' n' K' Hd' St' Nv' fl') := by
    intro k
    induction k with
    | zero =>
      intro i hi
      obtain rfl : i = 8 := by omega
      refine r_iload_n dX1_takeFrom_42 rfl ?_
      refine r_bipush (v := nI 8) dX1_takeFrom_43 (by decide) ?_
      refine r_icmp_ge 102 dX1_takeFrom_45 (by decide) (fun c45 => ?_) (fun c45 => ?_)
      · refine r_vret dX1_takeFrom_102 rfl ?_ ?_
        · rfl
        · exact ⟨CE.rf, CE.ints (fun i hi => prg_lo hi), CE.ints (fun i hi => prg_lo hi), CE.ints (fun i hi => prg_lo hi), CE.ints (fun i hi => prg_lo hi), CE.rf, CE.rf, CE.rf, CE.rf, CE.rf, trivial⟩
      · exact absurd (nI_le (Nat.le_refl _) (by omega)) c45
    | succ k ih =>
      intro i hi
      refine r_iload_n dX1_takeFrom_42 rfl ?_
      refine r_bipush (v := nI 8) dX1_takeFrom_43 (by decide) ?_
      refine r_icmp_ge 102 dX1_takeFrom_45 (by decide) (fun c45 => ?_) (fun c45 => ?_)
      · exact absurd c45 (nI_ge (by omega) (by omega))
      · refine r_aload_n dX1_takeFrom_48 rfl ?_
        refine r_getfield dX1_takeFrom_49 gfX1_19 rfl rfl ?_
        refine r_iload_n dX1_takeFrom_52 rfl ?_
        refine r_aload_n dX1_takeFrom_53 rfl ?_
        refine r_getfield dX1_takeFrom_54 gfX1_19 rfl rfl ?_
        refine r_iload_n dX1_takeFrom_57 rfl ?_
        refine r_ialdN dX1_takeFrom_58 rfl (by first | decide | omega) (Nat.le_of_ble_eq_true rfl) rfl ?_
        refine r_iastN (h' := [_, _, _, _, _, _, _, _, _, _]) dX1_takeFrom_59 rfl (by first | decide | omega) (Nat.le_of_ble_eq_true rfl) rfl ?_
        refine r_aload_n dX1_takeFrom_60 rfl ?_
        refine r_getfield dX1_takeFrom_61 gfX1_23 rfl rfl ?_
        refine r_iload_n dX1_takeFrom_64 rfl ?_
        refine r_aload_n dX1_takeFrom_65 rfl ?_
        refine r_getfield dX1_takeFrom_66 gfX1_23 rfl rfl ?_
        refine r_iload_n dX1_takeFrom_69 rfl ?_
        refine r_ialdN dX1_takeFrom_70 rfl (by first | decide | omega) (Nat.le_of_ble_eq_true rfl) rfl ?_
        refine r_iastN (h' := [_, _, _, _, _, _, _, _, _, _]) dX1_takeFrom_71 rfl (by first | decide | omega) (Nat.le_of_ble_eq_true rfl) rfl ?_
        refine r_aload_n dX1_takeFrom_72 rfl ?_
        refine r_getfield dX1_takeFrom_73 gfX1_26 rfl rfl ?_
        refine r_iload_n dX1_takeFrom_76 rfl ?_
        refine r_aload_n dX1_takeFrom_77 rfl ?_
        refine r_getfield dX1_takeFrom_78 gfX1_26 rfl rfl ?_
        refine r_iload_n dX1_takeFrom_81 rfl ?_
        refine r_ialdN dX1_takeFrom_82 rfl (by first | decide | omega) (Nat.le_of_ble_eq_true rfl) rfl ?_
        refine r_iastN (h' := [_, _, _, _, _, _, _, _, _, _]) dX1_takeFrom_83 rfl (by first | decide | omega) (Nat.le_of_ble_eq_true rfl) rfl ?_
        refine r_aload_n dX1_takeFrom_84 rfl ?_
        refine r_getfield dX1_takeFrom_85 gfX1_29 rfl rfl ?_
        refine r_iload_n dX1_takeFrom_88 rfl ?_
        refine r_aload_n dX1_takeFrom_89 rfl ?_
        refine r_getfield dX1_takeFrom_90 gfX1_29 rfl rfl ?_
        refine r_iload_n dX1_takeFrom_93 rfl ?_
        refine r_ialdN dX1_takeFrom_94 rfl (by first | decide | omega) (Nat.le_of_ble_eq_true rfl) rfl ?_
        refine r_iastN (h' := [_, _, _, _, _, _, _, _, _, _]) dX1_takeFrom_95 rfl (by first | decide | omega) (Nat.le_of_ble_eq_true rfl) rfl ?_
        refine r_iinc (lv' := [_, _, _]) dX1_takeFrom_96 (by decide) rfl (by first | exact inc1 _ | exact inc1_ _) rfl ?_
        refine r_goto 42 dX1_takeFrom_99 (by decide) ?_
        rw [prg_upd rfl, prg_upd rfl, prg_upd rfl, prg_upd rfl]
        exact ih (i + 1) (by omega)
  show Run X 0 mX1_takeFrom 0 _ _ (hR2c t r l b n K Hd St Nv fl t' r' l' b' n' K' Hd' St' Nv' fl') _ (hR2c t' r' l' b' n' K' Hd' St' Nv' fl t' r' l' b' n' K' Hd' St' Nv' fl')
  refine r_aload_n dX1_takeFrom_0 rfl ?_
  refine r_aload_n dX1_takeFrom_1 rfl ?_
  refine r_getfield dX1_takeFrom_2 gfX1_32 rfl rfl ?_
  refine r_putfield (fs' := [_, _, _, _, _, _, _, _, _, _]) (h' := [_, _, _, _, _, _, _, _, _, _]) dX1_takeFrom_5 pfX1_32 rfl (Nat.le_of_ble_eq_true rfl) (fun _ => rfl) rfl rfl rfl rfl ?_
  refine r_aload_n dX1_takeFrom_8 rfl ?_
  refine r_aload_n dX1_takeFrom_9 rfl ?_
  refine r_getfield dX1_takeFrom_10 gfX1_10 rfl rfl ?_
  refine r_putfield (fs' := [_, _, _, _, _, _, _, _, _, _]) (h' := [_, _, _, _, _, _, _, _, _, _]) dX1_takeFrom_13 pfX1_10 rfl (Nat.le_of_ble_eq_true rfl) (fun _ => rfl) rfl rfl rfl rfl ?_
  refine r_aload_n dX1_takeFrom_16 rfl ?_
  refine r_aload_n dX1_takeFrom_17 rfl ?_
  refine r_getfield dX1_takeFrom_18 gfX1_35 rfl rfl ?_
  refine r_putfield (fs' := [_, _, _, _, _, _, _, _, _, _]) (h' := [_, _, _, _, _, _, _, _, _, _]) dX1_takeFrom_21 pfX1_35 rfl (Nat.le_of_ble_eq_true rfl) (fun _ => rfl) rfl rfl rfl rfl ?_
  refine r_aload_n dX1_takeFrom_24 rfl ?_
  refine r_aload_n dX1_takeFrom_25 rfl ?_
  refine r_getfield dX1_takeFrom_26 gfX1_16 rfl rfl ?_
  refine r_putfield (fs' := [_, _, _, _, _, _, _, _, _, _]) (h' := [_, _, _, _, _, _, _, _, _, _]) dX1_takeFrom_29 pfX1_16 rfl (Nat.le_of_ble_eq_true rfl) (fun _ => rfl) rfl rfl rfl rfl ?_
  refine r_aload_n dX1_takeFrom_32 rfl ?_
  refine r_aload_n dX1_takeFrom_33 rfl ?_
  refine r_getfield dX1_takeFrom_34 gfX1_38 rfl rfl ?_
  refine r_putfield (fs' := [_, _, _, _, _, _, _, _, _, _]) (h' := [_, _, _, _, _, _, _, _, _, _]) dX1_takeFrom_37 pfX1_38 rfl (Nat.le_of_ble_eq_true rfl) (fun _ => rfl) rfl rfl rfl rfl ?_
  refine r_iconst (v := nI 0) dX1_takeFrom_40 (by decide) ?_
  refine r_istore_n (lv' := [_, _, _]) dX1_takeFrom_41 (by decide) rfl ?_
  have e := L 8 0 (by omega)
  rw [prg_0, prg_0, prg_0, prg_0] at e
  exact e
/-- one STEP of a Row -/
def stp (R : RS) : RS := ((R.1.1 + nI 1, R.1.2), (R.2.1, stHd (R.1.1 + nI 1) R.1.2.1 R.1.2.2.1 R.1.2.2.2.1 R.1.2.2.2.2 R.2.1 R.2.2.1 R.2.2.2.2, stSt (R.1.1 + nI 1) R.1.2.1 R.1.2.2.1 R.1.2.2.2.1 R.1.2.2.2.2 R.2.1 R.2.2.1 R.2.2.2.1 R.2.2.2.2, stNv (R.1.1 + nI 1) R.1.2.1 R.1.2.2.1 R.1.2.2.2.1 R.1.2.2.2.2 R.2.1 R.2.2.1 R.2.2.2.2))
/-- who stumbled in it -/
def stpF (R : RS) : Int32 := stFl (R.1.1 + nI 1) R.1.2.1 R.1.2.2.1 R.1.2.2.2.1 R.1.2.2.2.2 R.2.1 R.2.2.1 R.2.2.2.2
def stpN : Nat → RS → RS
  | 0, R => R
  | k + 1, R => stpN k (stp R)
def stpFN : Nat → RS → Int32 → Int32
  | 0, _, fl => fl
  | k + 1, R, _ => stpFN k (stp R) (stpF R)
abbrev cnt (R : RS) : Nat := R.1.2.2.2.2
theorem stp_cnt (R : RS) : cnt (stp R) = cnt R := rfl
theorem S_goStep {R : RS} {fl : Int32} (hn : cnt R ≤ 8) : Sp 3 mX1_goStep [.ref 0] (hR R fl) none (hR (stp R) (stpF R)) := S_X1_goStep hn
theorem S_X1_goSteps {R : RS} {fl : Int32} {m : Nat} (hn : cnt R ≤ 8) (hm : m < 2 ^ 31) : Sp 4 mX1_goSteps [.ref 0, .int (nI m)] (hR R fl) none (hR (stpN m R) (stpFN m R fl)) := by
  refine Sp.of [some (.ref 0), some (.int (nI m)), none] mrX1_goSteps.1 rfl (Nat.le_of_ble_eq_true rfl) rfl (fun X => ?_)
  have L : ∀ (k i : Nat) (R : RS) (fl : Int32), cnt R ≤ 8 → i + k = m → Run X 4 mX1_goSteps 2 [some (.ref 0), some (.int (nI m)), some (.int (nI i))] [] (hR R fl) none (hR (stpN k R) (stpFN k R fl)) := by
    intro k
    induction k with
    | zero =>
      intro i R fl hn hi
      obtain rfl : i = m := by omega
      refine r_iload_n dX1_goSteps_2 rfl ?_
      refine r_iload_n dX1_goSteps_3 rfl ?_
      refine r_icmp_ge 17 dX1_goSteps_4 (by decide) (fun c4 => ?_) (fun c4 => ?_)
      · refine r_vret dX1_goSteps_17 rfl ?_ ?_
        · rfl
        · exact HE.rf
      · exact absurd (nI_le (Nat.le_refl _) (by omega)) c4
    | succ k ih =>
      intro i R fl hn hi
      refine r_iload_n dX1_goSteps_2 rfl ?_
      refine r_iload_n dX1_goSteps_3 rfl ?_
      refine r_icmp_ge 17 dX1_goSteps_4 (by decide) (fun c4 => ?_) (fun c4 => ?_)
      · exact absurd c4 (nI_ge (by omega) (by omega))
      · refine r_aload_n dX1_goSteps_7 rfl ?_
        refine r_v0n (S_goStep hn) (Nat.le_of_ble_eq_true rfl) mrX1_goStep lkX1_87 rfl rfl rfl dX1_goSteps_8 (Nat.le_of_ble_eq_true rfl) ?_
        refine r_iinc (lv' := [_, _, _]) dX1_goSteps_11 (by decide) rfl (by first | exact inc1 _ | exact inc1_ _) rfl ?_
        refine r_goto 2 dX1_goSteps_14 (by decide) ?_
        exact ih (i + 1) (stp R) (stpF R) hn (by omega)
  refine r_iconst (v := nI 0) dX1_goSteps_0 (by decide) ?_
  refine r_istore_n (lv' := [_, _, _]) dX1_goSteps_1 (by decide) rfl ?_
  exact L m 0 R fl hn (by omega)

