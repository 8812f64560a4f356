/-! the reference: a whole STEP, and many -/
/-- what holds of every Row that the calls come to -/
def wfR (R : RS) : Prop := cnt R ≤ 8 ∧ 0 ≤ rB R ∧ (∀ p, p < 8 → ∃ v, v ≤ 9999 ∧ rS R p = nI v) ∧ (∀ p, p < 8 → ∃ v, v ≤ 99 ∧ rN R p = nI v) ∧ (∀ p, p < 8 → ∃ b, rH R p = bI b) ∧ (∀ p, p < 8 → ∃ z, z < 6 ∧ rK R p = nI z)
theorem nwS_rng (F : Bool) {v : Nat} (hv : v ≤ 9999) : ∃ u, u ≤ 9999 ∧ v ≤ u ∧ nwS F (nI v) = nI u := by
  cases F with
  | false => exact ⟨v, hv, Nat.le_refl _, rfl⟩
  | true =>
    rcases Nat.lt_or_ge v 9999 with q | q
    · exact ⟨v + 1, by omega, by omega, by show (if nI 9999 < nI v + nI 1 then nI 9999 else nI v + nI 1) = _; rw [nI_add, if_neg (nI_nlt (by omega) (by omega))]⟩
    · exact ⟨9999, by omega, by omega, by obtain rfl : v = 9999 := by omega
                                          decide⟩
theorem nwN_rng (F : Bool) {v : Nat} (hv : v ≤ 99) : ∃ u, u ≤ 99 ∧ nwN F (nI v) = nI u := by
  have key : ∀ v, v ≤ 99 → (nwN true (nI v) = nI (v - 10)) ∧ (nwN false (nI v) = nI (if v = 99 then 99 else v + 1)) := by decide +kernel
  cases F with
  | true => exact ⟨v - 10, by omega, (key v hv).1⟩
  | false => exact ⟨_, by split <;> omega, (key v hv).2⟩
theorem wf_stp {R : RS} (h : wfR R) : wfR (stp R) := by
  obtain ⟨h1, h2, h3, h4, h5, h6⟩ := h
  refine ⟨h1, h2, fun p hp => ?_, fun p hp => ?_, fun p hp => ?_, h6⟩
  · show ∃ v, v ≤ 9999 ∧ prg (cnt R) (fun p => nwS (fellP (rT R + nI 1) (rR R) (rL R) (rB R) (cnt R) (rK R) (rH R) (rN R) p) (rS R p)) (rS R) p = nI v
    obtain ⟨v, hv, e⟩ := h3 p hp
    rcases Nat.lt_or_ge p (cnt R) with q | q
    · obtain ⟨u, hu, -, e2⟩ := nwS_rng (fellP (rT R + nI 1) (rR R) (rL R) (rB R) (cnt R) (rK R) (rH R) (rN R) p) hv
      exact ⟨u, hu, by rw [prg_lo q, e]; exact e2⟩
    · exact ⟨v, hv, by rw [prg_hi q]; exact e⟩
  · show ∃ v, v ≤ 99 ∧ prg (cnt R) (fun p => nwN (fellP (rT R + nI 1) (rR R) (rL R) (rB R) (cnt R) (rK R) (rH R) (rN R) p) (rN R p)) (rN R) p = nI v
    obtain ⟨v, hv, e⟩ := h4 p hp
    rcases Nat.lt_or_ge p (cnt R) with q | q
    · obtain ⟨u, hu, e2⟩ := nwN_rng (fellP (rT R + nI 1) (rR R) (rL R) (rB R) (cnt R) (rK R) (rH R) (rN R) p) hv
      exact ⟨u, hu, by rw [prg_lo q]; show nwN _ (rN R p) = nI u; rw [e]; exact e2⟩
    · exact ⟨v, hv, by rw [prg_hi q]; exact e⟩
  · show ∃ b, prg (cnt R) (fun p => bI (decide (1 ≤ p) && sayP (rT R + nI 1) (rR R) (rL R) (rB R) (cnt R) (rK R) (rH R) (rN R) (p - 1))) (rH R) p = bI b
    rcases Nat.lt_or_ge p (cnt R) with q | q
    · exact ⟨_, by rw [prg_lo q]⟩
    · rw [prg_hi q]; exact h5 p hp
theorem wf_stpN {R : RS} (h : wfR R) : ∀ m, wfR (stpN m R) := by
  intro m
  induction m generalizing R with
  | zero => exact h
  | succ m ih => exact ih (wf_stp h)
def sdO (G : Nat → Bool) : Nat → Int32
  | 0 => nI 0
  | i + 1 => match G i with
    | true => sdO G i ||| (nI 2 <<< (nI i &&& 31))
    | false => sdO G i
theorem sdO_t {f : Nat → Bool} {i : Nat} (h : f i = true) : sdO f (i + 1) = sdO f i ||| (nI 2 <<< (nI i &&& 31)) := by rw [sdO, h]
theorem sdO_f {f : Nat → Bool} {i : Nat} (h : f i = false) : sdO f (i + 1) = sdO f i := by rw [sdO, h]
theorem bt_2 : ∀ i, i < 32 → bt (nI 2) i = decide (i = 1) := by decide +kernel
theorem bt_sdO (f : Nat → Bool) : ∀ (n : Nat), n ≤ 8 → ∀ i, i < 32 → bt (sdO f n) i = (decide (1 ≤ i) && (decide (i ≤ n) && f (i - 1)))
  | 0, _, i, _ => by
    have h : bt (sdO f 0) i = false := b_0 i
    rw [h]
    by_cases q : 1 ≤ i
    · rw [decide_eq_false (show ¬ i ≤ 0 by omega)]; simp
    · rw [decide_eq_false q]; rfl
  | n + 1, hn, i, hi => by
    have ih := bt_sdO f n (by omega) i hi
    have e : bt (nI 2 <<< (nI n &&& 31)) i = decide (i = n + 1) := by
      rw [b_shl n (by omega) _ hi]
      by_cases h : n ≤ i
      · rw [bt_2 _ (by omega), decide_eq_true h, Bool.true_and]
        exact decide_eq_decide.mpr (by omega)
      · rw [decide_eq_false h, decide_eq_false (by omega)]; rfl
    have key : bt (sdO f (n + 1)) i = (bt (sdO f n) i || (f n && decide (i = n + 1))) := by
      cases hf : f n with
      | true => rw [sdO_t hf, b_or, e]; rfl
      | false => rw [sdO_f hf]; simp
    rw [key, ih]
    by_cases q : i = n + 1
    · subst q
      rw [decide_eq_false (show ¬ n + 1 ≤ n by omega), decide_eq_true (show 1 ≤ n + 1 by omega), decide_eq_true (Nat.le_refl (n + 1)), Nat.add_sub_cancel]
      simp
    · rw [decide_eq_false q, Bool.and_false, Bool.or_false]
      by_cases q2 : i ≤ n
      · rw [decide_eq_true q2, decide_eq_true (show i ≤ n + 1 by omega)]
      · rw [decide_eq_false q2, decide_eq_false (show ¬ i ≤ n + 1 by omega)]
theorem or_setOf {f : Nat → Bool} {i : Nat} : orF (f i) (setOf f i) i = setOf f (i + 1) := by
  cases h : f i with
  | true => rw [setOf_t h]; rfl
  | false => rw [setOf_f h]; rfl
theorem M_step {R : RS} {ks ot as : Nat → Int32} {fl : Int32} {kp : Bool} {tc : Nat → Int32} {g : GO} (hw : wfR R) : Sp 6 mX5_step [.ref 0] (hM (enc R) ks ot as fl kp tc g) none (hM (enc (stp R)) ks ot as (stpF R) kp tc g) := by
  refine Sp.of [some (.ref 0), none, none] mrX5_step.1 rfl (Nat.le_of_ble_eq_true rfl) rfl (fun X => ?_)
  obtain ⟨hn, hb, hS, hN, hH, hK⟩ := hw
  have L3 : ∀ (k i : Nat), i + k = cnt R → Run X 6 mX5_step 78 [some (.ref 0), some (.int (sdO (sayP (rT R + nI 1) (rR R) (rL R) (rB R) (cnt R) (rK R) (rH R) (rN R)) (cnt R))), some (.int (nI i))] [] (hM (enc (((rT R + nI 1, R.1.2), rK R, prg i (fun p => bI (decide (1 ≤ p) && sayP (rT R + nI 1) (rR R) (rL R) (rB R) (cnt R) (rK R) (rH R) (rN R) (p - 1))) (rH R), prg (cnt R) (fun p => nwS (fellP (rT R + nI 1) (rR R) (rL R) (rB R) (cnt R) (rK R) (rH R) (rN R) p) (rS R p)) (rS R), prg (cnt R) (fun p => nwN (fellP (rT R + nI 1) (rR R) (rL R) (rB R) (cnt R) (rK R) (rH R) (rN R) p) (rN R p)) (rN R)) : RS)) ks ot as (stpF R) kp tc g) none (hM (enc (stp R)) ks ot as (stpF R) kp tc g) := by
    intro k
    induction k with
    | zero =>
      intro i hi
      obtain rfl : i = cnt R := by omega
      refine r_iload_n dX5_step_78 rfl ?_
      refine r_aload_n dX5_step_79 rfl ?_
      refine r_getfield dX5_step_80 gfX5_7 rfl rfl ?_
      refine r_iconst (v := nI 1) dX5_step_83 (by decide) ?_
      refine r_ialdN dX5_step_84 rfl (by first | decide | omega) (Nat.le_of_ble_eq_true rfl) enc1 ?_
      refine r_icmp_ge 109 dX5_step_85 (by decide) (fun c85 => ?_) (fun c85 => ?_)
      · refine r_vret dX5_step_109 rfl ?_ ?_
        · rfl
        · exact HE.rf
      · exact absurd (nI_le (Nat.le_refl (cnt R)) (by omega)) c85
    | succ k ih =>
      intro i hi
      refine r_iload_n dX5_step_78 rfl ?_
      refine r_aload_n dX5_step_79 rfl ?_
      refine r_getfield dX5_step_80 gfX5_7 rfl rfl ?_
      refine r_iconst (v := nI 1) dX5_step_83 (by decide) ?_
      refine r_ialdN dX5_step_84 rfl (by first | decide | omega) (Nat.le_of_ble_eq_true rfl) enc1 ?_
      refine r_icmp_ge 109 dX5_step_85 (by decide) (fun c85 => ?_) (fun c85 => ?_)
      · exact absurd c85 (nI_ge (a := i) (b := cnt R) (by omega) (by omega))
      · refine r_aload_n dX5_step_88 rfl ?_
        refine r_getfield dX5_step_89 gfX5_7 rfl rfl ?_
        refine r_iload_n dX5_step_92 rfl ?_
        refine r_iconst (v := nI 1) dX5_step_93 (by decide) ?_
        refine r_s2r M_spot (Nat.le_of_ble_eq_true rfl) mrX5_spot lkX5_42 dX5_step_94 (Nat.le_of_ble_eq_true rfl) ?_
        refine r_iload_n dX5_step_97 rfl ?_
        refine r_iload_n dX5_step_98 rfl ?_
        refine r_ishr dX5_step_99 ?_
        refine r_iconst (v := nI 1) dX5_step_100 (by decide) ?_
        refine r_iand dX5_step_101 ?_
        refine r_iastN (h' := [_, _, _, _, _, _]) dX5_step_102 rfl (by first | decide | omega) (Nat.le_of_ble_eq_true rfl) rfl ?_
        rw [encU1, shr_b _ (by omega), bt_sdO _ _ hn i (by omega), decide_eq_true (show i ≤ cnt R by omega), Bool.true_and]
        refine r_iinc (lv' := [_, _, _]) dX5_step_103 (by decide) rfl (by first | exact inc1 _ | exact inc1_ _) rfl ?_
        refine r_goto 78 dX5_step_106 (by decide) ?_
        have e := ih (i + 1) (by omega)
        rw [← prg_upd (f := (fun p => bI (decide (1 ≤ p) && sayP (rT R + nI 1) (rR R) (rL R) (rB R) (cnt R) (rK R) (rH R) (rN R) (p - 1)))) (x := bI (decide (1 ≤ i) && sayP (rT R + nI 1) (rR R) (rL R) (rB R) (cnt R) (rK R) (rH R) (rN R) (i - 1))) rfl] at e
        exact e
  have L2 : ∀ (k i : Nat), i + k = cnt R → Run X 6 mX5_step 42 [some (.ref 0), some (.int (sdO (sayP (rT R + nI 1) (rR R) (rL R) (rB R) (cnt R) (rK R) (rH R) (rN R)) i)), some (.int (nI i))] [] (hM (enc (((rT R + nI 1, R.1.2), rK R, rH R, prg (cnt R) (fun p => nwS (fellP (rT R + nI 1) (rR R) (rL R) (rB R) (cnt R) (rK R) (rH R) (rN R) p) (rS R p)) (rS R), prg (cnt R) (fun p => nwN (fellP (rT R + nI 1) (rR R) (rL R) (rB R) (cnt R) (rK R) (rH R) (rN R) p) (rN R p)) (rN R)) : RS)) ks ot as (stpF R) kp tc g) none (hM (enc (stp R)) ks ot as (stpF R) kp tc g) := by
    intro k
    induction k with
    | zero =>
      intro i hi
      obtain rfl : i = cnt R := by omega
      refine r_iload_n dX5_step_42 rfl ?_
      refine r_aload_n dX5_step_43 rfl ?_
      refine r_getfield dX5_step_44 gfX5_7 rfl rfl ?_
      refine r_iconst (v := nI 1) dX5_step_47 (by decide) ?_
      refine r_ialdN dX5_step_48 rfl (by first | decide | omega) (Nat.le_of_ble_eq_true rfl) enc1 ?_
      refine r_icmp_ge 76 dX5_step_49 (by decide) (fun c49 => ?_) (fun c49 => ?_)
      · refine r_iconst (v := nI 0) dX5_step_76 (by decide) ?_
        refine r_istore_n (lv' := [_, _, _]) dX5_step_77 (by decide) rfl ?_
        have e := L3 (cnt R) 0 (by omega)
        rw [prg_0] at e
        exact e
      · exact absurd (nI_le (Nat.le_refl (cnt R)) (by omega)) c49
    | succ k ih =>
      intro i hi
      refine r_iload_n dX5_step_42 rfl ?_
      refine r_aload_n dX5_step_43 rfl ?_
      refine r_getfield dX5_step_44 gfX5_7 rfl rfl ?_
      refine r_iconst (v := nI 1) dX5_step_47 (by decide) ?_
      refine r_ialdN dX5_step_48 rfl (by first | decide | omega) (Nat.le_of_ble_eq_true rfl) enc1 ?_
      refine r_icmp_ge 76 dX5_step_49 (by decide) (fun c49 => ?_) (fun c49 => ?_)
      · exact absurd c49 (nI_ge (a := i) (b := cnt R) (by omega) (by omega))
      · refine r_iload_n dX5_step_52 rfl ?_
        refine r_aload_n dX5_step_53 rfl ?_
        refine r_iload_n dX5_step_54 rfl ?_
        refine r_v1r (M_isSaying (R := (((rT R + nI 1, R.1.2), rK R, rH R, prg (cnt R) (fun p => nwS (fellP (rT R + nI 1) (rR R) (rL R) (rB R) (cnt R) (rK R) (rH R) (rN R) p) (rS R p)) (rS R), prg (cnt R) (fun p => nwN (fellP (rT R + nI 1) (rR R) (rL R) (rB R) (cnt R) (rK R) (rH R) (rN R) p) (rN R p)) (rN R)) : RS)) hn (by omega) hb) (Nat.le_of_ble_eq_true rfl) mrX5_isSaying lkX5_138 rfl rfl rfl dX5_step_55 (Nat.le_of_ble_eq_true rfl) ?_
        have eG : saysF (rK R i) (rH R i) (prg (cnt R) (fun p => nwN (fellP (rT R + nI 1) (rR R) (rL R) (rB R) (cnt R) (rK R) (rH R) (rN R) p) (rN R p)) (rN R) i) (isIn (stpF R) (nI i)) (atR (rT R + nI 1) (rR R) i && seeP (rT R + nI 1) (rL R) (rB R) (cnt R) (rK R) i) = sayP (rT R + nI 1) (rR R) (rL R) (rB R) (cnt R) (rK R) (rH R) (rN R) i := by
          rw [prg_lo (by omega), show stpF R = setOf (fellP (rT R + nI 1) (rR R) (rL R) (rB R) (cnt R) (rK R) (rH R) (rN R)) (cnt R) from rfl, isIn_setOf _ (by omega) (by omega)]
          rfl
        refine r_if_eqB 67 dX5_step_58 (by decide) (fun c58 => ?_) (fun c58 => ?_)
        · refine r_iconst (v := nI 0) dX5_step_67 (by decide) ?_
          refine r_ior dX5_step_68 ?_
          refine r_istore_n (lv' := [_, _, _]) dX5_step_69 (by decide) rfl ?_
          refine r_iinc (lv' := [_, _, _]) dX5_step_70 (by decide) rfl (by first | exact inc1 _ | exact inc1_ _) rfl ?_
          refine r_goto 42 dX5_step_73 (by decide) ?_
          have e := ih (i + 1) (by omega)
          replace c58 := eG.symm.trans c58
          first | (rw [sdO_t (f := (sayP (rT R + nI 1) (rR R) (rL R) (rB R) (cnt R) (rK R) (rH R) (rN R))) c58] at e; exact e) | (rw [sdO_f (f := (sayP (rT R + nI 1) (rR R) (rL R) (rB R) (cnt R) (rK R) (rH R) (rN R))) c58] at e; rw [or_0]; exact e)
        · refine r_iconst (v := nI 2) dX5_step_61 (by decide) ?_
          refine r_iload_n dX5_step_62 rfl ?_
          refine r_ishl dX5_step_63 ?_
          refine r_goto 68 dX5_step_64 (by decide) ?_
          refine r_ior dX5_step_68 ?_
          refine r_istore_n (lv' := [_, _, _]) dX5_step_69 (by decide) rfl ?_
          refine r_iinc (lv' := [_, _, _]) dX5_step_70 (by decide) rfl (by first | exact inc1 _ | exact inc1_ _) rfl ?_
          refine r_goto 42 dX5_step_73 (by decide) ?_
          have e := ih (i + 1) (by omega)
          replace c58 := eG.symm.trans c58
          first | (rw [sdO_t (f := (sayP (rT R + nI 1) (rR R) (rL R) (rB R) (cnt R) (rK R) (rH R) (rN R))) c58] at e; exact e) | (rw [sdO_f (f := (sayP (rT R + nI 1) (rR R) (rL R) (rB R) (cnt R) (rK R) (rH R) (rN R))) c58] at e; rw [or_0]; exact e)
  have L1 : ∀ (k i : Nat), i + k = cnt R → Run X 6 mX5_step 17 [some (.ref 0), some (.int (nI i)), none] [] (hM (enc (((rT R + nI 1, R.1.2), rK R, rH R, prg i (fun p => nwS (fellP (rT R + nI 1) (rR R) (rL R) (rB R) (cnt R) (rK R) (rH R) (rN R) p) (rS R p)) (rS R), prg i (fun p => nwN (fellP (rT R + nI 1) (rR R) (rL R) (rB R) (cnt R) (rK R) (rH R) (rN R) p) (rN R p)) (rN R)) : RS)) ks ot as (setOf (fellP (rT R + nI 1) (rR R) (rL R) (rB R) (cnt R) (rK R) (rH R) (rN R)) i) kp tc g) none (hM (enc (stp R)) ks ot as (stpF R) kp tc g) := by
    intro k
    induction k with
    | zero =>
      intro i hi
      obtain rfl : i = cnt R := by omega
      refine r_iload_n dX5_step_17 rfl ?_
      refine r_aload_n dX5_step_18 rfl ?_
      refine r_getfield dX5_step_19 gfX5_7 rfl rfl ?_
      refine r_iconst (v := nI 1) dX5_step_22 (by decide) ?_
      refine r_ialdN dX5_step_23 rfl (by first | decide | omega) (Nat.le_of_ble_eq_true rfl) enc1 ?_
      refine r_icmp_ge 38 dX5_step_24 (by decide) (fun c24 => ?_) (fun c24 => ?_)
      · refine r_iconst (v := nI 0) dX5_step_38 (by decide) ?_
        refine r_istore_n (lv' := [_, _, _]) dX5_step_39 (by decide) rfl ?_
        refine r_iconst (v := nI 0) dX5_step_40 (by decide) ?_
        refine r_istore_n (lv' := [_, _, _]) dX5_step_41 (by decide) rfl ?_
        exact L2 (cnt R) 0 (by omega)
      · exact absurd (nI_le (Nat.le_refl (cnt R)) (by omega)) c24
    | succ k ih =>
      intro i hi
      refine r_iload_n dX5_step_17 rfl ?_
      refine r_aload_n dX5_step_18 rfl ?_
      refine r_getfield dX5_step_19 gfX5_7 rfl rfl ?_
      refine r_iconst (v := nI 1) dX5_step_22 (by decide) ?_
      refine r_ialdN dX5_step_23 rfl (by first | decide | omega) (Nat.le_of_ble_eq_true rfl) enc1 ?_
      refine r_icmp_ge 38 dX5_step_24 (by decide) (fun c24 => ?_) (fun c24 => ?_)
      · exact absurd c24 (nI_ge (a := i) (b := cnt R) (by omega) (by omega))
      · refine r_aload_n dX5_step_27 rfl ?_
        refine r_iload_n dX5_step_28 rfl ?_
        refine r_v1n (M_treads (R := (((rT R + nI 1, R.1.2), rK R, rH R, prg i (fun p => nwS (fellP (rT R + nI 1) (rR R) (rL R) (rB R) (cnt R) (rK R) (rH R) (rN R) p) (rS R p)) (rS R), prg i (fun p => nwN (fellP (rT R + nI 1) (rR R) (rL R) (rB R) (cnt R) (rK R) (rH R) (rN R) p) (rN R p)) (rN R)) : RS)) hn (by omega) hb (by obtain ⟨v, h1, h2⟩ := hS i (by omega); exact ⟨v, h1, (prg_at (f := (fun p => nwS (fellP (rT R + nI 1) (rR R) (rL R) (rB R) (cnt R) (rK R) (rH R) (rN R) p) (rS R p)))).trans h2⟩) (by obtain ⟨v, h1, h2⟩ := hN i (by omega); exact ⟨v, h1, (prg_at (f := (fun p => nwN (fellP (rT R + nI 1) (rR R) (rL R) (rB R) (cnt R) (rK R) (rH R) (rN R) p) (rN R p)))).trans h2⟩) (fellP (rT R + nI 1) (rR R) (rL R) (rB R) (cnt R) (rK R) (rH R) (rN R) i) (by show fellP (rT R + nI 1) (rR R) (rL R) (rB R) (cnt R) (rK R) (rH R) (rN R) i = ((atR (rT R + nI 1) (rR R) i && !seeP (rT R + nI 1) (rL R) (rB R) (cnt R) (rK R) i) && !warnF (rK R i) (rH R i) (prg i _ (rN R) i)); rw [prg_at]; rfl)) (Nat.le_of_ble_eq_true rfl) mrX5_treads lkX5_134 rfl rfl rfl dX5_step_29 (Nat.le_of_ble_eq_true rfl) ?_
        refine r_iinc (lv' := [_, _, _]) dX5_step_32 (by decide) rfl (by first | exact inc1 _ | exact inc1_ _) rfl ?_
        refine r_goto 17 dX5_step_35 (by decide) ?_
        have e := ih (i + 1) (by omega)
        have eT : trd (fellP (rT R + nI 1) (rR R) (rL R) (rB R) (cnt R) (rK R) (rH R) (rN R) i) (((rT R + nI 1, R.1.2), rK R, rH R, prg i (fun p => nwS (fellP (rT R + nI 1) (rR R) (rL R) (rB R) (cnt R) (rK R) (rH R) (rN R) p) (rS R p)) (rS R), prg i (fun p => nwN (fellP (rT R + nI 1) (rR R) (rL R) (rB R) (cnt R) (rK R) (rH R) (rN R) p) (rN R p)) (rN R)) : RS) i = (((rT R + nI 1, R.1.2), rK R, rH R, prg (i + 1) (fun p => nwS (fellP (rT R + nI 1) (rR R) (rL R) (rB R) (cnt R) (rK R) (rH R) (rN R) p) (rS R p)) (rS R), prg (i + 1) (fun p => nwN (fellP (rT R + nI 1) (rR R) (rL R) (rB R) (cnt R) (rK R) (rH R) (rN R) p) (rN R p)) (rN R)) : RS) := by
          show (((rT R + nI 1, R.1.2), rK R, rH R, upd (prg i (fun p => nwS (fellP (rT R + nI 1) (rR R) (rL R) (rB R) (cnt R) (rK R) (rH R) (rN R) p) (rS R p)) (rS R)) i (nwS (fellP (rT R + nI 1) (rR R) (rL R) (rB R) (cnt R) (rK R) (rH R) (rN R) i) (prg i (fun p => nwS (fellP (rT R + nI 1) (rR R) (rL R) (rB R) (cnt R) (rK R) (rH R) (rN R) p) (rS R p)) (rS R) i)), upd (prg i (fun p => nwN (fellP (rT R + nI 1) (rR R) (rL R) (rB R) (cnt R) (rK R) (rH R) (rN R) p) (rN R p)) (rN R)) i (nwN (fellP (rT R + nI 1) (rR R) (rL R) (rB R) (cnt R) (rK R) (rH R) (rN R) i) (prg i (fun p => nwN (fellP (rT R + nI 1) (rR R) (rL R) (rB R) (cnt R) (rK R) (rH R) (rN R) p) (rN R p)) (rN R) i))) : RS) = _
          rw [prg_at, prg_at, prg_upd rfl, prg_upd rfl]
        rw [eT, or_setOf]
        exact e
  refine r_aload_n dX5_step_0 rfl ?_
  refine r_getfield dX5_step_1 gfX5_7 rfl rfl ?_
  refine r_iconst (v := nI 0) dX5_step_4 (by decide) ?_
  refine r_dup2 dX5_step_5 rfl rfl ?_
  refine r_ialdN dX5_step_6 rfl (by first | decide | omega) (Nat.le_of_ble_eq_true rfl) enc0 ?_
  refine r_iconst (v := nI 1) dX5_step_7 (by decide) ?_
  refine r_iadd dX5_step_8 ?_
  refine r_iastN (h' := [_, _, _, _, _, _]) dX5_step_9 rfl (by first | decide | omega) (Nat.le_of_ble_eq_true rfl) rfl ?_
  try simp only [encU0, encU1, encU2, encU3, encA0, encA2, encA3, encA4]
  refine r_aload_n dX5_step_10 rfl ?_
  refine r_iconst (v := nI 0) dX5_step_11 (by decide) ?_
  refine r_putfield (fs' := [_, _, _, _, _, _, _, _, _, _, _, _, _, _, _, _, _]) (h' := [_, _, _, _, _, _]) dX5_step_12 pfX5_100 rfl (Nat.le_of_ble_eq_true rfl) (fun _ => rfl) rfl rfl rfl rfl ?_
  refine r_iconst (v := nI 0) dX5_step_15 (by decide) ?_
  refine r_istore_n (lv' := [_, _, _]) dX5_step_16 (by decide) rfl ?_
  have e := L1 (cnt R) 0 (by omega)
  rw [prg_0, prg_0] at e
  exact e
theorem M_stepsGo {R : RS} {ks ot as : Nat → Int32} {fl : Int32} {kp : Bool} {tc : Nat → Int32} {g : GO} {m : Nat} (hw : wfR R) (hm : m < 2 ^ 31) : Sp 7 mX5_stepsGo [.ref 0, .int (nI m)] (hM (enc R) ks ot as fl kp tc g) none (hM (enc (stpN m R)) ks ot as (stpFN m R fl) kp tc g) := by
  refine Sp.of [some (.ref 0), some (.int (nI m)), none] mrX5_stepsGo.1 rfl (Nat.le_of_ble_eq_true rfl) rfl (fun X => ?_)
  have L : ∀ (k i : Nat) (R : RS) (fl : Int32), wfR R → i + k = m → Run X 7 mX5_stepsGo 2 [some (.ref 0), some (.int (nI m)), some (.int (nI i))] [] (hM (enc R) ks ot as fl kp tc g) none (hM (enc (stpN k R)) ks ot as (stpFN k R fl) kp tc g) := by
    intro k
    induction k with
    | zero =>
      intro i R fl hw hi
      obtain rfl : i = m := by omega
      refine r_iload_n dX5_stepsGo_2 rfl ?_
      refine r_iload_n dX5_stepsGo_3 rfl ?_
      refine r_icmp_ge 17 dX5_stepsGo_4 (by decide) (fun c4 => ?_) (fun c4 => ?_)
      · refine r_vret dX5_stepsGo_17 rfl ?_ ?_
        · rfl
        · exact HE.rf
      · exact absurd (nI_le (Nat.le_refl _) (by omega)) c4
    | succ k ih =>
      intro i R fl hw hi
      refine r_iload_n dX5_stepsGo_2 rfl ?_
      refine r_iload_n dX5_stepsGo_3 rfl ?_
      refine r_icmp_ge 17 dX5_stepsGo_4 (by decide) (fun c4 => ?_) (fun c4 => ?_)
      · exact absurd c4 (nI_ge (by omega) (by omega))
      · refine r_aload_n dX5_stepsGo_7 rfl ?_
        refine r_v0n (M_step hw) (Nat.le_of_ble_eq_true rfl) mrX5_step lkX5_141 rfl rfl rfl dX5_stepsGo_8 (Nat.le_of_ble_eq_true rfl) ?_
        refine r_iinc (lv' := [_, _, _]) dX5_stepsGo_11 (by decide) rfl (by first | exact inc1 _ | exact inc1_ _) rfl ?_
        refine r_goto 2 dX5_stepsGo_14 (by decide) ?_
        exact ih (i + 1) (stp R) (stpF R) (wf_stp hw) (by omega)
  refine r_iconst (v := nI 0) dX5_stepsGo_0 (by decide) ?_
  refine r_istore_n (lv' := [_, _, _]) dX5_stepsGo_1 (by decide) rfl ?_
  exact L m 0 R fl hw (by omega)
theorem M_behindT {R : RS} {ks ot as : Nat → Int32} {fl : Int32} {kp : Bool} {tc : Nat → Int32} {g : GO} {m : Nat} (hw : wfR R) (hm : m < 2 ^ 31) : Sp 8 mX5_behind [.ref 0, .int (-1), .int (nI m)] (hM (enc R) ks ot as fl kp tc g) (some (.int (fut m R))) (hM (enc R) ks ot (enc R) (stpFN m R fl) kp tc g) := by
  refine Sp.of [some (.ref 0), some (.int (-1)), some (.int (nI m))] mrX5_behind.1 rfl (Nat.le_of_ble_eq_true rfl) rfl (fun X => ?_)
  refine r_aload_n dX5_behind_0 rfl ?_
  refine r_v0n M_laysAside (Nat.le_of_ble_eq_true rfl) mrX5_laysAside lkX5_153 rfl rfl rfl dX5_behind_1 (Nat.le_of_ble_eq_true rfl) ?_
  refine r_aload_n dX5_behind_4 rfl ?_
  refine r_iload_n dX5_behind_5 rfl ?_
  refine r_v1n (M_stepsGo hw hm) (Nat.le_of_ble_eq_true rfl) mrX5_stepsGo lkX5_148 rfl rfl rfl dX5_behind_6 (Nat.le_of_ble_eq_true rfl) ?_
  refine r_aload_n dX5_behind_9 rfl ?_
  refine r_iload_n dX5_behind_10 rfl ?_
  refine r_iconst (v := (-1)) dX5_behind_11 (by decide) ?_
  refine r_icmp_ne 23 dX5_behind_12 (by decide) (fun c12 => ?_) (fun c12 => ?_)
  · exact absurd rfl c12
  · refine r_aload_n dX5_behind_15 rfl ?_
    refine r_iconst (v := nI 2) dX5_behind_16 (by decide) ?_
    refine r_v1r (M_together2 (wf_stpN hw m).1) (Nat.le_of_ble_eq_true rfl) mrX5_together lkX5_97 rfl rfl rfl dX5_behind_17 (Nat.le_of_ble_eq_true rfl) ?_
    refine r_goto 29 dX5_behind_20 (by decide) ?_
    refine r_v1r M_takesBack (Nat.le_of_ble_eq_true rfl) mrX5_takesBack lkX5_156 rfl rfl rfl dX5_behind_29 (Nat.le_of_ble_eq_true rfl) ?_
    refine r_iret dX5_behind_32 rfl rfl ?_ ?_
    · rw [stpN_cnt]; rfl
    · exact HE.rf
theorem M_behind {R : RS} {ks ot as : Nat → Int32} {fl : Int32} {kp : Bool} {tc : Nat → Int32} {g : GO} {m k : Nat} (hw : wfR R) (hm : m < 2 ^ 31) (hk : k < 37) : Sp 8 mX5_behind [.ref 0, .int (nI k), .int (nI m)] (hM (enc R) ks ot as fl kp tc g) (some (.int (enc (stpN m R) k))) (hM (enc R) ks ot (enc R) (stpFN m R fl) kp tc g) := by
  refine Sp.of [some (.ref 0), some (.int (nI k)), some (.int (nI m))] mrX5_behind.1 rfl (Nat.le_of_ble_eq_true rfl) rfl (fun X => ?_)
  refine r_aload_n dX5_behind_0 rfl ?_
  refine r_v0n M_laysAside (Nat.le_of_ble_eq_true rfl) mrX5_laysAside lkX5_153 rfl rfl rfl dX5_behind_1 (Nat.le_of_ble_eq_true rfl) ?_
  refine r_aload_n dX5_behind_4 rfl ?_
  refine r_iload_n dX5_behind_5 rfl ?_
  refine r_v1n (M_stepsGo hw hm) (Nat.le_of_ble_eq_true rfl) mrX5_stepsGo lkX5_148 rfl rfl rfl dX5_behind_6 (Nat.le_of_ble_eq_true rfl) ?_
  refine r_aload_n dX5_behind_9 rfl ?_
  refine r_iload_n dX5_behind_10 rfl ?_
  refine r_iconst (v := (-1)) dX5_behind_11 (by decide) ?_
  refine r_icmp_ne 23 dX5_behind_12 (by decide) (fun c12 => ?_) (fun c12 => ?_)
  · refine r_aload_n dX5_behind_23 rfl ?_
    refine r_getfield dX5_behind_24 gfX5_7 rfl rfl ?_
    refine r_iload_n dX5_behind_27 rfl ?_
    refine r_ialdN dX5_behind_28 rfl (by first | decide | omega) (Nat.le_of_ble_eq_true rfl) rfl ?_
    refine r_v1r M_takesBack (Nat.le_of_ble_eq_true rfl) mrX5_takesBack lkX5_156 rfl rfl rfl dX5_behind_29 (Nat.le_of_ble_eq_true rfl) ?_
    refine r_iret dX5_behind_32 rfl rfl ?_ ?_
    · rfl
    · exact HE.rf
  · exact absurd c12 (fun z => by have h1 := nI_pos (n := k) (by omega); rw [z] at h1; exact h1 (by decide))

