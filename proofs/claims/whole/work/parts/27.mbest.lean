/-! the reference: what is best, images, status -/
theorem wf_sL {R : RS} {x : Int32} (h : wfR R) : wfR (sL R x) := h
theorem wf_sR {R : RS} {x : Int32} (h : wfR R) : wfR (sR R x) := h
theorem wf_sB {R : RS} {b : Nat} (h : wfR R) (hb : b < 2 ^ 31) : wfR (sB R (nI b)) := ⟨h.1, nI_pos' hb, h.2.2⟩
theorem wf_sK {R : RS} {p k : Nat} (h : wfR R) (hk : k < 6) : wfR (sK R (upd (rK R) p (nI k))) := ⟨h.1, h.2.1, h.2.2.1, h.2.2.2.1, h.2.2.2.2.1, fun q hq => by
  show ∃ z, z < 6 ∧ upd (rK R) p (nI k) q = nI z
  rw [upd_at]
  split
  · exact ⟨k, hk, rfl⟩
  · exact h.2.2.2.2.2 q hq⟩
theorem wf_sN {R : RS} {p v : Nat} (h : wfR R) (hv : v ≤ 99) : wfR (sN R (upd (rN R) p (nI v))) := ⟨h.1, h.2.1, h.2.2.1, fun q hq => by
  show ∃ z, z ≤ 99 ∧ upd (rN R) p (nI v) q = nI z
  rw [upd_at]
  split
  · exact ⟨v, hv, rfl⟩
  · exact h.2.2.2.1 q hq, h.2.2.2.2.1, h.2.2.2.2.2⟩
theorem swp_ex {f : Nat → Int32} {P : Int32 → Prop} {p o : Nat} (hp : p < 8) (ho : o < 8) (h : ∀ q, q < 8 → P (f q)) : ∀ q, q < 8 → P (swp f p o q) := by
  intro q hq
  unfold swp
  rw [upd_at]
  split
  · exact h p hp
  · rw [upd_at]
    split
    · exact h o ho
    · exact h q hq
theorem wf_sw {R : RS} {p o : Nat} (h : wfR R) (hp : p < 8) (ho : o < 8) : wfR (swR R p o) :=
  ⟨h.1, h.2.1, swp_ex (P := fun x => ∃ v, v ≤ 9999 ∧ x = nI v) hp ho h.2.2.1, swp_ex (P := fun x => ∃ v, v ≤ 99 ∧ x = nI v) hp ho h.2.2.2.1, swp_ex (P := fun x => ∃ b, x = bI b) hp ho h.2.2.2.2.1, swp_ex (P := fun x => ∃ z, z < 6 ∧ x = nI z) hp ho h.2.2.2.2.2⟩
theorem swp_inv {f : Nat → Int32} {p o : Nat} (h : p ≠ o) : swp (swp f p o) p o = f := by
  funext q
  simp only [swp, upd]
  by_cases h1 : q = o
  · subst h1
    simp [Ne.symm h, h]
  · by_cases h2 : q = p
    · subst h2
      simp [h1]
    · simp [h1, h2]
theorem swR_inv {R : RS} {p o : Nat} (h : p ≠ o) : swR (swR R p o) p o = R := by
  show (R.1, swp (swp (rK R) p o) p o, swp (swp (rH R) p o) p o, swp (swp (rS R) p o) p o, swp (swp (rN R) p o) p o) = R
  rw [swp_inv h, swp_inv h, swp_inv h, swp_inv h]
theorem sum_rng {f : Nat → Int32} (h : ∀ p, p < 8 → ∃ v, v ≤ 9999 ∧ f p = nI v) : ∀ n, n ≤ 8 → ∃ u, u ≤ 9999 * n ∧ sumF f n = nI u
  | 0, _ => ⟨0, by omega, rfl⟩
  | n + 1, hn => by
    obtain ⟨u, hu, e⟩ := sum_rng h n (by omega)
    obtain ⟨v, hv, e2⟩ := h n (by omega)
    exact ⟨u + v, by omega, by rw [sumF, e, e2, nI_add]⟩
theorem fut_lt {R : RS} (h : wfR R) (m : Nat) : fut m R < 79993 ∧ fut m R < 999999 := by
  have hw := wf_stpN h m
  obtain ⟨u, hu, e⟩ := sum_rng hw.2.2.1 (cnt R) h.1
  have hc := h.1
  rw [fut, e]
  exact ⟨nI_lt (b := 79993) (by omega) (by omega), nI_lt (b := 999999) (by omega) (by omega)⟩
theorem stu_lt {R : RS} (h : wfR R) {p : Nat} (hp : p < 8) : rS R p < 79993 ∧ rS R p < 999999 := by
  obtain ⟨u, hu, e⟩ := h.2.2.1 p hp
  rw [e]
  exact ⟨nI_lt (b := 79993) (by omega) (by omega), nI_lt (b := 999999) (by omega) (by omega)⟩
theorem mnB_ini {f : Nat → Int32} {x a b : Int32} (ha : f 0 < a) (hb : f 0 < b) : ∀ i, mnB f (x, a) (i + 1) = mnB f (x, b) (i + 1)
  | 0 => by rw [mnB_t (show f 0 < (mnB f (x, a) 0).2 from ha), mnB_t (show f 0 < (mnB f (x, b) 0).2 from hb)]
  | i + 1 => by
    have ih := mnB_ini (x := x) ha hb i
    rw [show mnB f (x, a) (i + 1 + 1) = if f (i + 1) < (mnB f (x, a) (i + 1)).2 then (nI (i + 1), f (i + 1)) else mnB f (x, a) (i + 1) from rfl, show mnB f (x, b) (i + 1 + 1) = if f (i + 1) < (mnB f (x, b) (i + 1)).2 then (nI (i + 1), f (i + 1)) else mnB f (x, b) (i + 1) from rfl, ih]
theorem mnB_1 {f : Nat → Int32} {x a b : Int32} {n : Nat} (h : 0 < n → f 0 < a ∧ f 0 < b) : (mnB f (x, a) n).1 = (mnB f (x, b) n).1 := by
  cases n with
  | zero => rfl
  | succ n => rw [mnB_ini (h (by omega)).1 (h (by omega)).2]
theorem mnC_ini {g : Nat → Bool} {f : Nat → Int32} {x a b : Int32} (h : ∀ i, f i < a ∧ f i < b) : ∀ i, (mnC g f (x, a) i = (x, a) ∧ mnC g f (x, b) i = (x, b)) ∨ mnC g f (x, a) i = mnC g f (x, b) i
  | 0 => Or.inl ⟨rfl, rfl⟩
  | i + 1 => by
    cases hg : g i with
    | false => rw [mnC_n hg, mnC_n hg]; exact mnC_ini h i
    | true =>
      rcases mnC_ini (g := g) (x := x) h i with ⟨e1, e2⟩ | e
      · right
        rw [mnC_t hg (by rw [e1]; exact (h i).1), mnC_t hg (by rw [e2]; exact (h i).2)]
      · right
        rw [mnC, mnC, hg, e]
theorem mnC_1 {g : Nat → Bool} {f : Nat → Int32} {x a b : Int32} (h : ∀ i, f i < a ∧ f i < b) (n : Nat) : (mnC g f (x, a) n).1 = (mnC g f (x, b) n).1 := by
  rcases mnC_ini (g := g) (x := x) h n with ⟨e1, e2⟩ | e
  · rw [e1, e2]
  · rw [e]
theorem mnB_car {R : RS} (hw : wfR R) (m n : Nat) : (mnB (fun v => fut m (sL R (nI v))) (nI 0, 999999) n).1 = (mnB (fun v => fut m (sL R (nI v))) (nI 0, 79993) n).1 :=
  mnB_1 (f := fun v => fut m (sL R (nI v))) (fun _ => ⟨(fut_lt (R := sL R (nI 0)) (wf_sL hw) m).2, (fut_lt (R := sL R (nI 0)) (wf_sL hw) m).1⟩)
theorem mnB_knd {R : RS} (hw : wfR R) (m n : Nat) {p : Nat} (hp : p < 8) : (mnB (fun v => rS (stpN m (sK R (upd (rK R) p (nI v)))) p) (nI 0, 999999) n).1 = (mnB (fun v => rS (stpN m (sK R (upd (rK R) p (nI v)))) p) (nI 0, 79993) n).1 :=
  mnB_1 (f := fun v => rS (stpN m (sK R (upd (rK R) p (nI v)))) p) (fun _ => ⟨(stu_lt (R := stpN m (sK R (upd (rK R) p (nI 0)))) (wf_stpN (wf_sK hw (by decide)) m) hp).2, (stu_lt (R := stpN m (sK R (upd (rK R) p (nI 0)))) (wf_stpN (wf_sK hw (by decide)) m) hp).1⟩)
theorem stu_mono1 {R : RS} (h : wfR R) {p v : Nat} (hp : p < 8) (e : rS R p = nI v) (hv : v ≤ 9999) : ∃ u, v ≤ u ∧ u ≤ 9999 ∧ rS (stp R) p = nI u := by
  rcases Nat.lt_or_ge p (cnt R) with q | q
  · obtain ⟨u, hu, hvu, e2⟩ := nwS_rng (fellP (rT R + nI 1) (rR R) (rL R) (rB R) (cnt R) (rK R) (rH R) (rN R) p) hv
    refine ⟨u, hvu, hu, ?_⟩
    refine (prg_lo (f := fun p => nwS (fellP (rT R + nI 1) (rR R) (rL R) (rB R) (cnt R) (rK R) (rH R) (rN R) p) (rS R p)) q).trans ?_
    show nwS _ (rS R p) = _
    rw [e]
    exact e2
  · exact ⟨v, Nat.le_refl _, hv, (prg_hi (f := fun p => nwS (fellP (rT R + nI 1) (rR R) (rL R) (rB R) (cnt R) (rK R) (rH R) (rN R) p) (rS R p)) q).trans e⟩
theorem stu_mono {p : Nat} (hp : p < 8) : ∀ (m : Nat) (R : RS) (v : Nat), wfR R → rS R p = nI v → v ≤ 9999 → ∃ u, v ≤ u ∧ u ≤ 9999 ∧ rS (stpN m R) p = nI u
  | 0, R, v, _, e, hv => ⟨v, Nat.le_refl _, hv, e⟩
  | m + 1, R, v, h, e, hv => by
    obtain ⟨u, h1, h2, e2⟩ := stu_mono1 h hp e hv
    obtain ⟨w, h3, h4, e3⟩ := stu_mono hp m (stp R) u (wf_stp h) e2 h2
    exact ⟨w, by omega, h4, e3⟩
theorem noM_eq {p : Nat} (hp : p < 8) : ∀ (m : Nat) (R : RS) (v : Nat), wfR R → rS R p = nI v → v ≤ 9999 → noM p (nI v) m R = decide (rS (stpN m R) p = nI v)
  | 0, R, v, _, e, _ => by rw [noM, stpN, e, decide_eq_true rfl]
  | m + 1, R, v, h, e, hv => by
    obtain ⟨u, h1, h2, e2⟩ := stu_mono1 h hp e hv
    rw [noM, stpN, e2]
    by_cases q : u ≤ v
    · rw [if_pos (nI_le q (by omega))]
      obtain rfl : u = v := by omega
      exact noM_eq hp m (stp R) u (wf_stp h) e2 hv
    · rw [if_neg (nI_ge (by omega) (by omega))]
      obtain ⟨w, h3, h4, e3⟩ := stu_mono hp m (stp R) u (wf_stp h) e2 h2
      rw [e3]
      exact (decide_eq_false (fun z => by have := (nI_eq (by omega) (by omega)).mp z; omega)).symm
theorem M_toldAt1 {s ks ot as : Nat → Int32} {fl : Int32} {kp : Bool} {tc : Nat → Int32} {g : GO} {j : Nat} (hj : j ≤ 300) : Sp 1 mX5_toldAt [.ref 0, .int (nI j)] (hM s ks ot as fl kp tc g) (some (.int (nI j))) (hM as ks ot as fl kp tc g) := by
  refine Sp.of [some (.ref 0), some (.int (nI j)), none] mrX5_toldAt.1 rfl (Nat.le_of_ble_eq_true rfl) rfl (fun X => ?_)
  refine r_aload_n dX5_toldAt_0 rfl ?_
  refine r_iload_n dX5_toldAt_1 rfl ?_
  refine r_v1r M_takesBack (Nat.le_of_ble_eq_true rfl) mrX5_takesBack lkX5_156 rfl rfl rfl dX5_toldAt_2 (Nat.le_of_ble_eq_true rfl) ?_
  refine r_istore_n (lv' := [_, _, _]) dX5_toldAt_5 (by decide) rfl ?_
  refine r_iload_n dX5_toldAt_6 rfl ?_
  refine r_sipush (v := nI 300) dX5_toldAt_7 (by decide) ?_
  refine r_icmp_le 22 dX5_toldAt_10 (by decide) (fun c10 => ?_) (fun c10 => ?_)
  · refine r_iload_n dX5_toldAt_22 rfl ?_
    refine r_iret dX5_toldAt_23 rfl rfl ?_ ?_
    · rfl
    · exact HE.rf
  · exact absurd (nI_le (by omega) (by omega)) c10
theorem M_toldAt2 {s ks ot as : Nat → Int32} {fl : Int32} {kp : Bool} {tc : Nat → Int32} {g : GO} {j : Nat} (hj : 300 < j) (hj2 : j < 2 ^ 31) : Sp 1 mX5_toldAt [.ref 0, .int (nI j)] (hM s ks ot as fl kp tc g) (some (.int (-1000000004))) (hM as ks ot as fl kp (upd tc 3 (tc 3 + nI 1)) g) := by
  refine Sp.of [some (.ref 0), some (.int (nI j)), none] mrX5_toldAt.1 rfl (Nat.le_of_ble_eq_true rfl) rfl (fun X => ?_)
  refine r_aload_n dX5_toldAt_0 rfl ?_
  refine r_iload_n dX5_toldAt_1 rfl ?_
  refine r_v1r M_takesBack (Nat.le_of_ble_eq_true rfl) mrX5_takesBack lkX5_156 rfl rfl rfl dX5_toldAt_2 (Nat.le_of_ble_eq_true rfl) ?_
  refine r_istore_n (lv' := [_, _, _]) dX5_toldAt_5 (by decide) rfl ?_
  refine r_iload_n dX5_toldAt_6 rfl ?_
  refine r_sipush (v := nI 300) dX5_toldAt_7 (by decide) ?_
  refine r_icmp_le 22 dX5_toldAt_10 (by decide) (fun c10 => ?_) (fun c10 => ?_)
  · exact absurd c10 (nI_ge (by omega) (by omega))
  · refine r_aload_n dX5_toldAt_13 rfl ?_
    refine r_ldc kX5_165 dX5_toldAt_14 ?_
    refine r_v1r (M_finds 3 (by decide) (by decide)) (Nat.le_of_ble_eq_true rfl) mrX5_finds lkX5_66 rfl rfl rfl dX5_toldAt_16 (Nat.le_of_ble_eq_true rfl) ?_
    refine r_goto 23 dX5_toldAt_19 (by decide) ?_
    refine r_iret dX5_toldAt_23 rfl rfl ?_ ?_
    · rfl
    · exact HE.rf
theorem N_trips {R : RS} {ks ot as : Nat → Int32} {fl : Int32} {kp : Bool} {tc : Nat → Int32} {g : GO} {K : RS} {x : Int32} (hw : wfR R) (hk : kp = true → ∀ i, i < 37 → ks i = enc K i) : SpQ 11 mX5_trips [.ref 0, .int x] (hM (enc R) ks ot as fl kp tc g) (some (.int (o_trips R K kp tc x).1)) (qM (o_trips R K kp tc x).2 g) := by
  refine SpQ.of [some (.ref 0), some (.int x), none] mrX5_trips.1 (fun _ q => qM_len q) (Nat.le_of_ble_eq_true rfl) rfl (fun X => ?_)
  have L : ∀ (p : Nat), p < 8 → ∀ (k i : Nat) (A : RS) (fl : Int32), wfR A → bt fl p = false → i + k = 300 → RunQ X 11 mX5_trips 26 [some (.ref 0), some (.int (nI p)), some (.int (nI i))] [] (hM (enc A) ks ot (enc R) fl kp tc g) (some (.int (fnd R K kp tc (trp p k (i + 1) A)).1)) (qM (fnd R K kp tc (trp p k (i + 1) A)).2 g) := by
    intro p hp k
    induction k with
    | zero =>
      intro i A fl hA hb hi
      obtain rfl : i = 300 := by omega
      refine r_iload_n dX5_trips_26 rfl ?_
      refine r_sipush (v := nI 300) dX5_trips_27 (by decide) ?_
      refine r_icmp_gt 54 dX5_trips_30 (by decide) (fun c30 => ?_) (fun c30 => ?_)
      · exact absurd c30 (nI_nlt (by omega) (by omega))
      · refine r_aload_n dX5_trips_33 rfl ?_
        refine r_getfield dX5_trips_34 gfX5_100 rfl rfl ?_
        refine r_iload_n dX5_trips_37 rfl ?_
        refine r_ishr dX5_trips_38 ?_
        refine r_iconst (v := nI 1) dX5_trips_39 (by decide) ?_
        refine r_iand dX5_trips_40 ?_
        refine r_if_ne 54 dX5_trips_41 (by decide) (fun c41 => ?_) (fun c41 => ?_)
        · exact absurd (by rw [shr_b _ (by omega), hb]; rfl) c41
        · refine r_aload_n dX5_trips_44 rfl ?_
          refine r_v0n (M_step hA) (Nat.le_of_ble_eq_true rfl) mrX5_step lkX5_141 rfl rfl rfl dX5_trips_45 (Nat.le_of_ble_eq_true rfl) ?_
          refine r_iinc (lv' := [_, _, _]) dX5_trips_48 (by decide) rfl (by first | exact inc1 _ | exact inc1_ _) rfl ?_
          refine r_goto 26 dX5_trips_51 (by decide) ?_
          refine r_iload_n dX5_trips_26 rfl ?_
          refine r_sipush (v := nI 300) dX5_trips_27 (by decide) ?_
          refine r_icmp_gt 54 dX5_trips_30 (by decide) (fun c30 => ?_) (fun c30 => absurd (nI_lt (by omega) (by omega)) c30)
          refine r_aload_n dX5_trips_54 rfl ?_
          refine r_iload_n dX5_trips_55 rfl ?_
          refine r_v1r (M_toldAt2 (by omega) (by omega)) (Nat.le_of_ble_eq_true rfl) mrX5_toldAt lkX5_166 rfl rfl rfl dX5_trips_56 (Nat.le_of_ble_eq_true rfl) ?_
          exact r_iret dX5_trips_59 rfl rfl rfl ⟨ks, ot, enc R, stpF A, hk, HE.rf⟩
    | succ k ih =>
      intro i A fl hA hb hi
      refine r_iload_n dX5_trips_26 rfl ?_
      refine r_sipush (v := nI 300) dX5_trips_27 (by decide) ?_
      refine r_icmp_gt 54 dX5_trips_30 (by decide) (fun c30 => ?_) (fun c30 => ?_)
      · exact absurd c30 (nI_nlt (by omega) (by omega))
      · refine r_aload_n dX5_trips_33 rfl ?_
        refine r_getfield dX5_trips_34 gfX5_100 rfl rfl ?_
        refine r_iload_n dX5_trips_37 rfl ?_
        refine r_ishr dX5_trips_38 ?_
        refine r_iconst (v := nI 1) dX5_trips_39 (by decide) ?_
        refine r_iand dX5_trips_40 ?_
        refine r_if_ne 54 dX5_trips_41 (by decide) (fun c41 => ?_) (fun c41 => ?_)
        · exact absurd (by rw [shr_b _ (by omega), hb]; rfl) c41
        · refine r_aload_n dX5_trips_44 rfl ?_
          refine r_v0n (M_step hA) (Nat.le_of_ble_eq_true rfl) mrX5_step lkX5_141 rfl rfl rfl dX5_trips_45 (Nat.le_of_ble_eq_true rfl) ?_
          refine r_iinc (lv' := [_, _, _]) dX5_trips_48 (by decide) rfl (by first | exact inc1 _ | exact inc1_ _) rfl ?_
          refine r_goto 26 dX5_trips_51 (by decide) ?_
          cases hf : isIn (stpF A) (nI p) with
          | false =>
            have e := ih (i + 1) (stp A) (stpF A) (wf_stp hA) (by rw [← isIn_bt _ (by omega)]; exact hf) (by omega)
            simp only [trp, hf, Bool.false_eq_true, if_false]
            exact e
          | true =>
            simp only [trp, hf, if_true]
            refine r_iload_n dX5_trips_26 rfl ?_
            refine r_sipush (v := nI 300) dX5_trips_27 (by decide) ?_
            refine r_icmp_gt 54 dX5_trips_30 (by decide) (fun c30 => absurd c30 (nI_nlt (by omega) (by omega))) (fun c30 => ?_)
            refine r_aload_n dX5_trips_33 rfl ?_
            refine r_getfield dX5_trips_34 gfX5_100 rfl rfl ?_
            refine r_iload_n dX5_trips_37 rfl ?_
            refine r_ishr dX5_trips_38 ?_
            refine r_iconst (v := nI 1) dX5_trips_39 (by decide) ?_
            refine r_iand dX5_trips_40 ?_
            refine r_if_ne 54 dX5_trips_41 (by decide) (fun c41 => ?_) (fun c41 => absurd c41 (by rw [shr_b _ (by omega), ← isIn_bt _ (by omega), hf]; decide))
            refine r_aload_n dX5_trips_54 rfl ?_
            refine r_iload_n dX5_trips_55 rfl ?_
            refine r_v1r (M_toldAt1 (by omega)) (Nat.le_of_ble_eq_true rfl) mrX5_toldAt lkX5_166 rfl rfl rfl dX5_trips_56 (Nat.le_of_ble_eq_true rfl) ?_
            exact r_iret dX5_trips_59 rfl rfl rfl ⟨ks, ot, enc R, stpF A, hk, HE.rf⟩
  refine r_aload_n dX5_trips_0 rfl ?_
  refine r_iload_n dX5_trips_1 rfl ?_
  refine r_v1r (M_isPlace hw.1) (Nat.le_of_ble_eq_true rfl) mrX5_isPlace lkX5_69 rfl rfl rfl dX5_trips_2 (Nat.le_of_ble_eq_true rfl) ?_
  refine r_if_neB 15 dX5_trips_5 (by decide) (fun c5 => ?_) (fun c5 => ?_)
  · obtain ⟨p, hp, rfl⟩ := hasB_of c5 (by have := hw.1; omega)
    have hn := hw.1
    have et : tn (nI p) = p := nI_clamp (by omega)
    refine r_aload_n dX5_trips_15 rfl ?_
    refine r_v0n M_laysAside (Nat.le_of_ble_eq_true rfl) mrX5_laysAside lkX5_153 rfl rfl rfl dX5_trips_16 (Nat.le_of_ble_eq_true rfl) ?_
    refine r_iconst (v := nI 0) dX5_trips_19 (by decide) ?_
    refine r_istore_n (lv' := [_, _, _]) dX5_trips_20 (by decide) rfl ?_
    refine r_aload_n dX5_trips_21 rfl ?_
    refine r_iconst (v := nI 0) dX5_trips_22 (by decide) ?_
    refine r_putfield (fs' := [_, _, _, _, _, _, _, _, _, _, _, _, _, _, _, _, _]) (h' := [_, _, _, _, _, _]) dX5_trips_23 pfX5_100 rfl (Nat.le_of_ble_eq_true rfl) (fun _ => rfl) rfl rfl rfl rfl ?_
    simp only [o_trips, c5, et]
    exact L p (by omega) 300 0 R (nI 0) hw (b_0 p) (by omega)
  · refine r_aload_n dX5_trips_8 rfl ?_
    refine r_ldc kX5_41 dX5_trips_9 ?_
    refine r_v1r (M_finds 0 (by decide) (by decide)) (Nat.le_of_ble_eq_true rfl) mrX5_finds lkX5_66 rfl rfl rfl dX5_trips_11 (Nat.le_of_ble_eq_true rfl) ?_
    refine r_iret dX5_trips_14 rfl rfl ?_ ?_
    · simp only [o_trips, c5, if_true, if_false, eq_self, decide_true, decide_false, not_true, not_false_eq_true, Bool.true_and, Bool.and_true, Bool.false_and, Bool.and_false, Bool.true_or, Bool.or_true, Bool.false_or, Bool.or_false, Bool.not_true, Bool.not_false]
      rfl
    · simp only [o_trips, c5, if_true, if_false, eq_self, decide_true, decide_false, not_true, not_false_eq_true, Bool.true_and, Bool.and_true, Bool.false_and, Bool.and_false, Bool.true_or, Bool.or_true, Bool.false_or, Bool.or_false, Bool.not_true, Bool.not_false]
      exact ⟨ks, ot, as, fl, hk, HE.rf⟩
theorem N_hears {R : RS} {ks ot as : Nat → Int32} {fl : Int32} {kp : Bool} {tc : Nat → Int32} {g : GO} {K : RS} {x : Int32} (hw : wfR R) (hk : kp = true → ∀ i, i < 37 → ks i = enc K i) : SpQ 11 mX5_hears [.ref 0, .int x] (hM (enc R) ks ot as fl kp tc g) (some (.int (o_hears R K kp tc x).1)) (qM (o_hears R K kp tc x).2 g) := by
  refine SpQ.of [some (.ref 0), some (.int x), none] mrX5_hears.1 (fun _ q => qM_len q) (Nat.le_of_ble_eq_true rfl) rfl (fun X => ?_)
  have L : ∀ (p : Nat), p < 8 → ∀ (k i : Nat) (A : RS) (fl : Int32), wfR A → i + k = 301 → RunQ X 11 mX5_hears 21 [some (.ref 0), some (.int (nI p)), some (.int (nI i))] [] (hM (enc A) ks ot (enc R) fl kp tc g) (some (.int (fnd R K kp tc (her p k i A)).1)) (qM (fnd R K kp tc (her p k i A)).2 g) := by
    intro p hp k
    induction k with
    | zero =>
      intro i A fl hA hi
      obtain rfl : i = 301 := by omega
      refine r_iload_n dX5_hears_21 rfl ?_
      refine r_sipush (v := nI 300) dX5_hears_22 (by decide) ?_
      refine r_icmp_gt 47 dX5_hears_25 (by decide) (fun c25 => ?_) (fun c25 => ?_)
      · refine r_aload_n dX5_hears_47 rfl ?_
        refine r_iload_n dX5_hears_48 rfl ?_
        refine r_v1r (M_toldAt2 (by omega) (by omega)) (Nat.le_of_ble_eq_true rfl) mrX5_toldAt lkX5_166 rfl rfl rfl dX5_hears_49 (Nat.le_of_ble_eq_true rfl) ?_
        refine r_iret dX5_hears_52 rfl rfl ?_ ?_
        · rfl
        · exact ⟨ks, ot, enc R, fl, hk, HE.rf⟩
      · exact absurd (nI_lt (by omega) (by omega)) c25
    | succ k ih =>
      intro i A fl hA hi
      obtain ⟨b, hb⟩ := hA.2.2.2.2.1 p hp
      refine r_iload_n dX5_hears_21 rfl ?_
      refine r_sipush (v := nI 300) dX5_hears_22 (by decide) ?_
      refine r_icmp_gt 47 dX5_hears_25 (by decide) (fun c25 => ?_) (fun c25 => ?_)
      · exact absurd c25 (nI_nlt (by omega) (by omega))
      · refine r_aload_n dX5_hears_28 rfl ?_
        refine r_iload_n dX5_hears_29 rfl ?_
        refine r_iconst (v := nI 1) dX5_hears_30 (by decide) ?_
        refine r_v2r (M_its1 hp) (Nat.le_of_ble_eq_true rfl) mrX5_its lkX5_54 rfl rfl rfl dX5_hears_31 (Nat.le_of_ble_eq_true rfl) ?_
        refine r_if_ne 47 dX5_hears_34 (by decide) (fun c34 => ?_) (fun c34 => ?_)
        · refine r_aload_n dX5_hears_47 rfl ?_
          refine r_iload_n dX5_hears_48 rfl ?_
          refine r_v1r (M_toldAt1 (by omega)) (Nat.le_of_ble_eq_true rfl) mrX5_toldAt lkX5_166 rfl rfl rfl dX5_hears_49 (Nat.le_of_ble_eq_true rfl) ?_
          refine r_iret dX5_hears_52 rfl rfl ?_ ?_
          · rw [hb, bI_n0] at c34
            simp only [her, show rH A p = nI 1 by rw [hb, c34]; rfl, if_true]
            rfl
          · rw [hb, bI_n0] at c34
            simp only [her, show rH A p = nI 1 by rw [hb, c34]; rfl, if_true]
            exact ⟨ks, ot, enc R, fl, hk, HE.rf⟩
        · refine r_aload_n dX5_hears_37 rfl ?_
          refine r_v0n (M_step hA) (Nat.le_of_ble_eq_true rfl) mrX5_step lkX5_141 rfl rfl rfl dX5_hears_38 (Nat.le_of_ble_eq_true rfl) ?_
          refine r_iinc (lv' := [_, _, _]) dX5_hears_41 (by decide) rfl (by first | exact inc1 _ | exact inc1_ _) rfl ?_
          refine r_goto 21 dX5_hears_44 (by decide) ?_
          have e := ih (i + 1) (stp A) (stpF A) (wf_stp hA) (by omega)
          simp only [her, show ¬ rH A p = nI 1 by rw [c34]; decide, if_false]
          exact e
  refine r_aload_n dX5_hears_0 rfl ?_
  refine r_iload_n dX5_hears_1 rfl ?_
  refine r_v1r (M_isPlace hw.1) (Nat.le_of_ble_eq_true rfl) mrX5_isPlace lkX5_69 rfl rfl rfl dX5_hears_2 (Nat.le_of_ble_eq_true rfl) ?_
  refine r_if_neB 15 dX5_hears_5 (by decide) (fun c5 => ?_) (fun c5 => ?_)
  · obtain ⟨p, hp, rfl⟩ := hasB_of c5 (by have := hw.1; omega)
    have hn := hw.1
    have et : tn (nI p) = p := nI_clamp (by omega)
    refine r_aload_n dX5_hears_15 rfl ?_
    refine r_v0n M_laysAside (Nat.le_of_ble_eq_true rfl) mrX5_laysAside lkX5_153 rfl rfl rfl dX5_hears_16 (Nat.le_of_ble_eq_true rfl) ?_
    refine r_iconst (v := nI 0) dX5_hears_19 (by decide) ?_
    refine r_istore_n (lv' := [_, _, _]) dX5_hears_20 (by decide) rfl ?_
    simp only [o_hears, c5, et]
    exact L p (by omega) 301 0 R fl hw (by omega)
  · refine r_aload_n dX5_hears_8 rfl ?_
    refine r_ldc kX5_41 dX5_hears_9 ?_
    refine r_v1r (M_finds 0 (by decide) (by decide)) (Nat.le_of_ble_eq_true rfl) mrX5_finds lkX5_66 rfl rfl rfl dX5_hears_11 (Nat.le_of_ble_eq_true rfl) ?_
    refine r_iret dX5_hears_14 rfl rfl ?_ ?_
    · simp only [o_hears, c5, if_true, if_false, eq_self, decide_true, decide_false, not_true, not_false_eq_true, Bool.true_and, Bool.and_true, Bool.false_and, Bool.and_false, Bool.true_or, Bool.or_true, Bool.false_or, Bool.or_false, Bool.not_true, Bool.not_false]
      rfl
    · simp only [o_hears, c5, if_true, if_false, eq_self, decide_true, decide_false, not_true, not_false_eq_true, Bool.true_and, Bool.and_true, Bool.false_and, Bool.and_false, Bool.true_or, Bool.or_true, Bool.false_or, Bool.or_false, Bool.not_true, Bool.not_false]
      exact ⟨ks, ot, as, fl, hk, HE.rf⟩
theorem M_leastBy {R : RS} {ks ot as : Nat → Int32} {fl : Int32} {kp : Bool} {tc : Nat → Int32} {g : GO} {k0 m hg : Nat} {wh : Int32} (hk0 : k0 < 37) (hh : hg < 2 ^ 30) (U : Nat → RS) (f : Nat → Int32) (hU : ∀ v, upd (enc R) k0 (nI v) = enc (U v)) (hB : ∀ (v : Nat) (as : Nat → Int32) (fl : Int32), v ≤ hg → Sp 8 mX5_behind [.ref 0, .int wh, .int (nI m)] (hM (enc (U v)) ks ot as fl kp tc g) (some (.int (f v))) (hM (enc (U v)) ks ot (enc (U v)) (stpFN m (U v) fl) kp tc g)) :
    SpQ 9 mX5_leastBy [.ref 0, .int (nI k0), .int (nI hg), .int wh, .int (nI m)] (hM (enc R) ks ot as fl kp tc g) (some (.int (mnB f (nI 0, 999999) (hg + 1)).1)) (fun h => ∃ as fl, HE h (hM (enc R) ks ot as fl kp tc g)) := by
  refine SpQ.of [some (.ref 0), some (.int (nI k0)), some (.int (nI hg)), some (.int wh), some (.int (nI m)), none, none, none, none, none] mrX5_leastBy.1 (fun _ q => by obtain ⟨_, _, q⟩ := q; exact q.len.symm) (Nat.le_of_ble_eq_true rfl) rfl (fun X => ?_)
  have uu : ∀ (s : Nat → Int32) (x y : Int32), upd (upd s k0 x) k0 y = upd s k0 y := by
    intro s x y
    funext q
    simp only [upd]
    split <;> rfl
  have us : upd (enc R) k0 (enc R k0) = enc R := by
    funext q
    rw [upd_at]
    split
    · rename_i z; rw [z]
    · rfl
  have L : ∀ (k i : Nat) (s as : Nat → Int32) (fl : Int32), (∀ x, upd s k0 x = upd (enc R) k0 x) → i + k = hg + 1 → RunQ X 9 mX5_leastBy 18 [some (.ref 0), some (.int (nI k0)), some (.int (nI hg)), some (.int wh), some (.int (nI m)), some (.int (enc R k0)), some (.int (mnB f (nI 0, 999999) i).1), some (.int (mnB f (nI 0, 999999) i).2), some (.int (nI i)), none] [] (hM s ks ot as fl kp tc g) (some (.int (mnB f (nI 0, 999999) (hg + 1)).1)) (fun h => ∃ as fl, HE h (hM (enc R) ks ot as fl kp tc g)) := by
    intro k
    induction k with
    | zero =>
      intro i s as fl hs hi
      obtain rfl : i = hg + 1 := by omega
      refine r_iload dX5_leastBy_18 rfl ?_
      refine r_iload_n dX5_leastBy_20 rfl ?_
      refine r_icmp_gt 79 dX5_leastBy_21 (by decide) (fun c21 => ?_) (fun c21 => ?_)
      · refine r_aload_n dX5_leastBy_79 rfl ?_
        refine r_getfield dX5_leastBy_80 gfX5_7 rfl rfl ?_
        refine r_iload_n dX5_leastBy_83 rfl ?_
        refine r_iload dX5_leastBy_84 rfl ?_
        refine r_iastN (h' := [_, _, _, _, _, _]) dX5_leastBy_86 rfl hk0 (Nat.le_of_ble_eq_true rfl) rfl ?_
        rw [hs, us]
        refine r_iload dX5_leastBy_87 rfl ?_
        refine r_iret dX5_leastBy_89 rfl rfl ?_ ?_
        · rfl
        · exact ⟨as, fl, HE.rf⟩
      · exact absurd (nI_lt (by omega) (by omega)) c21
    | succ k ih =>
      intro i s as fl hs hi
      refine r_iload dX5_leastBy_18 rfl ?_
      refine r_iload_n dX5_leastBy_20 rfl ?_
      refine r_icmp_gt 79 dX5_leastBy_21 (by decide) (fun c21 => ?_) (fun c21 => ?_)
      · exact absurd c21 (nI_nlt (by omega) (by omega))
      · refine r_aload_n dX5_leastBy_24 rfl ?_
        refine r_getfield dX5_leastBy_25 gfX5_7 rfl rfl ?_
        refine r_iload_n dX5_leastBy_28 rfl ?_
        refine r_iload dX5_leastBy_29 rfl ?_
        refine r_iastN (h' := [_, _, _, _, _, _]) dX5_leastBy_31 rfl hk0 (Nat.le_of_ble_eq_true rfl) rfl ?_
        rw [hs, hU]
        refine r_aload_n dX5_leastBy_32 rfl ?_
        refine r_iload_n dX5_leastBy_33 rfl ?_
        refine r_iload dX5_leastBy_34 rfl ?_
        refine r_v2r (hB i as fl (by omega)) (Nat.le_of_ble_eq_true rfl) mrX5_behind lkX5_162 rfl rfl rfl dX5_leastBy_36 (Nat.le_of_ble_eq_true rfl) ?_
        refine r_istore (lv' := [_, _, _, _, _, _, _, _, _, _]) dX5_leastBy_39 (by decide) rfl ?_
        refine r_iload dX5_leastBy_41 rfl ?_
        refine r_iload dX5_leastBy_43 rfl ?_
        refine r_icmp_ge 53 dX5_leastBy_45 (by decide) (fun c45 => ?_) (fun c45 => ?_)
        · refine r_iload dX5_leastBy_53 rfl ?_
          refine r_istore (lv' := [_, _, _, _, _, _, _, _, _, _]) dX5_leastBy_55 (by decide) rfl ?_
          refine r_iload dX5_leastBy_57 rfl ?_
          refine r_iload dX5_leastBy_59 rfl ?_
          refine r_icmp_ge 69 dX5_leastBy_61 (by decide) (fun c61 => ?_) (fun c61 => ?_)
          · refine r_iload dX5_leastBy_69 rfl ?_
            refine r_istore (lv' := [_, _, _, _, _, _, _, _, _, _]) dX5_leastBy_71 (by decide) rfl ?_
            refine r_iinc (lv' := [_, _, _, _, _, _, _, _, _, _]) dX5_leastBy_73 (by decide) rfl (by first | exact inc1 _ | exact inc1_ _) rfl ?_
            refine r_goto 18 dX5_leastBy_76 (by decide) ?_
            refine r_lv (lv' := [_, _, _, _, _, _, _, _, _, none]) (lvDrop 9 rfl) ?_
            have hs2 : ∀ x, upd (enc (U i)) k0 x = upd (enc R) k0 x := fun x => by rw [← hU i, uu]
            have e := ih (i + 1) (enc (U i)) (enc (U i)) (stpFN m (U i) fl) hs2 (by omega)
            first
            | exact absurd c61 c45
            | exact absurd c45 c61
            | (rw [mnB_t (f := f) (Int32.not_le.mp c45)] at e; exact e)
            | (rw [mnB_f (f := f) (Int32.not_lt.mpr c45)] at e; exact e)
          · refine r_iload dX5_leastBy_64 rfl ?_
            refine r_goto 71 dX5_leastBy_66 (by decide) ?_
            refine r_istore (lv' := [_, _, _, _, _, _, _, _, _, _]) dX5_leastBy_71 (by decide) rfl ?_
            refine r_iinc (lv' := [_, _, _, _, _, _, _, _, _, _]) dX5_leastBy_73 (by decide) rfl (by first | exact inc1 _ | exact inc1_ _) rfl ?_
            refine r_goto 18 dX5_leastBy_76 (by decide) ?_
            refine r_lv (lv' := [_, _, _, _, _, _, _, _, _, none]) (lvDrop 9 rfl) ?_
            have hs2 : ∀ x, upd (enc (U i)) k0 x = upd (enc R) k0 x := fun x => by rw [← hU i, uu]
            have e := ih (i + 1) (enc (U i)) (enc (U i)) (stpFN m (U i) fl) hs2 (by omega)
            first
            | exact absurd c61 c45
            | exact absurd c45 c61
            | (rw [mnB_t (f := f) (Int32.not_le.mp c45)] at e; exact e)
            | (rw [mnB_f (f := f) (Int32.not_lt.mpr c45)] at e; exact e)
        · refine r_iload dX5_leastBy_48 rfl ?_
          refine r_goto 55 dX5_leastBy_50 (by decide) ?_
          refine r_istore (lv' := [_, _, _, _, _, _, _, _, _, _]) dX5_leastBy_55 (by decide) rfl ?_
          refine r_iload dX5_leastBy_57 rfl ?_
          refine r_iload dX5_leastBy_59 rfl ?_
          refine r_icmp_ge 69 dX5_leastBy_61 (by decide) (fun c61 => ?_) (fun c61 => ?_)
          · refine r_iload dX5_leastBy_69 rfl ?_
            refine r_istore (lv' := [_, _, _, _, _, _, _, _, _, _]) dX5_leastBy_71 (by decide) rfl ?_
            refine r_iinc (lv' := [_, _, _, _, _, _, _, _, _, _]) dX5_leastBy_73 (by decide) rfl (by first | exact inc1 _ | exact inc1_ _) rfl ?_
            refine r_goto 18 dX5_leastBy_76 (by decide) ?_
            refine r_lv (lv' := [_, _, _, _, _, _, _, _, _, none]) (lvDrop 9 rfl) ?_
            have hs2 : ∀ x, upd (enc (U i)) k0 x = upd (enc R) k0 x := fun x => by rw [← hU i, uu]
            have e := ih (i + 1) (enc (U i)) (enc (U i)) (stpFN m (U i) fl) hs2 (by omega)
            first
            | exact absurd c61 c45
            | exact absurd c45 c61
            | (rw [mnB_t (f := f) (Int32.not_le.mp c45)] at e; exact e)
            | (rw [mnB_f (f := f) (Int32.not_lt.mpr c45)] at e; exact e)
          · refine r_iload dX5_leastBy_64 rfl ?_
            refine r_goto 71 dX5_leastBy_66 (by decide) ?_
            refine r_istore (lv' := [_, _, _, _, _, _, _, _, _, _]) dX5_leastBy_71 (by decide) rfl ?_
            refine r_iinc (lv' := [_, _, _, _, _, _, _, _, _, _]) dX5_leastBy_73 (by decide) rfl (by first | exact inc1 _ | exact inc1_ _) rfl ?_
            refine r_goto 18 dX5_leastBy_76 (by decide) ?_
            refine r_lv (lv' := [_, _, _, _, _, _, _, _, _, none]) (lvDrop 9 rfl) ?_
            have hs2 : ∀ x, upd (enc (U i)) k0 x = upd (enc R) k0 x := fun x => by rw [← hU i, uu]
            have e := ih (i + 1) (enc (U i)) (enc (U i)) (stpFN m (U i) fl) hs2 (by omega)
            first
            | exact absurd c61 c45
            | exact absurd c45 c61
            | (rw [mnB_t (f := f) (Int32.not_le.mp c45)] at e; exact e)
            | (rw [mnB_f (f := f) (Int32.not_lt.mpr c45)] at e; exact e)
  refine r_aload_n dX5_leastBy_0 rfl ?_
  refine r_getfield dX5_leastBy_1 gfX5_7 rfl rfl ?_
  refine r_iload_n dX5_leastBy_4 rfl ?_
  refine r_ialdN dX5_leastBy_5 rfl hk0 (Nat.le_of_ble_eq_true rfl) rfl ?_
  refine r_istore (lv' := [_, _, _, _, _, _, _, _, _, _]) dX5_leastBy_6 (by decide) rfl ?_
  refine r_iconst (v := nI 0) dX5_leastBy_8 (by decide) ?_
  refine r_istore (lv' := [_, _, _, _, _, _, _, _, _, _]) dX5_leastBy_9 (by decide) rfl ?_
  refine r_ldc kX5_171 dX5_leastBy_11 ?_
  refine r_istore (lv' := [_, _, _, _, _, _, _, _, _, _]) dX5_leastBy_13 (by decide) rfl ?_
  refine r_iconst (v := nI 0) dX5_leastBy_15 (by decide) ?_
  refine r_istore (lv' := [_, _, _, _, _, _, _, _, _, _]) dX5_leastBy_16 (by decide) rfl ?_
  exact L (hg + 1) 0 (enc R) as fl (fun _ => rfl) (by omega)
theorem N_carry {R : RS} {ks ot as : Nat → Int32} {fl : Int32} {kp : Bool} {tc : Nat → Int32} {g : GO} {K : RS} {m : Int32} (hw : wfR R) (hk : kp = true → ∀ i, i < 37 → ks i = enc K i) : SpQ 11 mX5_carry [.ref 0, .int m] (hM (enc R) ks ot as fl kp tc g) (some (.int (o_carry R K kp tc m).1)) (qM (o_carry R K kp tc m).2 g) := by
  refine SpQ.of [some (.ref 0), some (.int m)] mrX5_carry.1 (fun _ q => qM_len q) (Nat.le_of_ble_eq_true rfl) rfl (fun X => ?_)
  refine r_iload_n dX5_carry_0 rfl ?_
  refine r_s1r M_isSoon (Nat.le_of_ble_eq_true rfl) mrX5_isSoon lkX5_172 dX5_carry_1 (Nat.le_of_ble_eq_true rfl) ?_
  refine r_if_neB 14 dX5_carry_4 (by decide) (fun c4 => ?_) (fun c4 => ?_)
  · refine r_aload_n dX5_carry_14 rfl ?_
    refine r_getfield dX5_carry_15 gfX5_7 rfl rfl ?_
    refine r_iconst (v := nI 1) dX5_carry_18 (by decide) ?_
    refine r_ialdN dX5_carry_19 rfl (by first | decide | omega) (Nat.le_of_ble_eq_true rfl) enc1 ?_
    refine r_if_ne 32 dX5_carry_20 (by decide) (fun c20 => ?_) (fun c20 => ?_)
    · obtain ⟨m, h1, h2, rfl⟩ := inR_of c4 (by decide) (by decide)
      have em : tn (nI m) = m := nI_clamp (by omega)
      have hn := hw.1
      have h0 : cnt R ≠ 0 := fun z => c20 (by rw [z]; rfl)
      refine r_aload_n dX5_carry_32 rfl ?_
      refine r_iconst (v := nI 3) dX5_carry_33 (by decide) ?_
      refine r_aload_n dX5_carry_34 rfl ?_
      refine r_getfield dX5_carry_35 gfX5_7 rfl rfl ?_
      refine r_iconst (v := nI 1) dX5_carry_38 (by decide) ?_
      refine r_ialdN dX5_carry_39 rfl (by first | decide | omega) (Nat.le_of_ble_eq_true rfl) enc1 ?_
      refine r_iconst (v := nI 1) dX5_carry_40 (by decide) ?_
      refine r_isub dX5_carry_41 ?_
      rw [pk_sub (by omega)]
      refine r_iconst (v := (-1)) dX5_carry_42 (by decide) ?_
      refine r_iload_n dX5_carry_43 rfl ?_
      refine r_v4rq (M_leastBy (k0 := 3) (hg := cnt R - 1) (by decide) (by omega) (fun v => sL R (nI v)) (fun v => fut m (sL R (nI v))) (fun v => encA3) (fun v as fl _ => M_behindT (R := sL R (nI v)) (wf_sL hw) (by omega))) (Nat.le_of_ble_eq_true rfl) mrX5_leastBy lkX5_175 rfl rfl rfl dX5_carry_44 (Nat.le_of_ble_eq_true rfl) (fun h9 _ q9 => ?_)
      obtain ⟨as9, fl9, q9⟩ := q9
      refine r_heq q9 ?_
      refine r_iret dX5_carry_47 rfl rfl ?_ ?_
      · first
        | (simp only [o_carry, c4, c20, if_true]; rfl)
        | (simp only [o_carry, c4, c20, em, if_false]; rw [show cnt R - 1 + 1 = cnt R by omega, mnB_car hw])
      · first
        | (simp only [o_carry, c4, c20, if_true]; exact ⟨ks, ot, as, fl, hk, HE.rf⟩)
        | (simp only [o_carry, c4, c20, if_false]; exact ⟨ks, ot, as9, fl9, hk, HE.rf⟩)
    · refine r_aload_n dX5_carry_23 rfl ?_
      refine r_ldc kX5_165 dX5_carry_24 ?_
      refine r_v1r (M_finds 3 (by decide) (by decide)) (Nat.le_of_ble_eq_true rfl) mrX5_finds lkX5_66 rfl rfl rfl dX5_carry_26 (Nat.le_of_ble_eq_true rfl) ?_
      refine r_goto 47 dX5_carry_29 (by decide) ?_
      refine r_iret dX5_carry_47 rfl rfl ?_ ?_
      · first
        | (simp only [o_carry, c4, c20, if_true]; rfl)
        | (simp only [o_carry, c4, c20, em, if_false]; rw [show cnt R - 1 + 1 = cnt R by omega, mnB_car hw])
      · first
        | (simp only [o_carry, c4, c20, if_true]; exact ⟨ks, ot, as, fl, hk, HE.rf⟩)
        | (simp only [o_carry, c4, c20, if_false]; exact ⟨ks, ot, as9, fl9, hk, HE.rf⟩)
  · refine r_aload_n dX5_carry_7 rfl ?_
    refine r_ldc kX5_41 dX5_carry_8 ?_
    refine r_v1r (M_finds 0 (by decide) (by decide)) (Nat.le_of_ble_eq_true rfl) mrX5_finds lkX5_66 rfl rfl rfl dX5_carry_10 (Nat.le_of_ble_eq_true rfl) ?_
    refine r_iret dX5_carry_13 rfl rfl ?_ ?_
    · simp only [o_carry, c4, if_true, if_false, eq_self, decide_true, decide_false, not_true, not_false_eq_true, Bool.true_and, Bool.and_true, Bool.false_and, Bool.and_false, Bool.true_or, Bool.or_true, Bool.false_or, Bool.or_false, Bool.not_true, Bool.not_false]
      rfl
    · simp only [o_carry, c4, if_true, if_false, eq_self, decide_true, decide_false, not_true, not_false_eq_true, Bool.true_and, Bool.and_true, Bool.false_and, Bool.and_false, Bool.true_or, Bool.or_true, Bool.false_or, Bool.or_false, Bool.not_true, Bool.not_false]
      exact ⟨ks, ot, as, fl, hk, HE.rf⟩
theorem N_kind {R : RS} {ks ot as : Nat → Int32} {fl : Int32} {kp : Bool} {tc : Nat → Int32} {g : GO} {K : RS} {x m : Int32} (hw : wfR R) (hk : kp = true → ∀ i, i < 37 → ks i = enc K i) : SpQ 11 mX5_kind [.ref 0, .int x, .int m] (hM (enc R) ks ot as fl kp tc g) (some (.int (o_kind R K kp tc x m).1)) (qM (o_kind R K kp tc x m).2 g) := by
  refine SpQ.of [some (.ref 0), some (.int x), some (.int m)] mrX5_kind.1 (fun _ q => qM_len q) (Nat.le_of_ble_eq_true rfl) rfl (fun X => ?_)
  refine r_aload_n dX5_kind_0 rfl ?_
  refine r_iload_n dX5_kind_1 rfl ?_
  refine r_v1r (M_isPlace hw.1) (Nat.le_of_ble_eq_true rfl) mrX5_isPlace lkX5_69 rfl rfl rfl dX5_kind_2 (Nat.le_of_ble_eq_true rfl) ?_
  refine r_if_eqB 34 dX5_kind_5 (by decide) (fun c5 => ?_) (fun c5 => ?_)
  · refine r_aload_n dX5_kind_34 rfl ?_
    refine r_ldc kX5_41 dX5_kind_35 ?_
    refine r_v1r (M_finds 0 (by decide) (by decide)) (Nat.le_of_ble_eq_true rfl) mrX5_finds lkX5_66 rfl rfl rfl dX5_kind_37 (Nat.le_of_ble_eq_true rfl) ?_
    refine r_iret dX5_kind_40 rfl rfl ?_ ?_
    · first
      | (simp only [o_kind, c5, c12, et, em]; rw [mnB_knd hw m _ (by omega)])
      | (simp only [o_kind, c5, if_true, if_false, eq_self, decide_true, decide_false, not_true, not_false_eq_true, Bool.true_and, Bool.and_true, Bool.false_and, Bool.and_false, Bool.true_or, Bool.or_true, Bool.false_or, Bool.or_false, Bool.not_true, Bool.not_false]; rfl)
    · first
      | (simp only [o_kind, c5, c12, et, em]; exact ⟨ks, ot, as9, fl9, hk, HE.rf⟩)
      | (simp only [o_kind, c5, if_true, if_false, eq_self, decide_true, decide_false, not_true, not_false_eq_true, Bool.true_and, Bool.and_true, Bool.false_and, Bool.and_false, Bool.true_or, Bool.or_true, Bool.false_or, Bool.or_false, Bool.not_true, Bool.not_false]; exact ⟨ks, ot, as, fl, hk, HE.rf⟩)
  · refine r_iload_n dX5_kind_8 rfl ?_
    refine r_s1r M_isSoon (Nat.le_of_ble_eq_true rfl) mrX5_isSoon lkX5_172 dX5_kind_9 (Nat.le_of_ble_eq_true rfl) ?_
    refine r_if_eqB 34 dX5_kind_12 (by decide) (fun c12 => ?_) (fun c12 => ?_)
    · refine r_aload_n dX5_kind_34 rfl ?_
      refine r_ldc kX5_41 dX5_kind_35 ?_
      refine r_v1r (M_finds 0 (by decide) (by decide)) (Nat.le_of_ble_eq_true rfl) mrX5_finds lkX5_66 rfl rfl rfl dX5_kind_37 (Nat.le_of_ble_eq_true rfl) ?_
      refine r_iret dX5_kind_40 rfl rfl ?_ ?_
      · first
        | (simp only [o_kind, c5, c12, et, em]; rw [mnB_knd hw m _ (by omega)])
        | (simp only [o_kind, c5, c12, if_true, if_false, eq_self, decide_true, decide_false, not_true, not_false_eq_true, Bool.true_and, Bool.and_true, Bool.false_and, Bool.and_false, Bool.true_or, Bool.or_true, Bool.false_or, Bool.or_false, Bool.not_true, Bool.not_false]; rfl)
      · first
        | (simp only [o_kind, c5, c12, et, em]; exact ⟨ks, ot, as9, fl9, hk, HE.rf⟩)
        | (simp only [o_kind, c5, c12, if_true, if_false, eq_self, decide_true, decide_false, not_true, not_false_eq_true, Bool.true_and, Bool.and_true, Bool.false_and, Bool.and_false, Bool.true_or, Bool.or_true, Bool.false_or, Bool.or_false, Bool.not_true, Bool.not_false]; exact ⟨ks, ot, as, fl, hk, HE.rf⟩)
    · obtain ⟨p, hp, rfl⟩ := hasB_of c5 (by have := hw.1; omega)
      have hn := hw.1
      have et : tn (nI p) = p := nI_clamp (by omega)
      obtain ⟨m, h1, h2, rfl⟩ := inR_of c12 (by decide) (by decide)
      have em : tn (nI m) = m := nI_clamp (by omega)
      refine r_aload_n dX5_kind_15 rfl ?_
      refine r_iload_n dX5_kind_16 rfl ?_
      refine r_iconst (v := nI 0) dX5_kind_17 (by decide) ?_
      refine r_s2r M_spot (Nat.le_of_ble_eq_true rfl) mrX5_spot lkX5_42 dX5_kind_18 (Nat.le_of_ble_eq_true rfl) ?_
      refine r_iconst (v := nI 5) dX5_kind_21 (by decide) ?_
      refine r_iload_n dX5_kind_22 rfl ?_
      refine r_iconst (v := nI 2) dX5_kind_23 (by decide) ?_
      refine r_s2r M_spot (Nat.le_of_ble_eq_true rfl) mrX5_spot lkX5_42 dX5_kind_24 (Nat.le_of_ble_eq_true rfl) ?_
      refine r_iload_n dX5_kind_27 rfl ?_
      refine r_v4rq (M_leastBy (k0 := 5 + 4 * p + 0) (hg := 5) (by omega) (by omega) (fun v => sK R (upd (rK R) p (nI v))) (fun v => rS (stpN m (sK R (upd (rK R) p (nI v)))) p) (fun v => encU0) (fun v as fl hv => by have e := M_behind (R := sK R (upd (rK R) p (nI v))) (ks := ks) (ot := ot) (as := as) (fl := fl) (kp := kp) (tc := tc) (g := g) (m := m) (k := 5 + 4 * p + 2) (wf_sK hw (by omega)) (by omega) (by omega); rwa [encS] at e)) (Nat.le_of_ble_eq_true rfl) mrX5_leastBy lkX5_175 rfl rfl rfl dX5_kind_28 (Nat.le_of_ble_eq_true rfl) (fun h9 _ q9 => ?_)
      obtain ⟨as9, fl9, q9⟩ := q9
      refine r_heq q9 ?_
      refine r_goto 40 dX5_kind_31 (by decide) ?_
      refine r_iret dX5_kind_40 rfl rfl ?_ ?_
      · first
        | (simp only [o_kind, c5, c12, et, em]; rw [mnB_knd hw m _ (by omega)])
        | (simp only [o_kind, c5, c12, if_true, if_false, eq_self, decide_true, decide_false, not_true, not_false_eq_true, Bool.true_and, Bool.and_true, Bool.false_and, Bool.and_false, Bool.true_or, Bool.or_true, Bool.false_or, Bool.or_false, Bool.not_true, Bool.not_false]; rfl)
      · first
        | (simp only [o_kind, c5, c12, et, em]; exact ⟨ks, ot, as9, fl9, hk, HE.rf⟩)
        | (simp only [o_kind, c5, c12, if_true, if_false, eq_self, decide_true, decide_false, not_true, not_false_eq_true, Bool.true_and, Bool.and_true, Bool.false_and, Bool.and_false, Bool.true_or, Bool.or_true, Bool.false_or, Bool.or_false, Bool.not_true, Bool.not_false]; exact ⟨ks, ot, as, fl, hk, HE.rf⟩)

