/-! the reference: a night -/
theorem wf_add {R : RS} {k : Int32} (h : wfR R) (hk : ∃ z, z < 6 ∧ k = nI z) (hc : cnt R < 8) : wfR (addR R k) := by
  refine ⟨show cnt R + 1 ≤ 8 by omega, h.2.1, fun p hp => ?_, fun p hp => ?_, fun p hp => ?_, fun p hp => ?_⟩
  · show ∃ v, v ≤ 9999 ∧ upd (rS R) (cnt R) (nI 0) p = nI v
    rw [upd_at]
    split
    · exact ⟨0, by omega, rfl⟩
    · exact h.2.2.1 p hp
  · show ∃ v, v ≤ 99 ∧ upd (rN R) (cnt R) (nI 50) p = nI v
    rw [upd_at]
    split
    · exact ⟨50, by omega, rfl⟩
    · exact h.2.2.2.1 p hp
  · show ∃ b, upd (rH R) (cnt R) (nI 0) p = bI b
    rw [upd_at]
    split
    · exact ⟨false, rfl⟩
    · exact h.2.2.2.2.1 p hp
  · show ∃ z, z < 6 ∧ upd (rK R) (cnt R) k p = nI z
    rw [upd_at]
    split
    · exact hk
    · exact h.2.2.2.2.2 p hp
theorem wf_itK {n : Nat} {T : Nat → Nat} {s : Nat} {A : RS} (h : wfR A) (hk : tk n T s ≤ 5) : wfR (itK n T s A).2.2 := by
  unfold itK
  split
  · rename_i hc
    have ha := wf_add (k := nI (tk n T s)) h ⟨_, by omega, rfl⟩ hc
    split
    · split
      · rename_i ho
        exact wf_sN ha (by simp only [nOK, Bool.and_eq_true, decide_eq_true_eq] at ho; omega)
      · exact ha
    · exact ha
  · exact h
theorem wf_itm {n : Nat} {T : Nat → Nat} {s : Nat} {A : RS} (h : wfR A) : wfR (itm n T s A).2.2 := by
  have hc := h.1
  unfold itm
  split
  · exact wf_itK h (by assumption)
  · split
    · unfold itR
      split
      · exact wf_sR h
      · exact h
    · split
      · unfold itR
        split
        · exact wf_sR h
        · exact h
      · split
        · unfold itL
          split
          · exact wf_sL h
          · exact h
        · split
          · unfold itB
            split
            · rename_i ho
              exact wf_sB h (by simp only [nOK, Bool.and_eq_true, decide_eq_true_eq] at ho; omega)
            · exact h
          · split
            · unfold itS
              split
              · rename_i ha
                split
                · rename_i hb
                  simp only [nOK, Bool.and_eq_true, decide_eq_true_eq] at ha hb
                  exact wf_sw h (by omega) (by omega)
                · exact h
              · exact h
            · exact h
/-- the items go on behind r -/
def nres (n : Nat) (T : Nat → Nat) (k i : Nat) (r : Bool × Nat × RS) : Int32 × Option RS := match r.1 with
    | false => ((-1) - nI r.2.1, none)
    | true => if tk n T r.2.1 = 14 then (nI i, some r.2.2) else if tk n T r.2.1 = 13 then nrun n T k (i + 1) (nxt n T r.2.1) r.2.2 else ((-1) - nI r.2.1, none)
theorem nrun_s {n : Nat} {T : Nat → Nat} {k i s : Nat} {A : RS} : nrun n T (k + 1) i s A = nres n T k i (itm n T s A) := rfl
theorem nres_f {n : Nat} {T : Nat → Nat} {k i f : Nat} {A : RS} : nres n T k i (false, f, A) = ((-1) - nI f, none) := rfl
theorem nres_14 {n : Nat} {T : Nat → Nat} {k i f : Nat} {A : RS} (h : n ≤ f) : nres n T k i (true, f, A) = (nI i, some A) := by
  show (if tk n T f = 14 then _ else _) = _
  rw [if_pos (tk_n.mpr h)]
theorem nres_13 {n : Nat} {T : Nat → Nat} {k i f : Nat} {A : RS} (h : f < n ∧ T f = 59) : nres n T k i (true, f, A) = nrun n T k (i + 1) (nxt n T f) A := by
  show (if tk n T f = 14 then _ else _) = _
  rw [if_neg (fun z => by have := tk_n.mp z; omega), if_pos (tk_13.mpr h)]
theorem nres_x {n : Nat} {T : Nat → Nat} {k i f : Nat} {A : RS} (h : f < n) (h2 : ¬ T f = 59) : nres n T k i (true, f, A) = ((-1) - nI f, none) := by
  show (if tk n T f = 14 then _ else _) = _
  rw [if_neg (fun z => by have := tk_n.mp z; omega), if_neg (fun z => h2 (tk_13.mp z).2)]
/-- the reference stands so, without its sheets -/
def qP (L : GS) (h : AH) : Prop := ∃ (ks ot as : Nat → Int32) (fl : Int32) (a : Nat) (b v : Int32) (w : Bool), (L.1.2.2.1 = true → ∀ i, i < 37 → ks i = enc L.1.2.1 i) ∧ HE h (hP (enc L.1.1) ks ot as fl L.1.2.2.1 L.1.2.2.2 (nI L.2.1.1, nI a, b, v, w) L.2.1.2)
theorem qP_len {L : GS} {h' : AH} (q : qP L h') : h'.length = 7 := by
  obtain ⟨ks, ot, as, fl, a, b, v, w, -, q⟩ := q
  exact q.len.symm
theorem P_night {R K : RS} {ks ot as : Nat → Int32} {fl : Int32} {kp : Bool} {tc : Nat → Int32} {n : Nat} {T : Nat → Nat} {Z : Nat → SHT} {a : Nat} {b v : Int32} {w : Bool} (hn : n ≤ 120) (hB : ∀ i, T i < 256) (hw : wfR R) (hk : kp = true → ∀ i, i < 37 → ks i = enc K i) : SpQ 11 mX5_night [.ref 0] (hP (enc R) ks ot as fl kp tc (nI n, nI a, b, v, w) T) (some (.int (o_night ((R, K, kp, tc), (n, T), Z)).1)) (qP (o_night ((R, K, kp, tc), (n, T), Z)).2) := by
  refine SpQ.of [some (.ref 0), none] mrX5_night.1 (fun _ q => qP_len q) (Nat.le_of_ble_eq_true rfl) rfl (fun X => ?_)
  have E1 : ∀ (i f : Nat) (s : Nat → Int32) (to v : Int32), RunQ X 11 mX5_night 86 [some (.ref 0), some (.int (nI i))] [] (hP s ks (enc R) as fl kp tc (nI n, nI f, to, v, true) T) (some (.int ((-1) - nI f))) (qP ((R, K, kp, tc), (0, T), Z)) := by
    intro i f s to v
    refine r_aload_n dX5_night_86 rfl ?_
    refine r_getfield dX5_night_87 gfX5_209 rfl rfl ?_
    refine r_if_eqB 97 dX5_night_90 (by decide) (fun c90 => ?_) (fun c90 => ?_)
    · exact Bool.noConfusion c90
    · refine r_aload_n dX5_night_93 rfl ?_
      refine r_v0n (M_putsBack.pre rfl (Nat.le_of_ble_eq_true rfl)) (Nat.le_of_ble_eq_true rfl) mrX5_putsBack lkX5_282 rfl rfl rfl dX5_night_94 (Nat.le_of_ble_eq_true rfl) ?_
      refine r_aload_n dX5_night_97 rfl ?_
      refine r_iconst (v := nI 0) dX5_night_98 (by decide) ?_
      refine r_putfield (fs' := [_, _, _, _, _, _, _, _, _, _, _, _, _, _, _, _, _]) (h' := [_, _, _, _, _, _, _]) dX5_night_99 pfX5_183 rfl (Nat.le_of_ble_eq_true rfl) (fun _ => rfl) rfl rfl rfl rfl ?_
      refine r_aload_n dX5_night_102 rfl ?_
      refine r_getfield dX5_night_103 gfX5_209 rfl rfl ?_
      refine r_if_eqB 118 dX5_night_106 (by decide) (fun c106 => ?_) (fun c106 => ?_)
      · exact Bool.noConfusion c106
      · refine r_iconst (v := (-1)) dX5_night_109 (by decide) ?_
        refine r_aload_n dX5_night_110 rfl ?_
        refine r_getfield dX5_night_111 gfX5_197 rfl rfl ?_
        refine r_isub dX5_night_114 ?_
        refine r_goto 119 dX5_night_115 (by decide) ?_
        refine r_iret dX5_night_119 rfl rfl ?_ ?_
        · rfl
        · exact ⟨ks, enc R, as, fl, f, to, v, true, hk, HE.rf⟩
  have E0 : ∀ (i f : Nat) (A : RS) (to v : Int32), RunQ X 11 mX5_night 86 [some (.ref 0), some (.int (nI i))] [] (hP (enc A) ks (enc R) as fl kp tc (nI n, nI f, to, v, false) T) (some (.int (nI i))) (qP ((A, K, kp, tc), (0, T), Z)) := by
    intro i f A to v
    refine r_aload_n dX5_night_86 rfl ?_
    refine r_getfield dX5_night_87 gfX5_209 rfl rfl ?_
    refine r_if_eqB 97 dX5_night_90 (by decide) (fun c90 => ?_) (fun c90 => ?_)
    · refine r_aload_n dX5_night_97 rfl ?_
      refine r_iconst (v := nI 0) dX5_night_98 (by decide) ?_
      refine r_putfield (fs' := [_, _, _, _, _, _, _, _, _, _, _, _, _, _, _, _, _]) (h' := [_, _, _, _, _, _, _]) dX5_night_99 pfX5_183 rfl (Nat.le_of_ble_eq_true rfl) (fun _ => rfl) rfl rfl rfl rfl ?_
      refine r_aload_n dX5_night_102 rfl ?_
      refine r_getfield dX5_night_103 gfX5_209 rfl rfl ?_
      refine r_if_eqB 118 dX5_night_106 (by decide) (fun c106 => ?_) (fun c106 => ?_)
      · refine r_iload_n dX5_night_118 rfl ?_
        refine r_iret dX5_night_119 rfl rfl ?_ ?_
        · rfl
        · exact ⟨ks, enc R, as, fl, f, to, v, false, hk, HE.rf⟩
      · exact Bool.noConfusion c106
    · exact Bool.noConfusion c90
  have L : ∀ (k i : Nat) (r : Bool × Nat × RS) (h : AH), (r.1 = true → r.2.1 ≤ n ∧ n - r.2.1 ≤ k ∧ wfR r.2.2) → qJ ks (enc R) as fl kp tc n T r h → RunQ X 11 mX5_night 24 [some (.ref 0), some (.int (nI i))] [] h (some (.int (nres n T k i r).1)) (qP (nRow (R, K, kp, tc) (nres n T k i r).2, (0, T), Z)) := by
    intro k
    induction k with
    | zero =>
      intro i r h hr q
      obtain ⟨b, f, A⟩ := r
      obtain ⟨s, to, v, q, hs⟩ := q
      cases b with
      | false =>
        rw [nres_f]
        refine r_heq (h' := hP s ks (enc R) as fl kp tc (nI n, nI f, to, v, true) T) q ?_
        refine r_aload_n dX5_night_24 rfl ?_
        refine r_getfield dX5_night_25 gfX5_209 rfl rfl ?_
        refine r_if_neB 59 dX5_night_28 (by decide) (fun c28 => ?_) (fun c28 => ?_)
        · refine r_aload_n dX5_night_59 rfl ?_
          refine r_aload_n dX5_night_60 rfl ?_
          refine r_getfield dX5_night_61 gfX5_209 rfl rfl ?_
          refine r_if_neB 78 dX5_night_64 (by decide) (fun c64 => ?_) (fun c64 => ?_)
          · refine r_iconst (v := nI 1) dX5_night_78 (by decide) ?_
            refine r_goto 83 dX5_night_79 (by decide) ?_
            rw [show nI 1 = bI true from rfl]
            refine r_putfield (fs' := [_, _, _, _, _, _, _, _, _, _, _, _, _, _, _, _, _]) (h' := [_, _, _, _, _, _, _]) dX5_night_83 pfX5_209 rfl (Nat.le_of_ble_eq_true rfl) (fun _ => rfl) (bI_nar _) (bI_fit _) rfl rfl ?_
            exact E1 i f s to v
          · exact Bool.noConfusion c64
        · exact Bool.noConfusion c28
      | true =>
        obtain ⟨e1, e2⟩ := hs rfl
        dsimp only at e1 e2
        subst e1
        subst e2
        have hr := hr rfl
        dsimp only at hr
        refine r_heq (h' := hP (enc A) ks (enc R) as fl kp tc (nI n, nI f, nI (tE n T f), v, false) T) q ?_
        refine r_aload_n dX5_night_24 rfl ?_
        refine r_getfield dX5_night_25 gfX5_209 rfl rfl ?_
        refine r_if_neB 59 dX5_night_28 (by decide) (fun c28 => ?_) (fun c28 => ?_)
        · exact Bool.noConfusion c28
        · refine r_aload_n dX5_night_31 rfl ?_
          refine r_aload_n dX5_night_32 rfl ?_
          refine r_getfield dX5_night_33 gfX5_197 rfl rfl ?_
          refine r_v1r (M_byteAt hn (by omega)) (Nat.le_of_ble_eq_true rfl) mrX5_byteAt lkX5_200 rfl rfl rfl dX5_night_36 (Nat.le_of_ble_eq_true rfl) ?_
          refine r_bipush (v := nI 59) dX5_night_39 (by decide) ?_
          refine r_icmp_ne 59 dX5_night_41 (by decide) (fun c41 => ?_) (fun c41 => ?_)
          · refine r_aload_n dX5_night_59 rfl ?_
            refine r_aload_n dX5_night_60 rfl ?_
            refine r_getfield dX5_night_61 gfX5_209 rfl rfl ?_
            refine r_if_neB 78 dX5_night_64 (by decide) (fun c64 => ?_) (fun c64 => ?_)
            · exact Bool.noConfusion c64
            · refine r_aload_n dX5_night_67 rfl ?_
              refine r_getfield dX5_night_68 gfX5_197 rfl rfl ?_
              refine r_aload_n dX5_night_71 rfl ?_
              refine r_getfield dX5_night_72 gfX5_183 rfl rfl ?_
              refine r_icmp_ge 82 dX5_night_75 (by decide) (fun c75 => ?_) (fun c75 => ?_)
              · refine r_iconst (v := nI 0) dX5_night_82 (by decide) ?_
                first | rw [show nI 0 = bI false from rfl] | rw [show nI 1 = bI true from rfl]
                refine r_putfield (fs' := [_, _, _, _, _, _, _, _, _, _, _, _, _, _, _, _, _]) (h' := [_, _, _, _, _, _, _]) dX5_night_83 pfX5_209 rfl (Nat.le_of_ble_eq_true rfl) (fun _ => rfl) (bI_nar _) (bI_fit _) rfl rfl ?_
                first
                | (rw [nres_14 ((nI_leI (by omega) (by omega)).mp c75)]; exact E0 i f A (nI (tE n T f)) v)
                | (have h9 : f < n := Nat.lt_of_not_le (fun z => c75 (nI_le z (by omega))); rw [nres_x h9 (fun z => c41 ((atM_c hB _ (by decide)).mpr ⟨h9, z⟩))]; exact E1 i f (enc A) (nI (tE n T f)) v)
              · refine r_iconst (v := nI 1) dX5_night_78 (by decide) ?_
                refine r_goto 83 dX5_night_79 (by decide) ?_
                first | rw [show nI 0 = bI false from rfl] | rw [show nI 1 = bI true from rfl]
                refine r_putfield (fs' := [_, _, _, _, _, _, _, _, _, _, _, _, _, _, _, _, _]) (h' := [_, _, _, _, _, _, _]) dX5_night_83 pfX5_209 rfl (Nat.le_of_ble_eq_true rfl) (fun _ => rfl) (bI_nar _) (bI_fit _) rfl rfl ?_
                first
                | (rw [nres_14 ((nI_leI (by omega) (by omega)).mp c75)]; exact E0 i f A (nI (tE n T f)) v)
                | (have h9 : f < n := Nat.lt_of_not_le (fun z => c75 (nI_le z (by omega))); rw [nres_x h9 (fun z => c41 ((atM_c hB _ (by decide)).mpr ⟨h9, z⟩))]; exact E1 i f (enc A) (nI (tE n T f)) v)
          · exact absurd ((atM_c hB _ (by decide)).mp c41).1 (by omega)
    | succ k ih =>
      intro i r h hr q
      obtain ⟨b, f, A⟩ := r
      obtain ⟨s, to, v, q, hs⟩ := q
      cases b with
      | false =>
        rw [nres_f]
        refine r_heq (h' := hP s ks (enc R) as fl kp tc (nI n, nI f, to, v, true) T) q ?_
        refine r_aload_n dX5_night_24 rfl ?_
        refine r_getfield dX5_night_25 gfX5_209 rfl rfl ?_
        refine r_if_neB 59 dX5_night_28 (by decide) (fun c28 => ?_) (fun c28 => ?_)
        · refine r_aload_n dX5_night_59 rfl ?_
          refine r_aload_n dX5_night_60 rfl ?_
          refine r_getfield dX5_night_61 gfX5_209 rfl rfl ?_
          refine r_if_neB 78 dX5_night_64 (by decide) (fun c64 => ?_) (fun c64 => ?_)
          · refine r_iconst (v := nI 1) dX5_night_78 (by decide) ?_
            refine r_goto 83 dX5_night_79 (by decide) ?_
            rw [show nI 1 = bI true from rfl]
            refine r_putfield (fs' := [_, _, _, _, _, _, _, _, _, _, _, _, _, _, _, _, _]) (h' := [_, _, _, _, _, _, _]) dX5_night_83 pfX5_209 rfl (Nat.le_of_ble_eq_true rfl) (fun _ => rfl) (bI_nar _) (bI_fit _) rfl rfl ?_
            exact E1 i f s to v
          · exact Bool.noConfusion c64
        · exact Bool.noConfusion c28
      | true =>
        obtain ⟨e1, e2⟩ := hs rfl
        dsimp only at e1 e2
        subst e1
        subst e2
        have hr := hr rfl
        dsimp only at hr
        refine r_heq (h' := hP (enc A) ks (enc R) as fl kp tc (nI n, nI f, nI (tE n T f), v, false) T) q ?_
        refine r_aload_n dX5_night_24 rfl ?_
        refine r_getfield dX5_night_25 gfX5_209 rfl rfl ?_
        refine r_if_neB 59 dX5_night_28 (by decide) (fun c28 => ?_) (fun c28 => ?_)
        · exact Bool.noConfusion c28
        · refine r_aload_n dX5_night_31 rfl ?_
          refine r_aload_n dX5_night_32 rfl ?_
          refine r_getfield dX5_night_33 gfX5_197 rfl rfl ?_
          refine r_v1r (M_byteAt hn (by omega)) (Nat.le_of_ble_eq_true rfl) mrX5_byteAt lkX5_200 rfl rfl rfl dX5_night_36 (Nat.le_of_ble_eq_true rfl) ?_
          refine r_bipush (v := nI 59) dX5_night_39 (by decide) ?_
          refine r_icmp_ne 59 dX5_night_41 (by decide) (fun c41 => ?_) (fun c41 => ?_)
          · refine r_aload_n dX5_night_59 rfl ?_
            refine r_aload_n dX5_night_60 rfl ?_
            refine r_getfield dX5_night_61 gfX5_209 rfl rfl ?_
            refine r_if_neB 78 dX5_night_64 (by decide) (fun c64 => ?_) (fun c64 => ?_)
            · exact Bool.noConfusion c64
            · refine r_aload_n dX5_night_67 rfl ?_
              refine r_getfield dX5_night_68 gfX5_197 rfl rfl ?_
              refine r_aload_n dX5_night_71 rfl ?_
              refine r_getfield dX5_night_72 gfX5_183 rfl rfl ?_
              refine r_icmp_ge 82 dX5_night_75 (by decide) (fun c75 => ?_) (fun c75 => ?_)
              · refine r_iconst (v := nI 0) dX5_night_82 (by decide) ?_
                first | rw [show nI 0 = bI false from rfl] | rw [show nI 1 = bI true from rfl]
                refine r_putfield (fs' := [_, _, _, _, _, _, _, _, _, _, _, _, _, _, _, _, _]) (h' := [_, _, _, _, _, _, _]) dX5_night_83 pfX5_209 rfl (Nat.le_of_ble_eq_true rfl) (fun _ => rfl) (bI_nar _) (bI_fit _) rfl rfl ?_
                first
                | (rw [nres_14 ((nI_leI (by omega) (by omega)).mp c75)]; exact E0 i f A (nI (tE n T f)) v)
                | (have h9 : f < n := Nat.lt_of_not_le (fun z => c75 (nI_le z (by omega))); rw [nres_x h9 (fun z => c41 ((atM_c hB _ (by decide)).mpr ⟨h9, z⟩))]; exact E1 i f (enc A) (nI (tE n T f)) v)
              · refine r_iconst (v := nI 1) dX5_night_78 (by decide) ?_
                refine r_goto 83 dX5_night_79 (by decide) ?_
                first | rw [show nI 0 = bI false from rfl] | rw [show nI 1 = bI true from rfl]
                refine r_putfield (fs' := [_, _, _, _, _, _, _, _, _, _, _, _, _, _, _, _, _]) (h' := [_, _, _, _, _, _, _]) dX5_night_83 pfX5_209 rfl (Nat.le_of_ble_eq_true rfl) (fun _ => rfl) (bI_nar _) (bI_fit _) rfl rfl ?_
                first
                | (rw [nres_14 ((nI_leI (by omega) (by omega)).mp c75)]; exact E0 i f A (nI (tE n T f)) v)
                | (have h9 : f < n := Nat.lt_of_not_le (fun z => c75 (nI_le z (by omega))); rw [nres_x h9 (fun z => c41 ((atM_c hB _ (by decide)).mpr ⟨h9, z⟩))]; exact E1 i f (enc A) (nI (tE n T f)) v)
          · refine r_aload_n dX5_night_44 rfl ?_
            refine r_iconst (v := nI 1) dX5_night_45 (by decide) ?_
            rw [show nI 1 = bI true from rfl]
            refine r_v1n (M_go hn hB hr.1) (Nat.le_of_ble_eq_true rfl) mrX5_must lkX5_223 rfl rfl rfl dX5_night_46 (Nat.le_of_ble_eq_true rfl) ?_
            refine r_aload_n dX5_night_49 rfl ?_
            refine r_v0nq (J_item hn hB (nxt_le n T f) hr.2.2) (Nat.le_of_ble_eq_true rfl) mrX5_item lkX5_279 rfl rfl rfl dX5_night_50 (Nat.le_of_ble_eq_true rfl) (fun h9 _ g9 => ?_)
            refine r_iinc (lv' := [_, _]) dX5_night_53 (by decide) rfl (by first | exact inc1 _ | exact inc1_ _) rfl ?_
            refine r_goto 24 dX5_night_56 (by decide) ?_
            have h5 := (atM_c hB _ (by decide)).mp c41
            rw [nres_13 h5, nrun_s]
            exact ih (i + 1) (itm n T (nxt n T f) A) h9 (fun z => by have h6 := itm_adv (nxt_le n T f) z; have h7 := nxt_gt (T := T) h5.1; exact ⟨h6.2, by omega, wf_itm hr.2.2⟩) g9
  have e9 : nrun n T 120 1 (sk n T 0) R = nres n T 119 1 (itm n T (sk n T 0) R) := rfl
  rw [o_night]
  dsimp only
  rw [e9]
  refine r_aload_n dX5_night_0 rfl ?_
  refine r_v0n (M_saves.pre rfl (Nat.le_of_ble_eq_true rfl)) (Nat.le_of_ble_eq_true rfl) mrX5_saves lkX5_276 rfl rfl rfl dX5_night_1 (Nat.le_of_ble_eq_true rfl) ?_
  refine r_aload_n dX5_night_4 rfl ?_
  refine r_iconst (v := nI 0) dX5_night_5 (by decide) ?_
  rw [show nI 0 = bI false from rfl]
  refine r_putfield (fs' := [_, _, _, _, _, _, _, _, _, _, _, _, _, _, _, _, _]) (h' := [_, _, _, _, _, _, _]) dX5_night_6 pfX5_209 rfl (Nat.le_of_ble_eq_true rfl) (fun _ => rfl) (bI_nar _) (bI_fit _) rfl rfl ?_
  refine r_aload_n dX5_night_9 rfl ?_
  refine r_iconst (v := nI 0) dX5_night_10 (by decide) ?_
  refine r_putfield (fs' := [_, _, _, _, _, _, _, _, _, _, _, _, _, _, _, _, _]) (h' := [_, _, _, _, _, _, _]) dX5_night_11 pfX5_194 rfl (Nat.le_of_ble_eq_true rfl) (fun _ => rfl) rfl rfl rfl rfl ?_
  refine r_aload_n dX5_night_14 rfl ?_
  refine r_v0n (M_token (fr := a) (to := 0) (v := v) (w := false) hn hB (Nat.zero_le _)) (Nat.le_of_ble_eq_true rfl) mrX5_token lkX5_213 rfl rfl rfl dX5_night_15 (Nat.le_of_ble_eq_true rfl) ?_
  refine r_iconst (v := nI 1) dX5_night_18 (by decide) ?_
  refine r_istore_n (lv' := [_, _]) dX5_night_19 (by decide) rfl ?_
  refine r_aload_n dX5_night_20 rfl ?_
  refine r_v0nq (J_item hn hB (sk_le n T 0) hw) (Nat.le_of_ble_eq_true rfl) mrX5_item lkX5_279 rfl rfl rfl dX5_night_21 (Nat.le_of_ble_eq_true rfl) (fun h9 _ g9 => ?_)
  exact L 119 1 (itm n T (sk n T 0) R) h9 (fun z => by have h6 := itm_adv (sk_le n T 0) z; exact ⟨h6.2, by omega, wf_itm hw⟩) g9

