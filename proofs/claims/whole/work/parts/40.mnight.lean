/-! the reference: a walker's item, a swap's, any; a night -/
theorem J_walker {R : RS} {ks ot as : Nat → Int32} {fl : Int32} {kp : Bool} {tc : Nat → Int32} {n : Nat} {T : Nat → Nat} {f : Nat} {v : Int32} (hn : n ≤ 120) (hB : ∀ i, T i < 256) (hf : f ≤ n) (hw : wfR R) (hk : tk n T f ≤ 5) : SpQ 5 mX5_walkerItem [.ref 0, .int (nI (tk n T f))] (hP (enc R) ks ot as fl kp tc (nI n, nI f, nI (tE n T f), v, false) T) none (qJ ks ot as fl kp tc n T (itK n T f R)) := by
  refine SpQ.of [some (.ref 0), some (.int (nI (tk n T f))), none] mrX5_walkerItem.1 (fun _ q => qJ_len q) (Nat.le_of_ble_eq_true rfl) rfl (fun X => ?_)
  have h1 := nxt_le n T f
  have h2 := nxt_le n T (nxt n T f)
  by_cases hc : cnt R < 8
  · obtain ⟨W, hW, kW⟩ := M_word (s := enc (addR R (nI (tk n T f)))) (ks := ks) (ot := ot) (as := as) (fl := fl) (kp := kp) (tc := tc) (v := v) (fr := nxt n T f) hn hB rfl h1
    have q6 : lg_cmp W 14863045 = 0 ↔ tk n T (nxt n T f) = 6 := cmp_0.trans (kW 6 (by decide))
    by_cases hx : tk n T (nxt n T f) = 6
    · cases ho : nOK n T (nxt n T (nxt n T f)) 100 with
      | false =>
        obtain ⟨v9, N9⟩ := M_number_f (s := enc (addR R (nI (tk n T f)))) (ks := ks) (ot := ot) (as := as) (fl := fl) (kp := kp) (tc := tc) (v := v) hn hB h2 rfl (mo9_n (m := 99) (by decide)) (by decide) ho
        have e9 : itK n T f R = (false, nxt n T (nxt n T f), addR R (nI (tk n T f))) := by rw [itK, if_pos hc, decide_eq_true hx, ho]
        rw [e9]
        refine r_aload_n dX5_walkerItem_0 rfl ?_
        refine r_aload_n dX5_walkerItem_1 rfl ?_
        refine r_getfield dX5_walkerItem_2 gfX5_7 rfl rfl ?_
        refine r_iconst (v := nI 1) dX5_walkerItem_5 (by decide) ?_
        refine r_ialdN dX5_walkerItem_6 rfl (by first | decide | omega) (Nat.le_of_ble_eq_true rfl) enc1 ?_
        refine r_bipush (v := nI 8) dX5_walkerItem_7 (by decide) ?_
        refine r_icmp_ge 16 dX5_walkerItem_9 (by decide) (fun c9 => ?_) (fun c9 => ?_)
        · exact absurd c9 (nI_ge hc (by decide))
        · refine r_iconst (v := nI 1) dX5_walkerItem_12 (by decide) ?_
          refine r_goto 17 dX5_walkerItem_13 (by decide) ?_
          rw [show nI 1 = bI true from rfl]
          refine r_v1n (M_go hn hB hf) (Nat.le_of_ble_eq_true rfl) mrX5_must lkX5_223 rfl rfl rfl dX5_walkerItem_17 (Nat.le_of_ble_eq_true rfl) ?_
          refine r_aload_n dX5_walkerItem_20 rfl ?_
          refine r_getfield dX5_walkerItem_21 gfX5_209 rfl rfl ?_
          refine r_if_eqB 28 dX5_walkerItem_24 (by decide) (fun c24 => ?_) (fun c24 => ?_)
          · refine r_aload_n dX5_walkerItem_28 rfl ?_
            refine r_iload_n dX5_walkerItem_29 rfl ?_
            refine r_v1r ((M_adds hc).pre rfl (Nat.le_of_ble_eq_true rfl)) (Nat.le_of_ble_eq_true rfl) mrX5_adds lkX5_111 rfl rfl rfl dX5_walkerItem_30 (Nat.le_of_ble_eq_true rfl) ?_
            refine r_istore_n (lv' := [_, _, _]) dX5_walkerItem_33 (by decide) rfl ?_
            refine r_aload_n dX5_walkerItem_34 rfl ?_
            refine r_v0r hW (Nat.le_of_ble_eq_true rfl) mrX5_word lkX5_227 rfl rfl rfl dX5_walkerItem_35 (Nat.le_of_ble_eq_true rfl) ?_
            refine r_ldc2 kX5_243 dX5_walkerItem_38 ?_
            refine r_lcmp dX5_walkerItem_41 ?_
            refine r_if_ne 71 dX5_walkerItem_42 (by decide) (fun c42 => ?_) (fun c42 => ?_)
            · exact absurd (q6.mpr hx) c42
            · refine r_aload_n dX5_walkerItem_45 rfl ?_
              refine r_iconst (v := nI 1) dX5_walkerItem_46 (by decide) ?_
              rw [show nI 1 = bI true from rfl]
              refine r_v1n (M_go hn hB h1) (Nat.le_of_ble_eq_true rfl) mrX5_must lkX5_223 rfl rfl rfl dX5_walkerItem_47 (Nat.le_of_ble_eq_true rfl) ?_
              refine r_aload_n dX5_walkerItem_50 rfl ?_
              refine r_iconst (v := nI 0) dX5_walkerItem_51 (by decide) ?_
              refine r_bipush (v := nI 99) dX5_walkerItem_52 (by decide) ?_
              refine r_v2n N9 (Nat.le_of_ble_eq_true rfl) mrX5_number lkX5_245 rfl rfl rfl dX5_walkerItem_54 (Nat.le_of_ble_eq_true rfl) ?_
              refine r_aload_n dX5_walkerItem_57 rfl ?_
              refine r_getfield dX5_walkerItem_58 gfX5_7 rfl rfl ?_
              refine r_iload_n dX5_walkerItem_61 rfl ?_
              refine r_iconst (v := nI 3) dX5_walkerItem_62 (by decide) ?_
              refine r_s2r M_spot (Nat.le_of_ble_eq_true rfl) mrX5_spot lkX5_42 dX5_walkerItem_63 (Nat.le_of_ble_eq_true rfl) ?_
              refine r_aload_n dX5_walkerItem_66 rfl ?_
              refine r_getfield dX5_walkerItem_67 gfX5_220 rfl rfl ?_
              refine r_iastN (h' := [_, _, _, _, _, _, _]) dX5_walkerItem_70 rfl (by omega) (Nat.le_of_ble_eq_true rfl) rfl ?_
              refine r_vret dX5_walkerItem_71 rfl ?_ ?_
              · rfl
              · exact ⟨_, nI (tE n T (nxt n T (nxt n T f))), v9, HE.rf, fun z => by cases z⟩
          · exact Bool.noConfusion c24
      | true =>
        have N9 := M_number_t (s := enc (addR R (nI (tk n T f)))) (ks := ks) (ot := ot) (as := as) (fl := fl) (kp := kp) (tc := tc) (v := v) hn hB h2 rfl (mo9_n (m := 99) (by decide)) (by decide) ho
        have e9 : itK n T f R = (true, nxt n T (nxt n T (nxt n T f)), sN (addR R (nI (tk n T f))) (upd (rN (addR R (nI (tk n T f)))) (cnt R) (nI (nv n T (nxt n T (nxt n T f)))))) := by rw [itK, if_pos hc, decide_eq_true hx, ho]
        rw [e9]
        refine r_aload_n dX5_walkerItem_0 rfl ?_
        refine r_aload_n dX5_walkerItem_1 rfl ?_
        refine r_getfield dX5_walkerItem_2 gfX5_7 rfl rfl ?_
        refine r_iconst (v := nI 1) dX5_walkerItem_5 (by decide) ?_
        refine r_ialdN dX5_walkerItem_6 rfl (by first | decide | omega) (Nat.le_of_ble_eq_true rfl) enc1 ?_
        refine r_bipush (v := nI 8) dX5_walkerItem_7 (by decide) ?_
        refine r_icmp_ge 16 dX5_walkerItem_9 (by decide) (fun c9 => ?_) (fun c9 => ?_)
        · exact absurd c9 (nI_ge hc (by decide))
        · refine r_iconst (v := nI 1) dX5_walkerItem_12 (by decide) ?_
          refine r_goto 17 dX5_walkerItem_13 (by decide) ?_
          rw [show nI 1 = bI true from rfl]
          refine r_v1n (M_go hn hB hf) (Nat.le_of_ble_eq_true rfl) mrX5_must lkX5_223 rfl rfl rfl dX5_walkerItem_17 (Nat.le_of_ble_eq_true rfl) ?_
          refine r_aload_n dX5_walkerItem_20 rfl ?_
          refine r_getfield dX5_walkerItem_21 gfX5_209 rfl rfl ?_
          refine r_if_eqB 28 dX5_walkerItem_24 (by decide) (fun c24 => ?_) (fun c24 => ?_)
          · refine r_aload_n dX5_walkerItem_28 rfl ?_
            refine r_iload_n dX5_walkerItem_29 rfl ?_
            refine r_v1r ((M_adds hc).pre rfl (Nat.le_of_ble_eq_true rfl)) (Nat.le_of_ble_eq_true rfl) mrX5_adds lkX5_111 rfl rfl rfl dX5_walkerItem_30 (Nat.le_of_ble_eq_true rfl) ?_
            refine r_istore_n (lv' := [_, _, _]) dX5_walkerItem_33 (by decide) rfl ?_
            refine r_aload_n dX5_walkerItem_34 rfl ?_
            refine r_v0r hW (Nat.le_of_ble_eq_true rfl) mrX5_word lkX5_227 rfl rfl rfl dX5_walkerItem_35 (Nat.le_of_ble_eq_true rfl) ?_
            refine r_ldc2 kX5_243 dX5_walkerItem_38 ?_
            refine r_lcmp dX5_walkerItem_41 ?_
            refine r_if_ne 71 dX5_walkerItem_42 (by decide) (fun c42 => ?_) (fun c42 => ?_)
            · exact absurd (q6.mpr hx) c42
            · refine r_aload_n dX5_walkerItem_45 rfl ?_
              refine r_iconst (v := nI 1) dX5_walkerItem_46 (by decide) ?_
              rw [show nI 1 = bI true from rfl]
              refine r_v1n (M_go hn hB h1) (Nat.le_of_ble_eq_true rfl) mrX5_must lkX5_223 rfl rfl rfl dX5_walkerItem_47 (Nat.le_of_ble_eq_true rfl) ?_
              refine r_aload_n dX5_walkerItem_50 rfl ?_
              refine r_iconst (v := nI 0) dX5_walkerItem_51 (by decide) ?_
              refine r_bipush (v := nI 99) dX5_walkerItem_52 (by decide) ?_
              refine r_v2n N9 (Nat.le_of_ble_eq_true rfl) mrX5_number lkX5_245 rfl rfl rfl dX5_walkerItem_54 (Nat.le_of_ble_eq_true rfl) ?_
              refine r_aload_n dX5_walkerItem_57 rfl ?_
              refine r_getfield dX5_walkerItem_58 gfX5_7 rfl rfl ?_
              refine r_iload_n dX5_walkerItem_61 rfl ?_
              refine r_iconst (v := nI 3) dX5_walkerItem_62 (by decide) ?_
              refine r_s2r M_spot (Nat.le_of_ble_eq_true rfl) mrX5_spot lkX5_42 dX5_walkerItem_63 (Nat.le_of_ble_eq_true rfl) ?_
              refine r_aload_n dX5_walkerItem_66 rfl ?_
              refine r_getfield dX5_walkerItem_67 gfX5_220 rfl rfl ?_
              refine r_iastN (h' := [_, _, _, _, _, _, _]) dX5_walkerItem_70 rfl (by omega) (Nat.le_of_ble_eq_true rfl) rfl ?_
              refine r_vret dX5_walkerItem_71 rfl ?_ ?_
              · rfl
              · exact ⟨_, nI (tE n T (nxt n T (nxt n T (nxt n T f)))), nI (nv n T (nxt n T (nxt n T f))), HE.rf, fun _ => ⟨encU3, rfl⟩⟩
          · exact Bool.noConfusion c24
    · have e9 : itK n T f R = (true, nxt n T f, addR R (nI (tk n T f))) := by rw [itK, if_pos hc, decide_eq_false hx]
      rw [e9]
      refine r_aload_n dX5_walkerItem_0 rfl ?_
      refine r_aload_n dX5_walkerItem_1 rfl ?_
      refine r_getfield dX5_walkerItem_2 gfX5_7 rfl rfl ?_
      refine r_iconst (v := nI 1) dX5_walkerItem_5 (by decide) ?_
      refine r_ialdN dX5_walkerItem_6 rfl (by first | decide | omega) (Nat.le_of_ble_eq_true rfl) enc1 ?_
      refine r_bipush (v := nI 8) dX5_walkerItem_7 (by decide) ?_
      refine r_icmp_ge 16 dX5_walkerItem_9 (by decide) (fun c9 => ?_) (fun c9 => ?_)
      · exact absurd c9 (nI_ge hc (by decide))
      · refine r_iconst (v := nI 1) dX5_walkerItem_12 (by decide) ?_
        refine r_goto 17 dX5_walkerItem_13 (by decide) ?_
        rw [show nI 1 = bI true from rfl]
        refine r_v1n (M_go hn hB hf) (Nat.le_of_ble_eq_true rfl) mrX5_must lkX5_223 rfl rfl rfl dX5_walkerItem_17 (Nat.le_of_ble_eq_true rfl) ?_
        refine r_aload_n dX5_walkerItem_20 rfl ?_
        refine r_getfield dX5_walkerItem_21 gfX5_209 rfl rfl ?_
        refine r_if_eqB 28 dX5_walkerItem_24 (by decide) (fun c24 => ?_) (fun c24 => ?_)
        · refine r_aload_n dX5_walkerItem_28 rfl ?_
          refine r_iload_n dX5_walkerItem_29 rfl ?_
          refine r_v1r ((M_adds hc).pre rfl (Nat.le_of_ble_eq_true rfl)) (Nat.le_of_ble_eq_true rfl) mrX5_adds lkX5_111 rfl rfl rfl dX5_walkerItem_30 (Nat.le_of_ble_eq_true rfl) ?_
          refine r_istore_n (lv' := [_, _, _]) dX5_walkerItem_33 (by decide) rfl ?_
          refine r_aload_n dX5_walkerItem_34 rfl ?_
          refine r_v0r hW (Nat.le_of_ble_eq_true rfl) mrX5_word lkX5_227 rfl rfl rfl dX5_walkerItem_35 (Nat.le_of_ble_eq_true rfl) ?_
          refine r_ldc2 kX5_243 dX5_walkerItem_38 ?_
          refine r_lcmp dX5_walkerItem_41 ?_
          refine r_if_ne 71 dX5_walkerItem_42 (by decide) (fun c42 => ?_) (fun c42 => ?_)
          · refine r_vret dX5_walkerItem_71 rfl ?_ ?_
            · rfl
            · exact ⟨_, nI (tE n T (nxt n T f)), v, HE.rf, fun _ => ⟨rfl, rfl⟩⟩
          · exact absurd (q6.mp c42) hx
        · exact Bool.noConfusion c24
  · have e9 : itK n T f R = (false, f, R) := by rw [itK, if_neg hc]
    rw [e9]
    refine r_aload_n dX5_walkerItem_0 rfl ?_
    refine r_aload_n dX5_walkerItem_1 rfl ?_
    refine r_getfield dX5_walkerItem_2 gfX5_7 rfl rfl ?_
    refine r_iconst (v := nI 1) dX5_walkerItem_5 (by decide) ?_
    refine r_ialdN dX5_walkerItem_6 rfl (by first | decide | omega) (Nat.le_of_ble_eq_true rfl) enc1 ?_
    refine r_bipush (v := nI 8) dX5_walkerItem_7 (by decide) ?_
    refine r_icmp_ge 16 dX5_walkerItem_9 (by decide) (fun c9 => ?_) (fun c9 => ?_)
    · refine r_iconst (v := nI 0) dX5_walkerItem_16 (by decide) ?_
      rw [show nI 0 = bI false from rfl]
      refine r_v1n (M_mustF (g := (nI n, nI f, nI (tE n T f), v, false))) (Nat.le_of_ble_eq_true rfl) mrX5_must lkX5_223 rfl rfl rfl dX5_walkerItem_17 (Nat.le_of_ble_eq_true rfl) ?_
      refine r_aload_n dX5_walkerItem_20 rfl ?_
      refine r_getfield dX5_walkerItem_21 gfX5_209 rfl rfl ?_
      refine r_if_eqB 28 dX5_walkerItem_24 (by decide) (fun c24 => ?_) (fun c24 => ?_)
      · exact Bool.noConfusion c24
      · refine r_vret dX5_walkerItem_27 rfl ?_ ?_
        · rfl
        · exact ⟨enc R, nI (tE n T f), v, HE.rf, fun z => by cases z⟩
    · exact absurd (nI_le (by omega) (by have := hw.1; omega)) c9
theorem hasB_nHr {n : Nat} {T : Nat → Nat} {f c : Nat} (hc : c ≤ 8) : hasB c (nHr n T f) = nOK n T f c := by
  rw [nHr]
  cases h : nOK n T f 8 with
  | true =>
    show hasB c (nI (nv n T f)) = _
    simp only [nOK, Bool.and_eq_true, decide_eq_true_eq] at h
    by_cases q : nv n T f < c
    · rw [hasB_n q (by omega), nOK, h.1, decide_eq_true q]; rfl
    · rw [hasB_f2 (nI_le (by omega) (by omega)), nOK, decide_eq_false q, Bool.and_false]
  | false =>
    show hasB c (-1) = _
    rw [hasB_f1 (by decide)]
    rw [nOK] at h ⊢
    cases hd : isNm n T f with
    | false => rw [Bool.false_and]
    | true =>
      rw [hd, Bool.true_and, decide_eq_false_iff_not] at h
      rw [Bool.true_and, decide_eq_false (by omega)]
theorem nHr_t {n : Nat} {T : Nat → Nat} {f c : Nat} (hc : c ≤ 8) (h : nOK n T f c = true) : nHr n T f = nI (nv n T f) ∧ nv n T f < c := by
  simp only [nOK, Bool.and_eq_true, decide_eq_true_eq] at h
  have e : nOK n T f 8 = true := by rw [nOK, h.1, decide_eq_true (by omega)]; rfl
  exact ⟨by rw [nHr, e], h.2⟩
theorem J_swap {R : RS} {ks ot as : Nat → Int32} {fl : Int32} {kp : Bool} {tc : Nat → Int32} {n : Nat} {T : Nat → Nat} {f : Nat} {v : Int32} (hn : n ≤ 120) (hB : ∀ i, T i < 256) (hf : f ≤ n) (hw : wfR R) : SpQ 5 mX5_swapItem [.ref 0] (hP (enc R) ks ot as fl kp tc (nI n, nI f, nI (tE n T f), v, false) T) none (qJ ks ot as fl kp tc n T (itS n T f R)) := by
  refine SpQ.of [some (.ref 0), none, none] mrX5_swapItem.1 (fun _ q => qJ_len q) (Nat.le_of_ble_eq_true rfl) rfl (fun X => ?_)
  have h1 := nxt_le n T f
  have h2 := nxt_le n T (nxt n T f)
  have hc := hw.1
  cases ha : nOK n T (nxt n T f) (cnt R) with
  | false =>
    have e9 : itS n T f R = (false, nxt n T f, R) := by rw [itS, ha]
    rw [e9]
    refine r_aload_n dX5_swapItem_0 rfl ?_
    refine r_iconst (v := nI 1) dX5_swapItem_1 (by decide) ?_
    rw [show nI 1 = bI true from rfl]
    refine r_v1n (M_go hn hB hf) (Nat.le_of_ble_eq_true rfl) mrX5_must lkX5_223 rfl rfl rfl dX5_swapItem_2 (Nat.le_of_ble_eq_true rfl) ?_
    refine r_aload_n dX5_swapItem_5 rfl ?_
    refine r_v0r (M_numberHere hn hB h1 rfl) (Nat.le_of_ble_eq_true rfl) mrX5_numberHere lkX5_248 rfl rfl rfl dX5_swapItem_6 (Nat.le_of_ble_eq_true rfl) ?_
    refine r_istore_n (lv' := [_, _, _]) dX5_swapItem_9 (by decide) rfl ?_
    refine r_aload_n dX5_swapItem_10 rfl ?_
    refine r_aload_n dX5_swapItem_11 rfl ?_
    refine r_iload_n dX5_swapItem_12 rfl ?_
    refine r_v1r ((M_isPlace hw.1).pre rfl (Nat.le_of_ble_eq_true rfl)) (Nat.le_of_ble_eq_true rfl) mrX5_isPlace lkX5_69 rfl rfl rfl dX5_swapItem_13 (Nat.le_of_ble_eq_true rfl) ?_
    rw [hasB_nHr hw.1, ha]
    refine r_v1n (M_mustF (g := (nI n, nI (nxt n T f), nI (tE n T (nxt n T f)), v, false))) (Nat.le_of_ble_eq_true rfl) mrX5_must lkX5_223 rfl rfl rfl dX5_swapItem_16 (Nat.le_of_ble_eq_true rfl) ?_
    refine r_aload_n dX5_swapItem_19 rfl ?_
    refine r_v0r (M_numberHere hn hB h1 rfl) (Nat.le_of_ble_eq_true rfl) mrX5_numberHere lkX5_248 rfl rfl rfl dX5_swapItem_20 (Nat.le_of_ble_eq_true rfl) ?_
    refine r_istore_n (lv' := [_, _, _]) dX5_swapItem_23 (by decide) rfl ?_
    refine r_aload_n dX5_swapItem_24 rfl ?_
    refine r_aload_n dX5_swapItem_25 rfl ?_
    refine r_iload_n dX5_swapItem_26 rfl ?_
    refine r_v1r ((M_isPlace hw.1).pre rfl (Nat.le_of_ble_eq_true rfl)) (Nat.le_of_ble_eq_true rfl) mrX5_isPlace lkX5_69 rfl rfl rfl dX5_swapItem_27 (Nat.le_of_ble_eq_true rfl) ?_
    rw [hasB_nHr hw.1, ha]
    refine r_if_eqB 42 dX5_swapItem_30 (by decide) (fun c30 => ?_) (fun c30 => ?_)
    · refine r_iconst (v := nI 0) dX5_swapItem_42 (by decide) ?_
      rw [show nI 0 = bI false from rfl]
      refine r_v1n M_mustW (Nat.le_of_ble_eq_true rfl) mrX5_must lkX5_223 rfl rfl rfl dX5_swapItem_43 (Nat.le_of_ble_eq_true rfl) ?_
      refine r_aload_n dX5_swapItem_46 rfl ?_
      refine r_getfield dX5_swapItem_47 gfX5_209 rfl rfl ?_
      refine r_if_neB 59 dX5_swapItem_50 (by decide) (fun c50 => ?_) (fun c50 => ?_)
      · refine r_vret dX5_swapItem_59 rfl ?_ ?_
        · rfl
        · exact ⟨enc R, nI (tE n T (nxt n T f)), v, HE.rf, fun z => by cases z⟩
      · exact Bool.noConfusion c50
    · exact Bool.noConfusion c30
  | true =>
    have e1 := nHr_t hc ha
    cases hb : nOK n T (nxt n T (nxt n T f)) (cnt R) with
    | false =>
      have e9 : itS n T f R = (false, nxt n T (nxt n T f), R) := by rw [itS, ha, hb, Bool.false_and]
      rw [e9]
      refine r_aload_n dX5_swapItem_0 rfl ?_
      refine r_iconst (v := nI 1) dX5_swapItem_1 (by decide) ?_
      rw [show nI 1 = bI true from rfl]
      refine r_v1n (M_go hn hB hf) (Nat.le_of_ble_eq_true rfl) mrX5_must lkX5_223 rfl rfl rfl dX5_swapItem_2 (Nat.le_of_ble_eq_true rfl) ?_
      refine r_aload_n dX5_swapItem_5 rfl ?_
      refine r_v0r (M_numberHere hn hB h1 rfl) (Nat.le_of_ble_eq_true rfl) mrX5_numberHere lkX5_248 rfl rfl rfl dX5_swapItem_6 (Nat.le_of_ble_eq_true rfl) ?_
      rw [e1.1]
      refine r_istore_n (lv' := [_, _, _]) dX5_swapItem_9 (by decide) rfl ?_
      refine r_aload_n dX5_swapItem_10 rfl ?_
      refine r_aload_n dX5_swapItem_11 rfl ?_
      refine r_iload_n dX5_swapItem_12 rfl ?_
      refine r_v1r ((M_isPlace hw.1).pre rfl (Nat.le_of_ble_eq_true rfl)) (Nat.le_of_ble_eq_true rfl) mrX5_isPlace lkX5_69 rfl rfl rfl dX5_swapItem_13 (Nat.le_of_ble_eq_true rfl) ?_
      rw [hasB_n e1.2 (by omega)]
      refine r_v1n (M_go hn hB h1) (Nat.le_of_ble_eq_true rfl) mrX5_must lkX5_223 rfl rfl rfl dX5_swapItem_16 (Nat.le_of_ble_eq_true rfl) ?_
      refine r_aload_n dX5_swapItem_19 rfl ?_
      refine r_v0r (M_numberHere hn hB h2 rfl) (Nat.le_of_ble_eq_true rfl) mrX5_numberHere lkX5_248 rfl rfl rfl dX5_swapItem_20 (Nat.le_of_ble_eq_true rfl) ?_
      refine r_istore_n (lv' := [_, _, _]) dX5_swapItem_23 (by decide) rfl ?_
      refine r_aload_n dX5_swapItem_24 rfl ?_
      refine r_aload_n dX5_swapItem_25 rfl ?_
      refine r_iload_n dX5_swapItem_26 rfl ?_
      refine r_v1r ((M_isPlace hw.1).pre rfl (Nat.le_of_ble_eq_true rfl)) (Nat.le_of_ble_eq_true rfl) mrX5_isPlace lkX5_69 rfl rfl rfl dX5_swapItem_27 (Nat.le_of_ble_eq_true rfl) ?_
      rw [hasB_nHr hw.1, hb]
      refine r_if_eqB 42 dX5_swapItem_30 (by decide) (fun c30 => ?_) (fun c30 => ?_)
      · refine r_iconst (v := nI 0) dX5_swapItem_42 (by decide) ?_
        rw [show nI 0 = bI false from rfl]
        refine r_v1n (M_mustF (g := (nI n, nI (nxt n T (nxt n T f)), nI (tE n T (nxt n T (nxt n T f))), v, false))) (Nat.le_of_ble_eq_true rfl) mrX5_must lkX5_223 rfl rfl rfl dX5_swapItem_43 (Nat.le_of_ble_eq_true rfl) ?_
        refine r_aload_n dX5_swapItem_46 rfl ?_
        refine r_getfield dX5_swapItem_47 gfX5_209 rfl rfl ?_
        refine r_if_neB 59 dX5_swapItem_50 (by decide) (fun c50 => ?_) (fun c50 => ?_)
        · refine r_vret dX5_swapItem_59 rfl ?_ ?_
          · rfl
          · exact ⟨enc R, nI (tE n T (nxt n T (nxt n T f))), v, HE.rf, fun z => by cases z⟩
        · exact Bool.noConfusion c50
      · exact Bool.noConfusion c30
    | true =>
      have e2 := nHr_t hc hb
      by_cases hq : nv n T (nxt n T (nxt n T f)) = nv n T (nxt n T f)
      · have e9 : itS n T f R = (false, nxt n T (nxt n T f), R) := by rw [itS, ha, hb, decide_eq_true hq, Bool.not_true, Bool.and_false]
        rw [e9]
        refine r_aload_n dX5_swapItem_0 rfl ?_
        refine r_iconst (v := nI 1) dX5_swapItem_1 (by decide) ?_
        rw [show nI 1 = bI true from rfl]
        refine r_v1n (M_go hn hB hf) (Nat.le_of_ble_eq_true rfl) mrX5_must lkX5_223 rfl rfl rfl dX5_swapItem_2 (Nat.le_of_ble_eq_true rfl) ?_
        refine r_aload_n dX5_swapItem_5 rfl ?_
        refine r_v0r (M_numberHere hn hB h1 rfl) (Nat.le_of_ble_eq_true rfl) mrX5_numberHere lkX5_248 rfl rfl rfl dX5_swapItem_6 (Nat.le_of_ble_eq_true rfl) ?_
        rw [e1.1]
        refine r_istore_n (lv' := [_, _, _]) dX5_swapItem_9 (by decide) rfl ?_
        refine r_aload_n dX5_swapItem_10 rfl ?_
        refine r_aload_n dX5_swapItem_11 rfl ?_
        refine r_iload_n dX5_swapItem_12 rfl ?_
        refine r_v1r ((M_isPlace hw.1).pre rfl (Nat.le_of_ble_eq_true rfl)) (Nat.le_of_ble_eq_true rfl) mrX5_isPlace lkX5_69 rfl rfl rfl dX5_swapItem_13 (Nat.le_of_ble_eq_true rfl) ?_
        rw [hasB_n e1.2 (by omega)]
        refine r_v1n (M_go hn hB h1) (Nat.le_of_ble_eq_true rfl) mrX5_must lkX5_223 rfl rfl rfl dX5_swapItem_16 (Nat.le_of_ble_eq_true rfl) ?_
        refine r_aload_n dX5_swapItem_19 rfl ?_
        refine r_v0r (M_numberHere hn hB h2 rfl) (Nat.le_of_ble_eq_true rfl) mrX5_numberHere lkX5_248 rfl rfl rfl dX5_swapItem_20 (Nat.le_of_ble_eq_true rfl) ?_
        rw [e2.1]
        refine r_istore_n (lv' := [_, _, _]) dX5_swapItem_23 (by decide) rfl ?_
        refine r_aload_n dX5_swapItem_24 rfl ?_
        refine r_aload_n dX5_swapItem_25 rfl ?_
        refine r_iload_n dX5_swapItem_26 rfl ?_
        refine r_v1r ((M_isPlace hw.1).pre rfl (Nat.le_of_ble_eq_true rfl)) (Nat.le_of_ble_eq_true rfl) mrX5_isPlace lkX5_69 rfl rfl rfl dX5_swapItem_27 (Nat.le_of_ble_eq_true rfl) ?_
        rw [hasB_n e2.2 (by omega)]
        refine r_if_eqB 42 dX5_swapItem_30 (by decide) (fun c30 => ?_) (fun c30 => ?_)
        · exact Bool.noConfusion c30
        · refine r_iload_n dX5_swapItem_33 rfl ?_
          refine r_iload_n dX5_swapItem_34 rfl ?_
          refine r_icmp_eq 42 dX5_swapItem_35 (by decide) (fun c35 => ?_) (fun c35 => ?_)
          · refine r_iconst (v := nI 0) dX5_swapItem_42 (by decide) ?_
            rw [show nI 0 = bI false from rfl]
            refine r_v1n (M_mustF (g := (nI n, nI (nxt n T (nxt n T f)), nI (tE n T (nxt n T (nxt n T f))), v, false))) (Nat.le_of_ble_eq_true rfl) mrX5_must lkX5_223 rfl rfl rfl dX5_swapItem_43 (Nat.le_of_ble_eq_true rfl) ?_
            refine r_aload_n dX5_swapItem_46 rfl ?_
            refine r_getfield dX5_swapItem_47 gfX5_209 rfl rfl ?_
            refine r_if_neB 59 dX5_swapItem_50 (by decide) (fun c50 => ?_) (fun c50 => ?_)
            · refine r_vret dX5_swapItem_59 rfl ?_ ?_
              · rfl
              · exact ⟨enc R, nI (tE n T (nxt n T (nxt n T f))), v, HE.rf, fun z => by cases z⟩
            · exact Bool.noConfusion c50
          · exact absurd (by rw [hq]) c35
      · have e9 : itS n T f R = (true, nxt n T (nxt n T (nxt n T f)), swR R (nv n T (nxt n T f)) (nv n T (nxt n T (nxt n T f)))) := by rw [itS, ha, hb, decide_eq_false hq, Bool.not_false, Bool.and_true]
        rw [e9]
        refine r_aload_n dX5_swapItem_0 rfl ?_
        refine r_iconst (v := nI 1) dX5_swapItem_1 (by decide) ?_
        rw [show nI 1 = bI true from rfl]
        refine r_v1n (M_go hn hB hf) (Nat.le_of_ble_eq_true rfl) mrX5_must lkX5_223 rfl rfl rfl dX5_swapItem_2 (Nat.le_of_ble_eq_true rfl) ?_
        refine r_aload_n dX5_swapItem_5 rfl ?_
        refine r_v0r (M_numberHere hn hB h1 rfl) (Nat.le_of_ble_eq_true rfl) mrX5_numberHere lkX5_248 rfl rfl rfl dX5_swapItem_6 (Nat.le_of_ble_eq_true rfl) ?_
        rw [e1.1]
        refine r_istore_n (lv' := [_, _, _]) dX5_swapItem_9 (by decide) rfl ?_
        refine r_aload_n dX5_swapItem_10 rfl ?_
        refine r_aload_n dX5_swapItem_11 rfl ?_
        refine r_iload_n dX5_swapItem_12 rfl ?_
        refine r_v1r ((M_isPlace hw.1).pre rfl (Nat.le_of_ble_eq_true rfl)) (Nat.le_of_ble_eq_true rfl) mrX5_isPlace lkX5_69 rfl rfl rfl dX5_swapItem_13 (Nat.le_of_ble_eq_true rfl) ?_
        rw [hasB_n e1.2 (by omega)]
        refine r_v1n (M_go hn hB h1) (Nat.le_of_ble_eq_true rfl) mrX5_must lkX5_223 rfl rfl rfl dX5_swapItem_16 (Nat.le_of_ble_eq_true rfl) ?_
        refine r_aload_n dX5_swapItem_19 rfl ?_
        refine r_v0r (M_numberHere hn hB h2 rfl) (Nat.le_of_ble_eq_true rfl) mrX5_numberHere lkX5_248 rfl rfl rfl dX5_swapItem_20 (Nat.le_of_ble_eq_true rfl) ?_
        rw [e2.1]
        refine r_istore_n (lv' := [_, _, _]) dX5_swapItem_23 (by decide) rfl ?_
        refine r_aload_n dX5_swapItem_24 rfl ?_
        refine r_aload_n dX5_swapItem_25 rfl ?_
        refine r_iload_n dX5_swapItem_26 rfl ?_
        refine r_v1r ((M_isPlace hw.1).pre rfl (Nat.le_of_ble_eq_true rfl)) (Nat.le_of_ble_eq_true rfl) mrX5_isPlace lkX5_69 rfl rfl rfl dX5_swapItem_27 (Nat.le_of_ble_eq_true rfl) ?_
        rw [hasB_n e2.2 (by omega)]
        refine r_if_eqB 42 dX5_swapItem_30 (by decide) (fun c30 => ?_) (fun c30 => ?_)
        · exact Bool.noConfusion c30
        · refine r_iload_n dX5_swapItem_33 rfl ?_
          refine r_iload_n dX5_swapItem_34 rfl ?_
          refine r_icmp_eq 42 dX5_swapItem_35 (by decide) (fun c35 => ?_) (fun c35 => ?_)
          · exact absurd ((nI_eq (by omega) (by omega)).mp c35) hq
          · refine r_iconst (v := nI 1) dX5_swapItem_38 (by decide) ?_
            refine r_goto 43 dX5_swapItem_39 (by decide) ?_
            rw [show nI 1 = bI true from rfl]
            refine r_v1n (M_go hn hB h2) (Nat.le_of_ble_eq_true rfl) mrX5_must lkX5_223 rfl rfl rfl dX5_swapItem_43 (Nat.le_of_ble_eq_true rfl) ?_
            refine r_aload_n dX5_swapItem_46 rfl ?_
            refine r_getfield dX5_swapItem_47 gfX5_209 rfl rfl ?_
            refine r_if_neB 59 dX5_swapItem_50 (by decide) (fun c50 => ?_) (fun c50 => ?_)
            · exact Bool.noConfusion c50
            · refine r_aload_n dX5_swapItem_53 rfl ?_
              refine r_iload_n dX5_swapItem_54 rfl ?_
              refine r_iload_n dX5_swapItem_55 rfl ?_
              refine r_v2n ((M_swaps (by omega) (by omega)).pre rfl (Nat.le_of_ble_eq_true rfl)) (Nat.le_of_ble_eq_true rfl) mrX5_swaps lkX5_125 rfl rfl rfl dX5_swapItem_56 (Nat.le_of_ble_eq_true rfl) ?_
              refine r_vret dX5_swapItem_59 rfl ?_ ?_
              · rfl
              · exact ⟨_, nI (tE n T (nxt n T (nxt n T (nxt n T f)))), v, HE.rf, fun _ => ⟨rfl, rfl⟩⟩
theorem J_item {R : RS} {ks ot as : Nat → Int32} {fl : Int32} {kp : Bool} {tc : Nat → Int32} {n : Nat} {T : Nat → Nat} {f : Nat} {v : Int32} (hn : n ≤ 120) (hB : ∀ i, T i < 256) (hf : f ≤ n) (hw : wfR R) : SpQ 6 mX5_item [.ref 0] (hP (enc R) ks ot as fl kp tc (nI n, nI f, nI (tE n T f), v, false) T) none (qJ ks ot as fl kp tc n T (itm n T f R)) := by
  refine SpQ.of [some (.ref 0), none, none, none] mrX5_item.1 (fun _ q => qJ_len q) (Nat.le_of_ble_eq_true rfl) rfl (fun X => ?_)
  obtain ⟨W, hW, kW⟩ := M_word (s := enc R) (ks := ks) (ot := ot) (as := as) (fl := fl) (kp := kp) (tc := tc) (v := v) (fr := f) hn hB rfl hf
  have q7 : lg_cmp W 605684 = 0 ↔ tk n T f = 7 := cmp_0.trans (kW 7 (by decide))
  have q8 : lg_cmp W 3544114 = 0 ↔ tk n T f = 8 := cmp_0.trans (kW 8 (by decide))
  have q9 : lg_cmp W 12933797454 = 0 ↔ tk n T f = 9 := cmp_0.trans (kW 9 (by decide))
  have q10 : lg_cmp W 86285588 = 0 ↔ tk n T f = 10 := cmp_0.trans (kW 10 (by decide))
  have q11 : lg_cmp W 646192 = 0 ↔ tk n T f = 11 := cmp_0.trans (kW 11 (by decide))
  by_cases h5 : tk n T f ≤ 5
  · have e9 : itm n T f R = itK n T f R := by rw [itm, if_pos h5]
    rw [e9]
    refine r_aload_n dX5_item_0 rfl ?_
    refine r_v0r (M_kindHere hn hB rfl hf) (Nat.le_of_ble_eq_true rfl) mrX5_kindHere lkX5_251 rfl rfl rfl dX5_item_1 (Nat.le_of_ble_eq_true rfl) ?_
    rw [if_pos h5]
    refine r_istore_n (lv' := [_, _, _, _]) dX5_item_4 (by decide) rfl ?_
    refine r_aload_n dX5_item_5 rfl ?_
    refine r_v0r hW (Nat.le_of_ble_eq_true rfl) mrX5_word lkX5_227 rfl rfl rfl dX5_item_6 (Nat.le_of_ble_eq_true rfl) ?_
    refine r_lstore_n (lv' := [_, _, _, _]) dX5_item_9 (by decide) rfl ?_
    refine r_iload_n dX5_item_10 rfl ?_
    refine r_if_lt 22 dX5_item_11 (by decide) (fun c11 => ?_) (fun c11 => ?_)
    · exact absurd c11 (nI_pos (by omega))
    · refine r_aload_n dX5_item_14 rfl ?_
      refine r_iload_n dX5_item_15 rfl ?_
      refine r_v1nq (J_walker hn hB hf hw h5) (Nat.le_of_ble_eq_true rfl) mrX5_walkerItem lkX5_254 rfl rfl rfl dX5_item_16 (Nat.le_of_ble_eq_true rfl) (fun h9 _ g9 => ?_)
      refine r_goto 120 dX5_item_19 (by decide) ?_
      refine r_vret dX5_item_120 rfl ?_ ?_
      · rfl
      · exact g9
  · refine r_aload_n dX5_item_0 rfl ?_
    refine r_v0r (M_kindHere hn hB rfl hf) (Nat.le_of_ble_eq_true rfl) mrX5_kindHere lkX5_251 rfl rfl rfl dX5_item_1 (Nat.le_of_ble_eq_true rfl) ?_
    rw [if_neg h5]
    refine r_istore_n (lv' := [_, _, _, _]) dX5_item_4 (by decide) rfl ?_
    refine r_aload_n dX5_item_5 rfl ?_
    refine r_v0r hW (Nat.le_of_ble_eq_true rfl) mrX5_word lkX5_227 rfl rfl rfl dX5_item_6 (Nat.le_of_ble_eq_true rfl) ?_
    refine r_lstore_n (lv' := [_, _, _, _]) dX5_item_9 (by decide) rfl ?_
    refine r_iload_n dX5_item_10 rfl ?_
    refine r_if_lt 22 dX5_item_11 (by decide) (fun c11 => ?_) (fun c11 => ?_)
    · refine r_lload_n dX5_item_22 rfl ?_
      refine r_ldc2 kX5_257 dX5_item_23 ?_
      refine r_lcmp dX5_item_26 ?_
      refine r_if_eq 38 dX5_item_27 (by decide) (fun c27 => ?_) (fun c27 => ?_)
      · refine r_aload_n dX5_item_38 rfl ?_
        refine r_lload_n dX5_item_39 rfl ?_
        refine r_ldc2 kX5_257 dX5_item_40 ?_
        refine r_lcmp dX5_item_43 ?_
        refine r_if_ne 51 dX5_item_44 (by decide) (fun c44 => ?_) (fun c44 => ?_)
        · refine r_iconst (v := nI 0) dX5_item_51 (by decide) ?_
          first
          | (rw [show nI 1 = bI true from rfl]; refine r_v1nq (J_root (t := true) hn hB hf hw) (Nat.le_of_ble_eq_true rfl) mrX5_rootItem lkX5_261 rfl rfl rfl dX5_item_52 (Nat.le_of_ble_eq_true rfl) (fun h9 _ g9 => ?_))
          | (rw [show nI 0 = bI false from rfl]; refine r_v1nq (J_root (t := false) hn hB hf hw) (Nat.le_of_ble_eq_true rfl) mrX5_rootItem lkX5_261 rfl rfl rfl dX5_item_52 (Nat.le_of_ble_eq_true rfl) (fun h9 _ g9 => ?_))
          refine r_goto 120 dX5_item_55 (by decide) ?_
          refine r_vret dX5_item_120 rfl ?_ ?_
          · rfl
          · first
            | exact absurd c27 c44
            | exact absurd c44 c27
            | (rw [itm, if_neg h5, if_pos (q7.mp c27)]; exact g9)
            | (rw [itm, if_neg h5, if_neg (fun z => c27 (q7.mpr z)), if_pos (q8.mp c35)]; exact g9)
            | (rw [itm, if_neg h5, if_neg (fun z => c27 (q7.mpr z)), if_neg (fun z => c35 (q8.mpr z)), if_pos (q9.mp c63)]; exact g9)
            | (rw [itm, if_neg h5, if_neg (fun z => c27 (q7.mpr z)), if_neg (fun z => c35 (q8.mpr z)), if_neg (fun z => c63 (q9.mpr z)), if_pos (q10.mp c87)]; exact g9)
            | (rw [itm, if_neg h5, if_neg (fun z => c27 (q7.mpr z)), if_neg (fun z => c35 (q8.mpr z)), if_neg (fun z => c63 (q9.mpr z)), if_neg (fun z => c87 (q10.mpr z)), if_pos (q11.mp c105)]; exact g9)
            | (rw [itm, if_neg h5, if_neg (fun z => c27 (q7.mpr z)), if_neg (fun z => c35 (q8.mpr z)), if_neg (fun z => c63 (q9.mpr z)), if_neg (fun z => c87 (q10.mpr z)), if_neg (fun z => c105 (q11.mpr z))]; exact ⟨enc R, nI (tE n T f), v, HE.rf, fun z => by cases z⟩)
        · refine r_iconst (v := nI 1) dX5_item_47 (by decide) ?_
          refine r_goto 52 dX5_item_48 (by decide) ?_
          first
          | (rw [show nI 1 = bI true from rfl]; refine r_v1nq (J_root (t := true) hn hB hf hw) (Nat.le_of_ble_eq_true rfl) mrX5_rootItem lkX5_261 rfl rfl rfl dX5_item_52 (Nat.le_of_ble_eq_true rfl) (fun h9 _ g9 => ?_))
          | (rw [show nI 0 = bI false from rfl]; refine r_v1nq (J_root (t := false) hn hB hf hw) (Nat.le_of_ble_eq_true rfl) mrX5_rootItem lkX5_261 rfl rfl rfl dX5_item_52 (Nat.le_of_ble_eq_true rfl) (fun h9 _ g9 => ?_))
          refine r_goto 120 dX5_item_55 (by decide) ?_
          refine r_vret dX5_item_120 rfl ?_ ?_
          · rfl
          · first
            | exact absurd c27 c44
            | exact absurd c44 c27
            | (rw [itm, if_neg h5, if_pos (q7.mp c27)]; exact g9)
            | (rw [itm, if_neg h5, if_neg (fun z => c27 (q7.mpr z)), if_pos (q8.mp c35)]; exact g9)
            | (rw [itm, if_neg h5, if_neg (fun z => c27 (q7.mpr z)), if_neg (fun z => c35 (q8.mpr z)), if_pos (q9.mp c63)]; exact g9)
            | (rw [itm, if_neg h5, if_neg (fun z => c27 (q7.mpr z)), if_neg (fun z => c35 (q8.mpr z)), if_neg (fun z => c63 (q9.mpr z)), if_pos (q10.mp c87)]; exact g9)
            | (rw [itm, if_neg h5, if_neg (fun z => c27 (q7.mpr z)), if_neg (fun z => c35 (q8.mpr z)), if_neg (fun z => c63 (q9.mpr z)), if_neg (fun z => c87 (q10.mpr z)), if_pos (q11.mp c105)]; exact g9)
            | (rw [itm, if_neg h5, if_neg (fun z => c27 (q7.mpr z)), if_neg (fun z => c35 (q8.mpr z)), if_neg (fun z => c63 (q9.mpr z)), if_neg (fun z => c87 (q10.mpr z)), if_neg (fun z => c105 (q11.mpr z))]; exact ⟨enc R, nI (tE n T f), v, HE.rf, fun z => by cases z⟩)
      · refine r_lload_n dX5_item_30 rfl ?_
        refine r_ldc2 kX5_259 dX5_item_31 ?_
        refine r_lcmp dX5_item_34 ?_
        refine r_if_ne 58 dX5_item_35 (by decide) (fun c35 => ?_) (fun c35 => ?_)
        · refine r_lload_n dX5_item_58 rfl ?_
          refine r_ldc2 kX5_264 dX5_item_59 ?_
          refine r_lcmp dX5_item_62 ?_
          refine r_if_ne 82 dX5_item_63 (by decide) (fun c63 => ?_) (fun c63 => ?_)
          · refine r_lload_n dX5_item_82 rfl ?_
            refine r_ldc2 kX5_269 dX5_item_83 ?_
            refine r_lcmp dX5_item_86 ?_
            refine r_if_ne 100 dX5_item_87 (by decide) (fun c87 => ?_) (fun c87 => ?_)
            · refine r_lload_n dX5_item_100 rfl ?_
              refine r_ldc2 kX5_271 dX5_item_101 ?_
              refine r_lcmp dX5_item_104 ?_
              refine r_if_ne 115 dX5_item_105 (by decide) (fun c105 => ?_) (fun c105 => ?_)
              · refine r_aload_n dX5_item_115 rfl ?_
                refine r_iconst (v := nI 0) dX5_item_116 (by decide) ?_
                rw [show nI 0 = bI false from rfl]
                refine r_v1n (M_mustF (g := (nI n, nI f, nI (tE n T f), v, false))) (Nat.le_of_ble_eq_true rfl) mrX5_must lkX5_223 rfl rfl rfl dX5_item_117 (Nat.le_of_ble_eq_true rfl) ?_
                refine r_vret dX5_item_120 rfl ?_ ?_
                · rfl
                · first
                  | exact absurd c27 c44
                  | exact absurd c44 c27
                  | (rw [itm, if_neg h5, if_pos (q7.mp c27)]; exact g9)
                  | (rw [itm, if_neg h5, if_neg (fun z => c27 (q7.mpr z)), if_pos (q8.mp c35)]; exact g9)
                  | (rw [itm, if_neg h5, if_neg (fun z => c27 (q7.mpr z)), if_neg (fun z => c35 (q8.mpr z)), if_pos (q9.mp c63)]; exact g9)
                  | (rw [itm, if_neg h5, if_neg (fun z => c27 (q7.mpr z)), if_neg (fun z => c35 (q8.mpr z)), if_neg (fun z => c63 (q9.mpr z)), if_pos (q10.mp c87)]; exact g9)
                  | (rw [itm, if_neg h5, if_neg (fun z => c27 (q7.mpr z)), if_neg (fun z => c35 (q8.mpr z)), if_neg (fun z => c63 (q9.mpr z)), if_neg (fun z => c87 (q10.mpr z)), if_pos (q11.mp c105)]; exact g9)
                  | (rw [itm, if_neg h5, if_neg (fun z => c27 (q7.mpr z)), if_neg (fun z => c35 (q8.mpr z)), if_neg (fun z => c63 (q9.mpr z)), if_neg (fun z => c87 (q10.mpr z)), if_neg (fun z => c105 (q11.mpr z))]; exact ⟨enc R, nI (tE n T f), v, HE.rf, fun z => by cases z⟩)
              · refine r_aload_n dX5_item_108 rfl ?_
                refine r_v0nq (J_swap hn hB hf hw) (Nat.le_of_ble_eq_true rfl) mrX5_swapItem lkX5_273 rfl rfl rfl dX5_item_109 (Nat.le_of_ble_eq_true rfl) (fun h9 _ g9 => ?_)
                refine r_goto 120 dX5_item_112 (by decide) ?_
                refine r_vret dX5_item_120 rfl ?_ ?_
                · rfl
                · first
                  | exact absurd c27 c44
                  | exact absurd c44 c27
                  | (rw [itm, if_neg h5, if_pos (q7.mp c27)]; exact g9)
                  | (rw [itm, if_neg h5, if_neg (fun z => c27 (q7.mpr z)), if_pos (q8.mp c35)]; exact g9)
                  | (rw [itm, if_neg h5, if_neg (fun z => c27 (q7.mpr z)), if_neg (fun z => c35 (q8.mpr z)), if_pos (q9.mp c63)]; exact g9)
                  | (rw [itm, if_neg h5, if_neg (fun z => c27 (q7.mpr z)), if_neg (fun z => c35 (q8.mpr z)), if_neg (fun z => c63 (q9.mpr z)), if_pos (q10.mp c87)]; exact g9)
                  | (rw [itm, if_neg h5, if_neg (fun z => c27 (q7.mpr z)), if_neg (fun z => c35 (q8.mpr z)), if_neg (fun z => c63 (q9.mpr z)), if_neg (fun z => c87 (q10.mpr z)), if_pos (q11.mp c105)]; exact g9)
                  | (rw [itm, if_neg h5, if_neg (fun z => c27 (q7.mpr z)), if_neg (fun z => c35 (q8.mpr z)), if_neg (fun z => c63 (q9.mpr z)), if_neg (fun z => c87 (q10.mpr z)), if_neg (fun z => c105 (q11.mpr z))]; exact ⟨enc R, nI (tE n T f), v, HE.rf, fun z => by cases z⟩)
            · refine r_aload_n dX5_item_90 rfl ?_
              refine r_iconst (v := nI 4) dX5_item_91 (by decide) ?_
              refine r_bipush (v := nI 9) dX5_item_92 (by decide) ?_
              refine r_v2nq (J_bright hn hB hf hw) (Nat.le_of_ble_eq_true rfl) mrX5_toldItem lkX5_266 rfl rfl rfl dX5_item_94 (Nat.le_of_ble_eq_true rfl) (fun h9 _ g9 => ?_)
              refine r_goto 120 dX5_item_97 (by decide) ?_
              refine r_vret dX5_item_120 rfl ?_ ?_
              · rfl
              · first
                | exact absurd c27 c44
                | exact absurd c44 c27
                | (rw [itm, if_neg h5, if_pos (q7.mp c27)]; exact g9)
                | (rw [itm, if_neg h5, if_neg (fun z => c27 (q7.mpr z)), if_pos (q8.mp c35)]; exact g9)
                | (rw [itm, if_neg h5, if_neg (fun z => c27 (q7.mpr z)), if_neg (fun z => c35 (q8.mpr z)), if_pos (q9.mp c63)]; exact g9)
                | (rw [itm, if_neg h5, if_neg (fun z => c27 (q7.mpr z)), if_neg (fun z => c35 (q8.mpr z)), if_neg (fun z => c63 (q9.mpr z)), if_pos (q10.mp c87)]; exact g9)
                | (rw [itm, if_neg h5, if_neg (fun z => c27 (q7.mpr z)), if_neg (fun z => c35 (q8.mpr z)), if_neg (fun z => c63 (q9.mpr z)), if_neg (fun z => c87 (q10.mpr z)), if_pos (q11.mp c105)]; exact g9)
                | (rw [itm, if_neg h5, if_neg (fun z => c27 (q7.mpr z)), if_neg (fun z => c35 (q8.mpr z)), if_neg (fun z => c63 (q9.mpr z)), if_neg (fun z => c87 (q10.mpr z)), if_neg (fun z => c105 (q11.mpr z))]; exact ⟨enc R, nI (tE n T f), v, HE.rf, fun z => by cases z⟩)
          · refine r_aload_n dX5_item_66 rfl ?_
            refine r_iconst (v := nI 3) dX5_item_67 (by decide) ?_
            refine r_aload_n dX5_item_68 rfl ?_
            refine r_getfield dX5_item_69 gfX5_7 rfl rfl ?_
            refine r_iconst (v := nI 1) dX5_item_72 (by decide) ?_
            refine r_ialdN dX5_item_73 rfl (by first | decide | omega) (Nat.le_of_ble_eq_true rfl) enc1 ?_
            refine r_iconst (v := nI 1) dX5_item_74 (by decide) ?_
            refine r_isub dX5_item_75 ?_
            refine r_v2nq (J_lantern hn hB hf hw) (Nat.le_of_ble_eq_true rfl) mrX5_toldItem lkX5_266 rfl rfl rfl dX5_item_76 (Nat.le_of_ble_eq_true rfl) (fun h9 _ g9 => ?_)
            refine r_goto 120 dX5_item_79 (by decide) ?_
            refine r_vret dX5_item_120 rfl ?_ ?_
            · rfl
            · first
              | exact absurd c27 c44
              | exact absurd c44 c27
              | (rw [itm, if_neg h5, if_pos (q7.mp c27)]; exact g9)
              | (rw [itm, if_neg h5, if_neg (fun z => c27 (q7.mpr z)), if_pos (q8.mp c35)]; exact g9)
              | (rw [itm, if_neg h5, if_neg (fun z => c27 (q7.mpr z)), if_neg (fun z => c35 (q8.mpr z)), if_pos (q9.mp c63)]; exact g9)
              | (rw [itm, if_neg h5, if_neg (fun z => c27 (q7.mpr z)), if_neg (fun z => c35 (q8.mpr z)), if_neg (fun z => c63 (q9.mpr z)), if_pos (q10.mp c87)]; exact g9)
              | (rw [itm, if_neg h5, if_neg (fun z => c27 (q7.mpr z)), if_neg (fun z => c35 (q8.mpr z)), if_neg (fun z => c63 (q9.mpr z)), if_neg (fun z => c87 (q10.mpr z)), if_pos (q11.mp c105)]; exact g9)
              | (rw [itm, if_neg h5, if_neg (fun z => c27 (q7.mpr z)), if_neg (fun z => c35 (q8.mpr z)), if_neg (fun z => c63 (q9.mpr z)), if_neg (fun z => c87 (q10.mpr z)), if_neg (fun z => c105 (q11.mpr z))]; exact ⟨enc R, nI (tE n T f), v, HE.rf, fun z => by cases z⟩)
        · refine r_aload_n dX5_item_38 rfl ?_
          refine r_lload_n dX5_item_39 rfl ?_
          refine r_ldc2 kX5_257 dX5_item_40 ?_
          refine r_lcmp dX5_item_43 ?_
          refine r_if_ne 51 dX5_item_44 (by decide) (fun c44 => ?_) (fun c44 => ?_)
          · refine r_iconst (v := nI 0) dX5_item_51 (by decide) ?_
            first
            | (rw [show nI 1 = bI true from rfl]; refine r_v1nq (J_root (t := true) hn hB hf hw) (Nat.le_of_ble_eq_true rfl) mrX5_rootItem lkX5_261 rfl rfl rfl dX5_item_52 (Nat.le_of_ble_eq_true rfl) (fun h9 _ g9 => ?_))
            | (rw [show nI 0 = bI false from rfl]; refine r_v1nq (J_root (t := false) hn hB hf hw) (Nat.le_of_ble_eq_true rfl) mrX5_rootItem lkX5_261 rfl rfl rfl dX5_item_52 (Nat.le_of_ble_eq_true rfl) (fun h9 _ g9 => ?_))
            refine r_goto 120 dX5_item_55 (by decide) ?_
            refine r_vret dX5_item_120 rfl ?_ ?_
            · rfl
            · first
              | exact absurd c27 c44
              | exact absurd c44 c27
              | (rw [itm, if_neg h5, if_pos (q7.mp c27)]; exact g9)
              | (rw [itm, if_neg h5, if_neg (fun z => c27 (q7.mpr z)), if_pos (q8.mp c35)]; exact g9)
              | (rw [itm, if_neg h5, if_neg (fun z => c27 (q7.mpr z)), if_neg (fun z => c35 (q8.mpr z)), if_pos (q9.mp c63)]; exact g9)
              | (rw [itm, if_neg h5, if_neg (fun z => c27 (q7.mpr z)), if_neg (fun z => c35 (q8.mpr z)), if_neg (fun z => c63 (q9.mpr z)), if_pos (q10.mp c87)]; exact g9)
              | (rw [itm, if_neg h5, if_neg (fun z => c27 (q7.mpr z)), if_neg (fun z => c35 (q8.mpr z)), if_neg (fun z => c63 (q9.mpr z)), if_neg (fun z => c87 (q10.mpr z)), if_pos (q11.mp c105)]; exact g9)
              | (rw [itm, if_neg h5, if_neg (fun z => c27 (q7.mpr z)), if_neg (fun z => c35 (q8.mpr z)), if_neg (fun z => c63 (q9.mpr z)), if_neg (fun z => c87 (q10.mpr z)), if_neg (fun z => c105 (q11.mpr z))]; exact ⟨enc R, nI (tE n T f), v, HE.rf, fun z => by cases z⟩)
          · refine r_iconst (v := nI 1) dX5_item_47 (by decide) ?_
            refine r_goto 52 dX5_item_48 (by decide) ?_
            first
            | (rw [show nI 1 = bI true from rfl]; refine r_v1nq (J_root (t := true) hn hB hf hw) (Nat.le_of_ble_eq_true rfl) mrX5_rootItem lkX5_261 rfl rfl rfl dX5_item_52 (Nat.le_of_ble_eq_true rfl) (fun h9 _ g9 => ?_))
            | (rw [show nI 0 = bI false from rfl]; refine r_v1nq (J_root (t := false) hn hB hf hw) (Nat.le_of_ble_eq_true rfl) mrX5_rootItem lkX5_261 rfl rfl rfl dX5_item_52 (Nat.le_of_ble_eq_true rfl) (fun h9 _ g9 => ?_))
            refine r_goto 120 dX5_item_55 (by decide) ?_
            refine r_vret dX5_item_120 rfl ?_ ?_
            · rfl
            · first
              | exact absurd c27 c44
              | exact absurd c44 c27
              | (rw [itm, if_neg h5, if_pos (q7.mp c27)]; exact g9)
              | (rw [itm, if_neg h5, if_neg (fun z => c27 (q7.mpr z)), if_pos (q8.mp c35)]; exact g9)
              | (rw [itm, if_neg h5, if_neg (fun z => c27 (q7.mpr z)), if_neg (fun z => c35 (q8.mpr z)), if_pos (q9.mp c63)]; exact g9)
              | (rw [itm, if_neg h5, if_neg (fun z => c27 (q7.mpr z)), if_neg (fun z => c35 (q8.mpr z)), if_neg (fun z => c63 (q9.mpr z)), if_pos (q10.mp c87)]; exact g9)
              | (rw [itm, if_neg h5, if_neg (fun z => c27 (q7.mpr z)), if_neg (fun z => c35 (q8.mpr z)), if_neg (fun z => c63 (q9.mpr z)), if_neg (fun z => c87 (q10.mpr z)), if_pos (q11.mp c105)]; exact g9)
              | (rw [itm, if_neg h5, if_neg (fun z => c27 (q7.mpr z)), if_neg (fun z => c35 (q8.mpr z)), if_neg (fun z => c63 (q9.mpr z)), if_neg (fun z => c87 (q10.mpr z)), if_neg (fun z => c105 (q11.mpr z))]; exact ⟨enc R, nI (tE n T f), v, HE.rf, fun z => by cases z⟩)
    · exact absurd (by decide) c11

