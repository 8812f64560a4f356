/-! the reference: the items of a night -/
/-- an item was read: the next token stands, or the fault's place -/
def qJ (ks ot as : Nat → Int32) (fl : Int32) (kp : Bool) (tc : Nat → Int32) (n : Nat) (T : Nat → Nat) (r : Bool × Nat × RS) (h : AH) : Prop := ∃ (s : Nat → Int32) (to v : Int32), HE h (hP s ks ot as fl kp tc (nI n, nI r.2.1, to, v, !r.1) T) ∧ (r.1 = true → s = enc r.2.2 ∧ to = nI (tE n T r.2.1))
theorem qJ_len {ks ot as : Nat → Int32} {fl : Int32} {kp : Bool} {tc : Nat → Int32} {n : Nat} {T : Nat → Nat} {r : Bool × Nat × RS} {h' : AH} (q : qJ ks ot as fl kp tc n T r h') : h'.length = 7 := by
  obtain ⟨_, _, _, q, _⟩ := q
  exact q.len.symm
theorem mo9_n {m : Nat} (hm : m < 2 ^ 30) : ∀ v, v ≤ 9999 → (nI v ≤ nI m ↔ v < m + 1) := fun v hv => by rw [nI_leI (by omega) (by omega)]; omega
theorem mo9_p {m : Nat} (hm : m ≤ 8) : ∀ v, v ≤ 9999 → (nI v ≤ nI m - nI 1 ↔ v < m) := fun v hv => by
  cases m with
  | zero => exact ⟨fun z => absurd (Int32.lt_of_le_of_lt z (by decide)) (nI_pos (by omega)), fun z => by omega⟩
  | succ m => rw [pk_sub (by omega), nI_leI (by omega) (by omega)]; omega
/-- the next token is gone to -/
theorem M_go {s ks ot as : Nat → Int32} {fl : Int32} {kp : Bool} {tc : Nat → Int32} {n : Nat} {T : Nat → Nat} {f : Nat} {v : Int32} (hn : n ≤ 120) (hB : ∀ i, T i < 256) (hf : f ≤ n) : Sp 3 mX5_must [.ref 0, .int (bI true)] (hP s ks ot as fl kp tc (nI n, nI f, nI (tE n T f), v, false) T) none (hP s ks ot as fl kp tc (nI n, nI (nxt n T f), nI (tE n T (nxt n T f)), v, false) T) := by
  have e := M_mustT (s := s) (ks := ks) (ot := ot) (as := as) (fl := fl) (kp := kp) (tc := tc) (fr := f) (v := v) hn hB (tE_le n T f)
  rwa [sk_tE hf] at e
theorem J_root {R : RS} {ks ot as : Nat → Int32} {fl : Int32} {kp : Bool} {tc : Nat → Int32} {n : Nat} {T : Nat → Nat} {f : Nat} {v : Int32} {t : Bool} (hn : n ≤ 120) (hB : ∀ i, T i < 256) (hf : f ≤ n) (hw : wfR R) : SpQ 5 mX5_rootItem [.ref 0, .int (bI t)] (hP (enc R) ks ot as fl kp tc (nI n, nI f, nI (tE n T f), v, false) T) none (qJ ks ot as fl kp tc n T (itR n T f R t)) := by
  refine SpQ.of [some (.ref 0), some (.int (bI t)), none] mrX5_rootItem.1 (fun _ q => qJ_len q) (Nat.le_of_ble_eq_true rfl) rfl (fun X => ?_)
  have h1 := nxt_le n T f
  cases ho : nOK n T (nxt n T f) 30 with
  | false =>
    obtain ⟨v9, N9⟩ := M_number_f (s := enc R) (ks := ks) (ot := ot) (as := as) (fl := fl) (kp := kp) (tc := tc) (v := v) hn hB h1 rfl (mo9_n (m := 29) (by decide)) (by decide) ho
    have e9 : itR n T f R t = (false, nxt n T f, R) := by rw [itR, ho]
    rw [e9]
    refine r_aload_n dX5_rootItem_0 rfl ?_
    refine r_iconst (v := nI 1) dX5_rootItem_1 (by decide) ?_
    rw [show nI 1 = bI true from rfl]
    refine r_v1n (M_go hn hB hf) (Nat.le_of_ble_eq_true rfl) mrX5_must lkX5_223 rfl rfl rfl dX5_rootItem_2 (Nat.le_of_ble_eq_true rfl) ?_
    refine r_aload_n dX5_rootItem_5 rfl ?_
    refine r_iconst (v := nI 0) dX5_rootItem_6 (by decide) ?_
    refine r_bipush (v := nI 29) dX5_rootItem_7 (by decide) ?_
    refine r_v2n N9 (Nat.le_of_ble_eq_true rfl) mrX5_number lkX5_245 rfl rfl rfl dX5_rootItem_9 (Nat.le_of_ble_eq_true rfl) ?_
    refine r_iconst (v := nI 1) dX5_rootItem_12 (by decide) ?_
    refine r_aload_n dX5_rootItem_13 rfl ?_
    refine r_getfield dX5_rootItem_14 gfX5_220 rfl rfl ?_
    refine r_ishl dX5_rootItem_17 ?_
    refine r_istore_n (lv' := [_, _, _]) dX5_rootItem_18 (by decide) rfl ?_
    refine r_aload_n dX5_rootItem_19 rfl ?_
    refine r_getfield dX5_rootItem_20 gfX5_209 rfl rfl ?_
    refine r_if_neB 57 dX5_rootItem_23 (by decide) (fun c23 => ?_) (fun c23 => ?_)
    · refine r_vret dX5_rootItem_57 rfl ?_ ?_
      · rfl
      · exact ⟨enc R, nI (tE n T (nxt n T f)), v9, HE.rf, fun z => by cases z⟩
    · exact Bool.noConfusion c23
  | true =>
    have N9 := M_number_t (s := enc R) (ks := ks) (ot := ot) (as := as) (fl := fl) (kp := kp) (tc := tc) (v := v) hn hB h1 rfl (mo9_n (m := 29) (by decide)) (by decide) ho
    have e9 : itR n T f R t = (true, nxt n T (nxt n T f), sR R (setR (rR R) (nI (nv n T (nxt n T f))) t)) := by rw [itR, ho]
    rw [e9]
    refine r_aload_n dX5_rootItem_0 rfl ?_
    refine r_iconst (v := nI 1) dX5_rootItem_1 (by decide) ?_
    rw [show nI 1 = bI true from rfl]
    refine r_v1n (M_go hn hB hf) (Nat.le_of_ble_eq_true rfl) mrX5_must lkX5_223 rfl rfl rfl dX5_rootItem_2 (Nat.le_of_ble_eq_true rfl) ?_
    refine r_aload_n dX5_rootItem_5 rfl ?_
    refine r_iconst (v := nI 0) dX5_rootItem_6 (by decide) ?_
    refine r_bipush (v := nI 29) dX5_rootItem_7 (by decide) ?_
    refine r_v2n N9 (Nat.le_of_ble_eq_true rfl) mrX5_number lkX5_245 rfl rfl rfl dX5_rootItem_9 (Nat.le_of_ble_eq_true rfl) ?_
    refine r_iconst (v := nI 1) dX5_rootItem_12 (by decide) ?_
    refine r_aload_n dX5_rootItem_13 rfl ?_
    refine r_getfield dX5_rootItem_14 gfX5_220 rfl rfl ?_
    refine r_ishl dX5_rootItem_17 ?_
    refine r_istore_n (lv' := [_, _, _]) dX5_rootItem_18 (by decide) rfl ?_
    refine r_aload_n dX5_rootItem_19 rfl ?_
    refine r_getfield dX5_rootItem_20 gfX5_209 rfl rfl ?_
    refine r_if_neB 57 dX5_rootItem_23 (by decide) (fun c23 => ?_) (fun c23 => ?_)
    · exact Bool.noConfusion c23
    · refine r_aload_n dX5_rootItem_26 rfl ?_
      refine r_getfield dX5_rootItem_27 gfX5_7 rfl rfl ?_
      refine r_iconst (v := nI 2) dX5_rootItem_30 (by decide) ?_
      refine r_iload_n dX5_rootItem_31 rfl ?_
      refine r_if_eqB 46 dX5_rootItem_32 (by decide) (fun c32 => ?_) (fun c32 => ?_)
      · refine r_aload_n dX5_rootItem_46 rfl ?_
        refine r_getfield dX5_rootItem_47 gfX5_7 rfl rfl ?_
        refine r_iconst (v := nI 2) dX5_rootItem_50 (by decide) ?_
        refine r_ialdN dX5_rootItem_51 rfl (by first | decide | omega) (Nat.le_of_ble_eq_true rfl) enc2 ?_
        refine r_iload_n dX5_rootItem_52 rfl ?_
        refine r_iconst (v := (-1)) dX5_rootItem_53 (by decide) ?_
        refine r_ixor dX5_rootItem_54 ?_
        refine r_iand dX5_rootItem_55 ?_
        refine r_iastN (h' := [_, _, _, _, _, _, _]) dX5_rootItem_56 rfl (by first | decide | omega) (Nat.le_of_ble_eq_true rfl) rfl ?_
        try simp only [encU0, encU1, encU2, encU3, encA0, encA2, encA3, encA4]
        refine r_vret dX5_rootItem_57 rfl ?_ ?_
        · rfl
        · subst c32
          exact ⟨_, nI (tE n T (nxt n T (nxt n T f))), nI (nv n T (nxt n T f)), HE.rf, fun _ => ⟨rfl, rfl⟩⟩
      · refine r_aload_n dX5_rootItem_35 rfl ?_
        refine r_getfield dX5_rootItem_36 gfX5_7 rfl rfl ?_
        refine r_iconst (v := nI 2) dX5_rootItem_39 (by decide) ?_
        refine r_ialdN dX5_rootItem_40 rfl (by first | decide | omega) (Nat.le_of_ble_eq_true rfl) enc2 ?_
        refine r_iload_n dX5_rootItem_41 rfl ?_
        refine r_ior dX5_rootItem_42 ?_
        refine r_goto 56 dX5_rootItem_43 (by decide) ?_
        refine r_iastN (h' := [_, _, _, _, _, _, _]) dX5_rootItem_56 rfl (by first | decide | omega) (Nat.le_of_ble_eq_true rfl) rfl ?_
        try simp only [encU0, encU1, encU2, encU3, encA0, encA2, encA3, encA4]
        refine r_vret dX5_rootItem_57 rfl ?_ ?_
        · rfl
        · subst c32
          exact ⟨_, nI (tE n T (nxt n T (nxt n T f))), nI (nv n T (nxt n T f)), HE.rf, fun _ => ⟨rfl, rfl⟩⟩
theorem J_lantern {R : RS} {ks ot as : Nat → Int32} {fl : Int32} {kp : Bool} {tc : Nat → Int32} {n : Nat} {T : Nat → Nat} {f : Nat} {v : Int32} (hn : n ≤ 120) (hB : ∀ i, T i < 256) (hf : f ≤ n) (hw : wfR R) : SpQ 5 mX5_toldItem [.ref 0, .int (nI 3), .int (nI (cnt R) - nI 1)] (hP (enc R) ks ot as fl kp tc (nI n, nI f, nI (tE n T f), v, false) T) none (qJ ks ot as fl kp tc n T (itL n T f R)) := by
  refine SpQ.of [some (.ref 0), some (.int (nI 3)), some (.int (nI (cnt R) - nI 1))] mrX5_toldItem.1 (fun _ q => qJ_len q) (Nat.le_of_ble_eq_true rfl) rfl (fun X => ?_)
  have h1 := nxt_le n T f
  have hc := hw.1
  cases ho : nOK n T (nxt n T f) (cnt R) with
  | false =>
    obtain ⟨v9, N9⟩ := M_number_f (s := enc R) (ks := ks) (ot := ot) (as := as) (fl := fl) (kp := kp) (tc := tc) (v := v) hn hB h1 rfl (mo9_p hc) (by omega) ho
    have e9 : itL n T f R = (false, nxt n T f, R) := by rw [itL, ho]
    rw [e9]
    refine r_aload_n dX5_toldItem_0 rfl ?_
    refine r_iconst (v := nI 1) dX5_toldItem_1 (by decide) ?_
    rw [show nI 1 = bI true from rfl]
    refine r_v1n (M_go hn hB hf) (Nat.le_of_ble_eq_true rfl) mrX5_must lkX5_223 rfl rfl rfl dX5_toldItem_2 (Nat.le_of_ble_eq_true rfl) ?_
    try rw [show bI true = nI 1 from rfl]
    refine r_aload_n dX5_toldItem_5 rfl ?_
    refine r_iconst (v := nI 0) dX5_toldItem_6 (by decide) ?_
    refine r_iload_n dX5_toldItem_7 rfl ?_
    refine r_v2n N9 (Nat.le_of_ble_eq_true rfl) mrX5_number lkX5_245 rfl rfl rfl dX5_toldItem_8 (Nat.le_of_ble_eq_true rfl) ?_
    refine r_aload_n dX5_toldItem_11 rfl ?_
    refine r_getfield dX5_toldItem_12 gfX5_7 rfl rfl ?_
    refine r_iload_n dX5_toldItem_15 rfl ?_
    refine r_aload_n dX5_toldItem_16 rfl ?_
    refine r_getfield dX5_toldItem_17 gfX5_209 rfl rfl ?_
    refine r_if_eqB 32 dX5_toldItem_20 (by decide) (fun c20 => ?_) (fun c20 => ?_)
    · exact Bool.noConfusion c20
    · refine r_aload_n dX5_toldItem_23 rfl ?_
      refine r_getfield dX5_toldItem_24 gfX5_7 rfl rfl ?_
      refine r_iload_n dX5_toldItem_27 rfl ?_
      refine r_ialdN dX5_toldItem_28 rfl (by first | decide | omega) (Nat.le_of_ble_eq_true rfl) rfl ?_
      refine r_goto 36 dX5_toldItem_29 (by decide) ?_
      refine r_iastN (h' := [_, _, _, _, _, _, _]) dX5_toldItem_36 rfl (by first | decide | omega) (Nat.le_of_ble_eq_true rfl) rfl ?_
      refine r_vret dX5_toldItem_37 rfl ?_ ?_
      · rfl
      · exact ⟨_, nI (tE n T (nxt n T f)), v9, HE.rf, fun z => by cases z⟩
  | true =>
    have N9 := M_number_t (s := enc R) (ks := ks) (ot := ot) (as := as) (fl := fl) (kp := kp) (tc := tc) (v := v) hn hB h1 rfl (mo9_p hc) (by omega) ho
    have e9 : itL n T f R = (true, nxt n T (nxt n T f), sL R (nI (nv n T (nxt n T f)))) := by rw [itL, ho]
    rw [e9]
    refine r_aload_n dX5_toldItem_0 rfl ?_
    refine r_iconst (v := nI 1) dX5_toldItem_1 (by decide) ?_
    rw [show nI 1 = bI true from rfl]
    refine r_v1n (M_go hn hB hf) (Nat.le_of_ble_eq_true rfl) mrX5_must lkX5_223 rfl rfl rfl dX5_toldItem_2 (Nat.le_of_ble_eq_true rfl) ?_
    try rw [show bI true = nI 1 from rfl]
    refine r_aload_n dX5_toldItem_5 rfl ?_
    refine r_iconst (v := nI 0) dX5_toldItem_6 (by decide) ?_
    refine r_iload_n dX5_toldItem_7 rfl ?_
    refine r_v2n N9 (Nat.le_of_ble_eq_true rfl) mrX5_number lkX5_245 rfl rfl rfl dX5_toldItem_8 (Nat.le_of_ble_eq_true rfl) ?_
    refine r_aload_n dX5_toldItem_11 rfl ?_
    refine r_getfield dX5_toldItem_12 gfX5_7 rfl rfl ?_
    refine r_iload_n dX5_toldItem_15 rfl ?_
    refine r_aload_n dX5_toldItem_16 rfl ?_
    refine r_getfield dX5_toldItem_17 gfX5_209 rfl rfl ?_
    refine r_if_eqB 32 dX5_toldItem_20 (by decide) (fun c20 => ?_) (fun c20 => ?_)
    · refine r_aload_n dX5_toldItem_32 rfl ?_
      refine r_getfield dX5_toldItem_33 gfX5_220 rfl rfl ?_
      refine r_iastN (h' := [_, _, _, _, _, _, _]) dX5_toldItem_36 rfl (by first | decide | omega) (Nat.le_of_ble_eq_true rfl) rfl ?_
      refine r_vret dX5_toldItem_37 rfl ?_ ?_
      · rfl
      · exact ⟨_, nI (tE n T (nxt n T (nxt n T f))), nI (nv n T (nxt n T f)), HE.rf, fun _ => ⟨encA3, rfl⟩⟩
    · exact Bool.noConfusion c20
theorem J_bright {R : RS} {ks ot as : Nat → Int32} {fl : Int32} {kp : Bool} {tc : Nat → Int32} {n : Nat} {T : Nat → Nat} {f : Nat} {v : Int32} (hn : n ≤ 120) (hB : ∀ i, T i < 256) (hf : f ≤ n) (hw : wfR R) : SpQ 5 mX5_toldItem [.ref 0, .int (nI 4), .int (nI 9)] (hP (enc R) ks ot as fl kp tc (nI n, nI f, nI (tE n T f), v, false) T) none (qJ ks ot as fl kp tc n T (itB n T f R)) := by
  refine SpQ.of [some (.ref 0), some (.int (nI 4)), some (.int (nI 9))] mrX5_toldItem.1 (fun _ q => qJ_len q) (Nat.le_of_ble_eq_true rfl) rfl (fun X => ?_)
  have h1 := nxt_le n T f
  cases ho : nOK n T (nxt n T f) 10 with
  | false =>
    obtain ⟨v9, N9⟩ := M_number_f (s := enc R) (ks := ks) (ot := ot) (as := as) (fl := fl) (kp := kp) (tc := tc) (v := v) hn hB h1 rfl (mo9_n (m := 9) (by decide)) (by decide) ho
    have e9 : itB n T f R = (false, nxt n T f, R) := by rw [itB, ho]
    rw [e9]
    refine r_aload_n dX5_toldItem_0 rfl ?_
    refine r_iconst (v := nI 1) dX5_toldItem_1 (by decide) ?_
    rw [show nI 1 = bI true from rfl]
    refine r_v1n (M_go hn hB hf) (Nat.le_of_ble_eq_true rfl) mrX5_must lkX5_223 rfl rfl rfl dX5_toldItem_2 (Nat.le_of_ble_eq_true rfl) ?_
    try rw [show bI true = nI 1 from rfl]
    refine r_aload_n dX5_toldItem_5 rfl ?_
    refine r_iconst (v := nI 0) dX5_toldItem_6 (by decide) ?_
    refine r_iload_n dX5_toldItem_7 rfl ?_
    refine r_v2n N9 (Nat.le_of_ble_eq_true rfl) mrX5_number lkX5_245 rfl rfl rfl dX5_toldItem_8 (Nat.le_of_ble_eq_true rfl) ?_
    refine r_aload_n dX5_toldItem_11 rfl ?_
    refine r_getfield dX5_toldItem_12 gfX5_7 rfl rfl ?_
    refine r_iload_n dX5_toldItem_15 rfl ?_
    refine r_aload_n dX5_toldItem_16 rfl ?_
    refine r_getfield dX5_toldItem_17 gfX5_209 rfl rfl ?_
    refine r_if_eqB 32 dX5_toldItem_20 (by decide) (fun c20 => ?_) (fun c20 => ?_)
    · exact Bool.noConfusion c20
    · refine r_aload_n dX5_toldItem_23 rfl ?_
      refine r_getfield dX5_toldItem_24 gfX5_7 rfl rfl ?_
      refine r_iload_n dX5_toldItem_27 rfl ?_
      refine r_ialdN dX5_toldItem_28 rfl (by first | decide | omega) (Nat.le_of_ble_eq_true rfl) rfl ?_
      refine r_goto 36 dX5_toldItem_29 (by decide) ?_
      refine r_iastN (h' := [_, _, _, _, _, _, _]) dX5_toldItem_36 rfl (by first | decide | omega) (Nat.le_of_ble_eq_true rfl) rfl ?_
      refine r_vret dX5_toldItem_37 rfl ?_ ?_
      · rfl
      · exact ⟨_, nI (tE n T (nxt n T f)), v9, HE.rf, fun z => by cases z⟩
  | true =>
    have N9 := M_number_t (s := enc R) (ks := ks) (ot := ot) (as := as) (fl := fl) (kp := kp) (tc := tc) (v := v) hn hB h1 rfl (mo9_n (m := 9) (by decide)) (by decide) ho
    have e9 : itB n T f R = (true, nxt n T (nxt n T f), sB R (nI (nv n T (nxt n T f)))) := by rw [itB, ho]
    rw [e9]
    refine r_aload_n dX5_toldItem_0 rfl ?_
    refine r_iconst (v := nI 1) dX5_toldItem_1 (by decide) ?_
    rw [show nI 1 = bI true from rfl]
    refine r_v1n (M_go hn hB hf) (Nat.le_of_ble_eq_true rfl) mrX5_must lkX5_223 rfl rfl rfl dX5_toldItem_2 (Nat.le_of_ble_eq_true rfl) ?_
    try rw [show bI true = nI 1 from rfl]
    refine r_aload_n dX5_toldItem_5 rfl ?_
    refine r_iconst (v := nI 0) dX5_toldItem_6 (by decide) ?_
    refine r_iload_n dX5_toldItem_7 rfl ?_
    refine r_v2n N9 (Nat.le_of_ble_eq_true rfl) mrX5_number lkX5_245 rfl rfl rfl dX5_toldItem_8 (Nat.le_of_ble_eq_true rfl) ?_
    refine r_aload_n dX5_toldItem_11 rfl ?_
    refine r_getfield dX5_toldItem_12 gfX5_7 rfl rfl ?_
    refine r_iload_n dX5_toldItem_15 rfl ?_
    refine r_aload_n dX5_toldItem_16 rfl ?_
    refine r_getfield dX5_toldItem_17 gfX5_209 rfl rfl ?_
    refine r_if_eqB 32 dX5_toldItem_20 (by decide) (fun c20 => ?_) (fun c20 => ?_)
    · refine r_aload_n dX5_toldItem_32 rfl ?_
      refine r_getfield dX5_toldItem_33 gfX5_220 rfl rfl ?_
      refine r_iastN (h' := [_, _, _, _, _, _, _]) dX5_toldItem_36 rfl (by first | decide | omega) (Nat.le_of_ble_eq_true rfl) rfl ?_
      refine r_vret dX5_toldItem_37 rfl ?_ ?_
      · rfl
      · exact ⟨_, nI (tE n T (nxt n T (nxt n T f))), nI (nv n T (nxt n T f)), HE.rf, fun _ => ⟨encA4, rfl⟩⟩
    · exact Bool.noConfusion c20

