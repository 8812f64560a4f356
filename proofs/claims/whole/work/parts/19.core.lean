/-! the class: its core (the three Rows, the findings told), and its calls on them -/
abbrev rowAt (o : Nat) (R : RS) (fl : Int32) : AE := .inr (1, [.int (rT R), .int (rR R), .int (rL R), .int (rB R), .int (nI (cnt R)), .ref (o + 1), .ref (o + 2), .ref (o + 3), .ref (o + 4), .int fl])
abbrev arr8 (f : Nat → Int32) : AE := .inl (0, 8, .inl f)
abbrev hC (R A K : RS) (f1 f2 f3 : Int32) (kp : Bool) (tc : Nat → Int32) : AH := [.inr (4, [.ref 1, .ref 6, .ref 11, .int (bI kp), .ref 19, .ref 20, .ref 16]),
  .inr (1, [.int (rT R), .int (rR R), .int (rL R), .int (rB R), .int (nI (cnt R)), .ref 2, .ref 3, .ref 4, .ref 5, .int f1]), .inl (0, 8, .inl (rK R)), .inl (0, 8, .inl (rH R)), .inl (0, 8, .inl (rS R)), .inl (0, 8, .inl (rN R)),
  .inr (1, [.int (rT A), .int (rR A), .int (rL A), .int (rB A), .int (nI (cnt A)), .ref 7, .ref 8, .ref 9, .ref 10, .int f2]), .inl (0, 8, .inl (rK A)), .inl (0, 8, .inl (rH A)), .inl (0, 8, .inl (rS A)), .inl (0, 8, .inl (rN A)),
  .inr (1, [.int (rT K), .int (rR K), .int (rL K), .int (rB K), .int (nI (cnt K)), .ref 12, .ref 13, .ref 14, .ref 15, .int f3]), .inl (0, 8, .inl (rK K)), .inl (0, 8, .inl (rH K)), .inl (0, 8, .inl (rS K)), .inl (0, 8, .inl (rN K)), .inl (0, 7, .inl tc)]
/-- the core stands so; the row ahead and what fell last are anything -/
def qC (c : CS) (h : AH) : Prop := ∃ (A : RS) (f1 f2 f3 : Int32), HE h (hC c.1 A c.2.1 f1 f2 f3 c.2.2.1 c.2.2.2)
theorem qC_len {c : CS} {h' : AH} (q : qC c h') : h'.length = 17 := by
  obtain ⟨A, f1, f2, f3, q⟩ := q
  exact q.len.symm
/-! the Row's methods, of the row and of the row ahead -/
theorem C_has {R A K : RS} {f1 f2 f3 : Int32} {kp : Bool} {tc : Nat → Int32} {x : Int32} : Sp 0 mX1_has [.ref 1, .int x] (hC R A K f1 f2 f3 kp tc) (some (.int (bI (hasB (cnt R) x)))) (hC R A K f1 f2 f3 kp tc) := S_X1_has.frame [1, 2, 3, 4, 5] rfl (by decide) rfl rfl rfl rfl
theorem C_isFull {R A K : RS} {f1 f2 f3 : Int32} {kp : Bool} {tc : Nat → Int32} : Sp 0 mX1_isFull [.ref 1] (hC R A K f1 f2 f3 kp tc) (some (.int (bI (decide (nI 8 ≤ nI (cnt R)))))) (hC R A K f1 f2 f3 kp tc) := S_X1_isFull.frame [1, 2, 3, 4, 5] rfl (by decide) rfl rfl rfl rfl
theorem C_add {R A K : RS} {f1 f2 f3 : Int32} {kp : Bool} {tc : Nat → Int32} {k : Int32} (hn : cnt R < 8) : Sp 1 mX1_add [.ref 1, .int k] (hC R A K f1 f2 f3 kp tc) none (hC (addR R k) A K f1 f2 f3 kp tc) := (S_X1_add hn).frame [1, 2, 3, 4, 5] rfl (by decide) rfl rfl rfl rfl
theorem C_exch1 {R A K : RS} {f1 f2 f3 : Int32} {kp : Bool} {tc : Nat → Int32} {p o : Nat} (hn : cnt R ≤ 8) (hp : p < cnt R) (ho : o < cnt R) : Sp 1 mX1_exchange [.ref 1, .int (nI p), .int (nI o)] (hC R A K f1 f2 f3 kp tc) none (hC (swR R p o) A K f1 f2 f3 kp tc) := (S_X1_exchange hn hp ho).frame [1, 2, 3, 4, 5] rfl (by decide) rfl rfl rfl rfl
theorem C_exch6 {R A K : RS} {f1 f2 f3 : Int32} {kp : Bool} {tc : Nat → Int32} {p o : Nat} (hn : cnt A ≤ 8) (hp : p < cnt A) (ho : o < cnt A) : Sp 1 mX1_exchange [.ref 6, .int (nI p), .int (nI o)] (hC R A K f1 f2 f3 kp tc) none (hC R (swR A p o) K f1 f2 f3 kp tc) := (S_X1_exchange hn hp ho).frame [6, 7, 8, 9, 10] rfl (by decide) rfl rfl rfl rfl
theorem C_setRoot6 {R A K : RS} {f1 f2 f3 : Int32} {kp : Bool} {tc : Nat → Int32} {x : Int32} {b : Bool} : Sp 0 mX1_setRoot [.ref 6, .int x, .int (bI b)] (hC R A K f1 f2 f3 kp tc) none (hC R (sR A (setR (rR A) x b)) K f1 f2 f3 kp tc) := S_X1_setRoot.frame [6, 7, 8, 9, 10] rfl (by decide) rfl rfl rfl rfl
theorem C_paceOf {R A K : RS} {f1 f2 f3 : Int32} {kp : Bool} {tc : Nat → Int32} {x : Int32} : Sp 1 mX1_paceOf [.ref 1, .int x] (hC R A K f1 f2 f3 kp tc) (some (.int (pcO (rT R) x))) (hC R A K f1 f2 f3 kp tc) := S_X1_paceOf.frame [1, 2, 3, 4, 5] rfl (by decide) rfl rfl rfl rfl
theorem C_litSet {R A K : RS} {f1 f2 f3 : Int32} {kp : Bool} {tc : Nat → Int32} (hn : cnt R ≤ 8) : Sp 1 mX1_litSet [.ref 1] (hC R A K f1 f2 f3 kp tc) (some (.int (litS (rL R) (rB R) (cnt R) (rK R)))) (hC R A K f1 f2 f3 kp tc) := (S_X1_litSet hn).frame [1, 2, 3, 4, 5] rfl (by decide) rfl rfl rfl rfl
theorem C_atRootSet {R A K : RS} {f1 f2 f3 : Int32} {kp : Bool} {tc : Nat → Int32} (hn : cnt R ≤ 8) : Sp 2 mX1_atRootSet [.ref 1] (hC R A K f1 f2 f3 kp tc) (some (.int (setOf (atR (rT R) (rR R)) (cnt R)))) (hC R A K f1 f2 f3 kp tc) := (S_X1_atRootSet hn).frame [1, 2, 3, 4, 5] rfl (by decide) rfl rfl rfl rfl
theorem C_heardSet {R A K : RS} {f1 f2 f3 : Int32} {kp : Bool} {tc : Nat → Int32} (hn : cnt R ≤ 8) : Sp 0 mX1_heardSet [.ref 1] (hC R A K f1 f2 f3 kp tc) (some (.int (hrdS (rH R) (cnt R)))) (hC R A K f1 f2 f3 kp tc) := (S_X1_heardSet hn).frame [1, 2, 3, 4, 5] rfl (by decide) rfl rfl rfl rfl
theorem C_allSt1 {R A K : RS} {f1 f2 f3 : Int32} {kp : Bool} {tc : Nat → Int32} (hn : cnt R ≤ 8) : Sp 0 mX1_allStumbled [.ref 1] (hC R A K f1 f2 f3 kp tc) (some (.int (sumF (rS R) (cnt R)))) (hC R A K f1 f2 f3 kp tc) := (S_X1_allStumbled hn).frame [1, 2, 3, 4, 5] rfl (by decide) rfl rfl rfl rfl
theorem C_allSt6 {R A K : RS} {f1 f2 f3 : Int32} {kp : Bool} {tc : Nat → Int32} (hn : cnt A ≤ 8) : Sp 0 mX1_allStumbled [.ref 6] (hC R A K f1 f2 f3 kp tc) (some (.int (sumF (rS A) (cnt A)))) (hC R A K f1 f2 f3 kp tc) := (S_X1_allStumbled hn).frame [6, 7, 8, 9, 10] rfl (by decide) rfl rfl rfl rfl
theorem C_allNv {R A K : RS} {f1 f2 f3 : Int32} {kp : Bool} {tc : Nat → Int32} (hn : cnt R ≤ 8) : Sp 0 mX1_allNerve [.ref 1] (hC R A K f1 f2 f3 kp tc) (some (.int (sumF (rN R) (cnt R)))) (hC R A K f1 f2 f3 kp tc) := (S_X1_allNerve hn).frame [1, 2, 3, 4, 5] rfl (by decide) rfl rfl rfl rfl
theorem C_seeingSet {R A K : RS} {f1 f2 f3 : Int32} {kp : Bool} {tc : Nat → Int32} (hn : cnt R ≤ 8) : Sp 2 mX1_seeingSet [.ref 1] (hC R A K f1 f2 f3 kp tc) (some (.int (setOf (seeG (rT R) (rL R) (rB R) (cnt R) (rK R)) (cnt R)))) (hC R A K f1 f2 f3 kp tc) := (S_X1_seeingSet hn).frame [1, 2, 3, 4, 5] rfl (by decide) rfl rfl rfl rfl
theorem C_heeds {R A K : RS} {f1 f2 f3 : Int32} {kp : Bool} {tc : Nat → Int32} {p : Nat} (hp : p < 8) : Sp 0 mX1_heeds [.ref 1, .int (nI p)] (hC R A K f1 f2 f3 kp tc) (some (.int (bI (heedF (rK R p) (rN R p))))) (hC R A K f1 f2 f3 kp tc) := (S_X1_heeds hp).frame [1, 2, 3, 4, 5] rfl (by decide) rfl rfl rfl rfl
theorem C_goStep6 {R A K : RS} {f1 f2 f3 : Int32} {kp : Bool} {tc : Nat → Int32} (hn : cnt A ≤ 8) : Sp 3 mX1_goStep [.ref 6] (hC R A K f1 f2 f3 kp tc) none (hC R (stp A) K f1 (stpF A) f3 kp tc) := (S_goStep hn).frame [6, 7, 8, 9, 10] rfl (by decide) rfl rfl rfl rfl
theorem C_goSteps1 {R A K : RS} {f1 f2 f3 : Int32} {kp : Bool} {tc : Nat → Int32} {m : Nat} (hn : cnt R ≤ 8) (hm : m < 2 ^ 31) : Sp 4 mX1_goSteps [.ref 1, .int (nI m)] (hC R A K f1 f2 f3 kp tc) none (hC (stpN m R) A K (stpFN m R f1) f2 f3 kp tc) := (S_X1_goSteps hn hm).frame [1, 2, 3, 4, 5] rfl (by decide) rfl rfl rfl rfl
theorem C_goSteps6 {R A K : RS} {f1 f2 f3 : Int32} {kp : Bool} {tc : Nat → Int32} {m : Nat} (hn : cnt A ≤ 8) (hm : m < 2 ^ 31) : Sp 4 mX1_goSteps [.ref 6, .int (nI m)] (hC R A K f1 f2 f3 kp tc) none (hC R (stpN m A) K f1 (stpFN m A f2) f3 kp tc) := (S_X1_goSteps hn hm).frame [6, 7, 8, 9, 10] rfl (by decide) rfl rfl rfl rfl
theorem C_take61 {R A K : RS} {f1 f2 f3 : Int32} {kp : Bool} {tc : Nat → Int32} : Sp 0 mX1_takeFrom [.ref 6, .ref 1] (hC R A K f1 f2 f3 kp tc) none (hC R R K f1 f2 f3 kp tc) := S_X1_takeFrom.frame [6, 7, 8, 9, 10, 1, 2, 3, 4, 5] rfl (by decide) rfl rfl rfl rfl
theorem C_takeK1 {R A K : RS} {f1 f2 f3 : Int32} {kp : Bool} {tc : Nat → Int32} : Sp 0 mX1_takeFrom [.ref 11, .ref 1] (hC R A K f1 f2 f3 kp tc) none (hC R A R f1 f2 f3 kp tc) := S_X1_takeFrom.frame [11, 12, 13, 14, 15, 1, 2, 3, 4, 5] rfl (by decide) rfl rfl rfl rfl
theorem C_take1K {R A K : RS} {f1 f2 f3 : Int32} {kp : Bool} {tc : Nat → Int32} : Sp 0 mX1_takeFrom [.ref 1, .ref 11] (hC R A K f1 f2 f3 kp tc) none (hC K A K f1 f2 f3 kp tc) := S_X1_takeFrom.frame [1, 2, 3, 4, 5, 11, 12, 13, 14, 15] rfl (by decide) rfl rfl rfl rfl
theorem C_take16 {R A K : RS} {f1 f2 f3 : Int32} {kp : Bool} {tc : Nat → Int32} : Sp 0 mX1_takeFrom [.ref 1, .ref 6] (hC R A K f1 f2 f3 kp tc) none (hC A A K f1 f2 f3 kp tc) := S_X1_takeFrom.frame [1, 2, 3, 4, 5, 6, 7, 8, 9, 10] rfl (by decide) rfl rfl rfl rfl
theorem C_tell {R A K : RS} {f1 f2 f3 : Int32} {kp : Bool} {tc : Nat → Int32} {fd : Int32} (w : Nat) (hw : w < 7) (hf : (-1000000001) - fd = nI w) : Sp 1 mX4_tell [.ref 0, .int fd] (hC R A K f1 f2 f3 kp tc) (some (.int fd)) (hC R A K f1 f2 f3 kp (upd tc w (tc w + nI 1))) := by
  refine Sp.of [some (.ref 0), some (.int fd), none] mrX4_tell.1 rfl (Nat.le_of_ble_eq_true rfl) rfl (fun X => ?_)
  refine r_ldc kX4_45 dX4_tell_0 ?_
  refine r_iload_n dX4_tell_2 rfl ?_
  refine r_isub dX4_tell_3 ?_
  rw [hf]
  refine r_istore_n (lv' := [_, _, _]) dX4_tell_4 (by decide) rfl ?_
  refine r_iload_n dX4_tell_5 rfl ?_
  refine r_iconst (v := nI 0) dX4_tell_6 (by decide) ?_
  refine r_bipush (v := nI 6) dX4_tell_7 (by decide) ?_
  refine r_s3r S_X4_within (Nat.le_of_ble_eq_true rfl) mrX4_within lkX4_41 dX4_tell_9 (Nat.le_of_ble_eq_true rfl) ?_
  refine r_if_eqB 25 dX4_tell_12 (by decide) (fun c12 => ?_) (fun c12 => ?_)
  · exact absurd c12 (by rw [inR_n (by omega) (by omega) (by omega)]; decide)
  · refine r_aload_n dX4_tell_15 rfl ?_
    refine r_getfield dX4_tell_16 gfX4_35 rfl rfl ?_
    refine r_iload_n dX4_tell_19 rfl ?_
    refine r_dup2 dX4_tell_20 rfl rfl ?_
    refine r_ialdN dX4_tell_21 rfl (by first | decide | omega) (Nat.le_of_ble_eq_true rfl) rfl ?_
    refine r_iconst (v := nI 1) dX4_tell_22 (by decide) ?_
    refine r_iadd dX4_tell_23 ?_
    refine r_iastN (h' := [_, _, _, _, _, _, _, _, _, _, _, _, _, _, _, _, _]) dX4_tell_24 rfl (by first | decide | omega) (Nat.le_of_ble_eq_true rfl) rfl ?_
    refine r_iload_n dX4_tell_25 rfl ?_
    refine r_iret dX4_tell_26 rfl rfl ?_ ?_
    · rfl
    · exact HE.rf
theorem C_lookAhead {R A K : RS} {f1 f2 f3 : Int32} {kp : Bool} {tc : Nat → Int32} : Sp 1 mX4_lookAhead [.ref 0] (hC R A K f1 f2 f3 kp tc) none (hC R R K f1 f2 f3 kp tc) := by
  refine Sp.of [some (.ref 0)] mrX4_lookAhead.1 rfl (Nat.le_of_ble_eq_true rfl) rfl (fun X => ?_)
  refine r_aload_n dX4_lookAhead_0 rfl ?_
  refine r_getfield dX4_lookAhead_1 gfX4_16 rfl rfl ?_
  refine r_aload_n dX4_lookAhead_4 rfl ?_
  refine r_getfield dX4_lookAhead_5 gfX4_12 rfl rfl ?_
  refine r_v1n C_take61 (Nat.le_of_ble_eq_true rfl) mrX1_takeFrom lkX4_177 rfl rfl rfl dX4_lookAhead_8 (Nat.le_of_ble_eq_true rfl) ?_
  refine r_vret dX4_lookAhead_11 rfl ?_ ?_
  · rfl
  · exact HE.rf
theorem C_stumbledIn {R A K : RS} {f1 f2 f3 : Int32} {kp : Bool} {tc : Nat → Int32} {m : Nat} (hn : cnt A ≤ 8) (hm : m < 2 ^ 31) : Sp 5 mX4_stumbledIn [.ref 0, .int (nI m)] (hC R A K f1 f2 f3 kp tc) (some (.int (fut m A))) (hC R (stpN m A) K f1 (stpFN m A f2) f3 kp tc) := by
  refine Sp.of [some (.ref 0), some (.int (nI m))] mrX4_stumbledIn.1 rfl (Nat.le_of_ble_eq_true rfl) rfl (fun X => ?_)
  refine r_aload_n dX4_stumbledIn_0 rfl ?_
  refine r_getfield dX4_stumbledIn_1 gfX4_16 rfl rfl ?_
  refine r_iload_n dX4_stumbledIn_4 rfl ?_
  refine r_v1n (C_goSteps6 hn hm) (Nat.le_of_ble_eq_true rfl) mrX1_goSteps lkX4_137 rfl rfl rfl dX4_stumbledIn_5 (Nat.le_of_ble_eq_true rfl) ?_
  refine r_aload_n dX4_stumbledIn_8 rfl ?_
  refine r_getfield dX4_stumbledIn_9 gfX4_16 rfl rfl ?_
  refine r_v0r (C_allSt6 (by rw [stpN_cnt]; exact hn)) (Nat.le_of_ble_eq_true rfl) mrX1_allStumbled lkX4_77 rfl rfl rfl dX4_stumbledIn_12 (Nat.le_of_ble_eq_true rfl) ?_
  refine r_iret dX4_stumbledIn_15 rfl rfl ?_ ?_
  · rw [stpN_cnt]; rfl
  · exact HE.rf
theorem C_put3t {R A K : RS} {f1 f2 f3 : Int32} {kp : Bool} {tc : Nat → Int32} {p : Nat} {v mo : Int32} (hp : p < 8) (hv : inR v (nI 0) mo = true) : Sp 2 mX4_put [.ref 0, .ref 3, .int (nI p), .int v, .int mo] (hC R A K f1 f2 f3 kp tc) (some (.int (rH R p))) (hC (sH R (upd (rH R) p v)) A K f1 f2 f3 kp tc) := by
  refine Sp.of [some (.ref 0), some (.ref 3), some (.int (nI p)), some (.int v), some (.int mo), none] mrX4_put.1 rfl (Nat.le_of_ble_eq_true rfl) rfl (fun X => ?_)
  refine r_iload_n dX4_put_0 rfl ?_
  refine r_iconst (v := nI 0) dX4_put_1 (by decide) ?_
  refine r_iload dX4_put_2 rfl ?_
  refine r_s3r S_X4_within (Nat.le_of_ble_eq_true rfl) mrX4_within lkX4_41 dX4_put_4 (Nat.le_of_ble_eq_true rfl) ?_
  refine r_if_eqB 22 dX4_put_7 (by decide) (fun c7 => ?_) (fun c7 => ?_)
  · exact absurd c7 (by rw [hv]; decide)
  · refine r_iload_n dX4_put_10 rfl ?_
    refine r_iconst (v := nI 0) dX4_put_11 (by decide) ?_
    refine r_aload_n dX4_put_12 rfl ?_
    refine r_alen dX4_put_13 rfl (fun _ => rfl) ?_
    refine r_iconst (v := nI 1) dX4_put_14 (by decide) ?_
    refine r_isub dX4_put_15 ?_
    refine r_s3r S_X4_within (Nat.le_of_ble_eq_true rfl) mrX4_within lkX4_41 dX4_put_16 (Nat.le_of_ble_eq_true rfl) ?_
    refine r_if_neB 29 dX4_put_19 (by decide) (fun c19 => ?_) (fun c19 => ?_)
    · refine r_aload_n dX4_put_29 rfl ?_
      refine r_iload_n dX4_put_30 rfl ?_
      refine r_ialdN dX4_put_31 rfl (by first | decide | omega) (Nat.le_of_ble_eq_true rfl) rfl ?_
      refine r_istore (lv' := [_, _, _, _, _, _]) dX4_put_32 (by decide) rfl ?_
      refine r_aload_n dX4_put_34 rfl ?_
      refine r_iload_n dX4_put_35 rfl ?_
      refine r_iload_n dX4_put_36 rfl ?_
      refine r_iastN (h' := [_, _, _, _, _, _, _, _, _, _, _, _, _, _, _, _, _]) dX4_put_37 rfl (by first | decide | omega) (Nat.le_of_ble_eq_true rfl) rfl ?_
      refine r_iload dX4_put_38 rfl ?_
      refine r_iret dX4_put_40 rfl rfl ?_ ?_
      · rfl
      · exact HE.rf
    · exact absurd c19 (by rw [pk_sub (by decide), inR_n (by omega) (by omega) (by omega)]; decide)
theorem C_put3f {R A K : RS} {f1 f2 f3 : Int32} {kp : Bool} {tc : Nat → Int32} {p : Nat} {v mo : Int32} (hv : inR v (nI 0) mo = false) : Sp 2 mX4_put [.ref 0, .ref 3, .int (nI p), .int v, .int mo] (hC R A K f1 f2 f3 kp tc) (some (.int (-1000000001))) (hC R A K f1 f2 f3 kp (upd tc 0 (tc 0 + nI 1))) := by
  refine Sp.of [some (.ref 0), some (.ref 3), some (.int (nI p)), some (.int v), some (.int mo), none] mrX4_put.1 rfl (Nat.le_of_ble_eq_true rfl) rfl (fun X => ?_)
  refine r_iload_n dX4_put_0 rfl ?_
  refine r_iconst (v := nI 0) dX4_put_1 (by decide) ?_
  refine r_iload dX4_put_2 rfl ?_
  refine r_s3r S_X4_within (Nat.le_of_ble_eq_true rfl) mrX4_within lkX4_41 dX4_put_4 (Nat.le_of_ble_eq_true rfl) ?_
  refine r_if_eqB 22 dX4_put_7 (by decide) (fun c7 => ?_) (fun c7 => ?_)
  · refine r_aload_n dX4_put_22 rfl ?_
    refine r_ldc kX4_45 dX4_put_23 ?_
    refine r_v1r (C_tell 0 (by decide) (by decide)) (Nat.le_of_ble_eq_true rfl) mrX4_tell lkX4_46 rfl rfl rfl dX4_put_25 (Nat.le_of_ble_eq_true rfl) ?_
    refine r_iret dX4_put_28 rfl rfl ?_ ?_
    · rfl
    · exact HE.rf
  · exact absurd c7 (by rw [hv]; decide)
theorem C_put4t {R A K : RS} {f1 f2 f3 : Int32} {kp : Bool} {tc : Nat → Int32} {p : Nat} {v mo : Int32} (hp : p < 8) (hv : inR v (nI 0) mo = true) : Sp 2 mX4_put [.ref 0, .ref 4, .int (nI p), .int v, .int mo] (hC R A K f1 f2 f3 kp tc) (some (.int (rS R p))) (hC (sS R (upd (rS R) p v)) A K f1 f2 f3 kp tc) := by
  refine Sp.of [some (.ref 0), some (.ref 4), some (.int (nI p)), some (.int v), some (.int mo), none] mrX4_put.1 rfl (Nat.le_of_ble_eq_true rfl) rfl (fun X => ?_)
  refine r_iload_n dX4_put_0 rfl ?_
  refine r_iconst (v := nI 0) dX4_put_1 (by decide) ?_
  refine r_iload dX4_put_2 rfl ?_
  refine r_s3r S_X4_within (Nat.le_of_ble_eq_true rfl) mrX4_within lkX4_41 dX4_put_4 (Nat.le_of_ble_eq_true rfl) ?_
  refine r_if_eqB 22 dX4_put_7 (by decide) (fun c7 => ?_) (fun c7 => ?_)
  · exact absurd c7 (by rw [hv]; decide)
  · refine r_iload_n dX4_put_10 rfl ?_
    refine r_iconst (v := nI 0) dX4_put_11 (by decide) ?_
    refine r_aload_n dX4_put_12 rfl ?_
    refine r_alen dX4_put_13 rfl (fun _ => rfl) ?_
    refine r_iconst (v := nI 1) dX4_put_14 (by decide) ?_
    refine r_isub dX4_put_15 ?_
    refine r_s3r S_X4_within (Nat.le_of_ble_eq_true rfl) mrX4_within lkX4_41 dX4_put_16 (Nat.le_of_ble_eq_true rfl) ?_
    refine r_if_neB 29 dX4_put_19 (by decide) (fun c19 => ?_) (fun c19 => ?_)
    · refine r_aload_n dX4_put_29 rfl ?_
      refine r_iload_n dX4_put_30 rfl ?_
      refine r_ialdN dX4_put_31 rfl (by first | decide | omega) (Nat.le_of_ble_eq_true rfl) rfl ?_
      refine r_istore (lv' := [_, _, _, _, _, _]) dX4_put_32 (by decide) rfl ?_
      refine r_aload_n dX4_put_34 rfl ?_
      refine r_iload_n dX4_put_35 rfl ?_
      refine r_iload_n dX4_put_36 rfl ?_
      refine r_iastN (h' := [_, _, _, _, _, _, _, _, _, _, _, _, _, _, _, _, _]) dX4_put_37 rfl (by first | decide | omega) (Nat.le_of_ble_eq_true rfl) rfl ?_
      refine r_iload dX4_put_38 rfl ?_
      refine r_iret dX4_put_40 rfl rfl ?_ ?_
      · rfl
      · exact HE.rf
    · exact absurd c19 (by rw [pk_sub (by decide), inR_n (by omega) (by omega) (by omega)]; decide)
theorem C_put4f {R A K : RS} {f1 f2 f3 : Int32} {kp : Bool} {tc : Nat → Int32} {p : Nat} {v mo : Int32} (hv : inR v (nI 0) mo = false) : Sp 2 mX4_put [.ref 0, .ref 4, .int (nI p), .int v, .int mo] (hC R A K f1 f2 f3 kp tc) (some (.int (-1000000001))) (hC R A K f1 f2 f3 kp (upd tc 0 (tc 0 + nI 1))) := by
  refine Sp.of [some (.ref 0), some (.ref 4), some (.int (nI p)), some (.int v), some (.int mo), none] mrX4_put.1 rfl (Nat.le_of_ble_eq_true rfl) rfl (fun X => ?_)
  refine r_iload_n dX4_put_0 rfl ?_
  refine r_iconst (v := nI 0) dX4_put_1 (by decide) ?_
  refine r_iload dX4_put_2 rfl ?_
  refine r_s3r S_X4_within (Nat.le_of_ble_eq_true rfl) mrX4_within lkX4_41 dX4_put_4 (Nat.le_of_ble_eq_true rfl) ?_
  refine r_if_eqB 22 dX4_put_7 (by decide) (fun c7 => ?_) (fun c7 => ?_)
  · refine r_aload_n dX4_put_22 rfl ?_
    refine r_ldc kX4_45 dX4_put_23 ?_
    refine r_v1r (C_tell 0 (by decide) (by decide)) (Nat.le_of_ble_eq_true rfl) mrX4_tell lkX4_46 rfl rfl rfl dX4_put_25 (Nat.le_of_ble_eq_true rfl) ?_
    refine r_iret dX4_put_28 rfl rfl ?_ ?_
    · rfl
    · exact HE.rf
  · exact absurd c7 (by rw [hv]; decide)
theorem C_put5t {R A K : RS} {f1 f2 f3 : Int32} {kp : Bool} {tc : Nat → Int32} {p : Nat} {v mo : Int32} (hp : p < 8) (hv : inR v (nI 0) mo = true) : Sp 2 mX4_put [.ref 0, .ref 5, .int (nI p), .int v, .int mo] (hC R A K f1 f2 f3 kp tc) (some (.int (rN R p))) (hC (sN R (upd (rN R) p v)) A K f1 f2 f3 kp tc) := by
  refine Sp.of [some (.ref 0), some (.ref 5), some (.int (nI p)), some (.int v), some (.int mo), none] mrX4_put.1 rfl (Nat.le_of_ble_eq_true rfl) rfl (fun X => ?_)
  refine r_iload_n dX4_put_0 rfl ?_
  refine r_iconst (v := nI 0) dX4_put_1 (by decide) ?_
  refine r_iload dX4_put_2 rfl ?_
  refine r_s3r S_X4_within (Nat.le_of_ble_eq_true rfl) mrX4_within lkX4_41 dX4_put_4 (Nat.le_of_ble_eq_true rfl) ?_
  refine r_if_eqB 22 dX4_put_7 (by decide) (fun c7 => ?_) (fun c7 => ?_)
  · exact absurd c7 (by rw [hv]; decide)
  · refine r_iload_n dX4_put_10 rfl ?_
    refine r_iconst (v := nI 0) dX4_put_11 (by decide) ?_
    refine r_aload_n dX4_put_12 rfl ?_
    refine r_alen dX4_put_13 rfl (fun _ => rfl) ?_
    refine r_iconst (v := nI 1) dX4_put_14 (by decide) ?_
    refine r_isub dX4_put_15 ?_
    refine r_s3r S_X4_within (Nat.le_of_ble_eq_true rfl) mrX4_within lkX4_41 dX4_put_16 (Nat.le_of_ble_eq_true rfl) ?_
    refine r_if_neB 29 dX4_put_19 (by decide) (fun c19 => ?_) (fun c19 => ?_)
    · refine r_aload_n dX4_put_29 rfl ?_
      refine r_iload_n dX4_put_30 rfl ?_
      refine r_ialdN dX4_put_31 rfl (by first | decide | omega) (Nat.le_of_ble_eq_true rfl) rfl ?_
      refine r_istore (lv' := [_, _, _, _, _, _]) dX4_put_32 (by decide) rfl ?_
      refine r_aload_n dX4_put_34 rfl ?_
      refine r_iload_n dX4_put_35 rfl ?_
      refine r_iload_n dX4_put_36 rfl ?_
      refine r_iastN (h' := [_, _, _, _, _, _, _, _, _, _, _, _, _, _, _, _, _]) dX4_put_37 rfl (by first | decide | omega) (Nat.le_of_ble_eq_true rfl) rfl ?_
      refine r_iload dX4_put_38 rfl ?_
      refine r_iret dX4_put_40 rfl rfl ?_ ?_
      · rfl
      · exact HE.rf
    · exact absurd c19 (by rw [pk_sub (by decide), inR_n (by omega) (by omega) (by omega)]; decide)
theorem C_put5f {R A K : RS} {f1 f2 f3 : Int32} {kp : Bool} {tc : Nat → Int32} {p : Nat} {v mo : Int32} (hv : inR v (nI 0) mo = false) : Sp 2 mX4_put [.ref 0, .ref 5, .int (nI p), .int v, .int mo] (hC R A K f1 f2 f3 kp tc) (some (.int (-1000000001))) (hC R A K f1 f2 f3 kp (upd tc 0 (tc 0 + nI 1))) := by
  refine Sp.of [some (.ref 0), some (.ref 5), some (.int (nI p)), some (.int v), some (.int mo), none] mrX4_put.1 rfl (Nat.le_of_ble_eq_true rfl) rfl (fun X => ?_)
  refine r_iload_n dX4_put_0 rfl ?_
  refine r_iconst (v := nI 0) dX4_put_1 (by decide) ?_
  refine r_iload dX4_put_2 rfl ?_
  refine r_s3r S_X4_within (Nat.le_of_ble_eq_true rfl) mrX4_within lkX4_41 dX4_put_4 (Nat.le_of_ble_eq_true rfl) ?_
  refine r_if_eqB 22 dX4_put_7 (by decide) (fun c7 => ?_) (fun c7 => ?_)
  · refine r_aload_n dX4_put_22 rfl ?_
    refine r_ldc kX4_45 dX4_put_23 ?_
    refine r_v1r (C_tell 0 (by decide) (by decide)) (Nat.le_of_ble_eq_true rfl) mrX4_tell lkX4_46 rfl rfl rfl dX4_put_25 (Nat.le_of_ble_eq_true rfl) ?_
    refine r_iret dX4_put_28 rfl rfl ?_ ?_
    · rfl
    · exact HE.rf
  · exact absurd c7 (by rw [hv]; decide)
theorem Q_roots {R A K : RS} {f1 f2 f3 : Int32} {kp : Bool} {tc : Nat → Int32} {x : Int32} : SpQ 11 mX4_roots [.ref 0, .int x] (hC R A K f1 f2 f3 kp tc) (some (.int (o_roots R K kp tc x).1)) (qC (o_roots R K kp tc x).2) := by
  refine SpQ.of [some (.ref 0), some (.int x), none] mrX4_roots.1 (fun _ q => qC_len q) (Nat.le_of_ble_eq_true rfl) rfl (fun X => ?_)
  refine r_iload_n dX4_roots_0 rfl ?_
  refine r_iconst (v := nI 0) dX4_roots_1 (by decide) ?_
  refine r_ldc kX4_40 dX4_roots_2 ?_
  refine r_s3r S_X4_within (Nat.le_of_ble_eq_true rfl) mrX4_within lkX4_41 dX4_roots_4 (Nat.le_of_ble_eq_true rfl) ?_
  refine r_if_neB 17 dX4_roots_7 (by decide) (fun c7 => ?_) (fun c7 => ?_)
  · refine r_aload_n dX4_roots_17 rfl ?_
    refine r_getfield dX4_roots_18 gfX4_12 rfl rfl ?_
    refine r_getfield dX4_roots_21 gfX4_50 rfl rfl ?_
    refine r_istore_n (lv' := [_, _, _]) dX4_roots_24 (by decide) rfl ?_
    refine r_aload_n dX4_roots_25 rfl ?_
    refine r_getfield dX4_roots_26 gfX4_12 rfl rfl ?_
    refine r_iload_n dX4_roots_29 rfl ?_
    refine r_putfield (fs' := [_, _, _, _, _, _, _, _, _, _]) (h' := [_, _, _, _, _, _, _, _, _, _, _, _, _, _, _, _, _]) dX4_roots_30 pfX4_50 rfl (Nat.le_of_ble_eq_true rfl) (fun _ => rfl) rfl rfl rfl rfl ?_
    refine r_iload_n dX4_roots_33 rfl ?_
    refine r_iret dX4_roots_34 rfl rfl ?_ ?_
    · simp only [o_roots, c7, if_true, if_false, eq_self, decide_true, decide_false, not_true, not_false_eq_true, Bool.true_and, Bool.and_true, Bool.false_and, Bool.and_false, Bool.true_or, Bool.or_true, Bool.false_or, Bool.or_false, Bool.not_true, Bool.not_false]
    · simp only [o_roots, c7, if_true, if_false, eq_self, decide_true, decide_false, not_true, not_false_eq_true, Bool.true_and, Bool.and_true, Bool.false_and, Bool.and_false, Bool.true_or, Bool.or_true, Bool.false_or, Bool.or_false, Bool.not_true, Bool.not_false]
      exact ⟨A, f1, f2, f3, HE.rf⟩
  · refine r_aload_n dX4_roots_10 rfl ?_
    refine r_ldc kX4_45 dX4_roots_11 ?_
    refine r_v1r (C_tell 0 (by decide) (by decide)) (Nat.le_of_ble_eq_true rfl) mrX4_tell lkX4_46 rfl rfl rfl dX4_roots_13 (Nat.le_of_ble_eq_true rfl) ?_
    refine r_iret dX4_roots_16 rfl rfl ?_ ?_
    · simp only [o_roots, c7, if_true, if_false, eq_self, decide_true, decide_false, not_true, not_false_eq_true, Bool.true_and, Bool.and_true, Bool.false_and, Bool.and_false, Bool.true_or, Bool.or_true, Bool.false_or, Bool.or_false, Bool.not_true, Bool.not_false]
      rfl
    · simp only [o_roots, c7, if_true, if_false, eq_self, decide_true, decide_false, not_true, not_false_eq_true, Bool.true_and, Bool.and_true, Bool.false_and, Bool.and_false, Bool.true_or, Bool.or_true, Bool.false_or, Bool.or_false, Bool.not_true, Bool.not_false]
      exact ⟨A, f1, f2, f3, HE.rf⟩
theorem Q_lantern {R A K : RS} {f1 f2 f3 : Int32} {kp : Bool} {tc : Nat → Int32} {x : Int32} : SpQ 11 mX4_lantern [.ref 0, .int x] (hC R A K f1 f2 f3 kp tc) (some (.int (o_lantern R K kp tc x).1)) (qC (o_lantern R K kp tc x).2) := by
  refine SpQ.of [some (.ref 0), some (.int x), none] mrX4_lantern.1 (fun _ q => qC_len q) (Nat.le_of_ble_eq_true rfl) rfl (fun X => ?_)
  refine r_iload_n dX4_lantern_0 rfl ?_
  refine r_iconst (v := (-1)) dX4_lantern_1 (by decide) ?_
  refine r_icmp_eq 23 dX4_lantern_2 (by decide) (fun c2 => ?_) (fun c2 => ?_)
  · refine r_aload_n dX4_lantern_23 rfl ?_
    refine r_getfield dX4_lantern_24 gfX4_12 rfl rfl ?_
    refine r_getfield dX4_lantern_27 gfX4_58 rfl rfl ?_
    refine r_istore_n (lv' := [_, _, _]) dX4_lantern_30 (by decide) rfl ?_
    refine r_aload_n dX4_lantern_31 rfl ?_
    refine r_getfield dX4_lantern_32 gfX4_12 rfl rfl ?_
    refine r_iload_n dX4_lantern_35 rfl ?_
    refine r_putfield (fs' := [_, _, _, _, _, _, _, _, _, _]) (h' := [_, _, _, _, _, _, _, _, _, _, _, _, _, _, _, _, _]) dX4_lantern_36 pfX4_58 rfl (Nat.le_of_ble_eq_true rfl) (fun _ => rfl) rfl rfl rfl rfl ?_
    refine r_iload_n dX4_lantern_39 rfl ?_
    refine r_iret dX4_lantern_40 rfl rfl ?_ ?_
    · simp only [o_lantern, c2, if_true, if_false, eq_self, decide_true, decide_false, not_true, not_false_eq_true, Bool.true_and, Bool.and_true, Bool.false_and, Bool.and_false, Bool.true_or, Bool.or_true, Bool.false_or, Bool.or_false, Bool.not_true, Bool.not_false]
    · simp only [o_lantern, c2, if_true, if_false, eq_self, decide_true, decide_false, not_true, not_false_eq_true, Bool.true_and, Bool.and_true, Bool.false_and, Bool.and_false, Bool.true_or, Bool.or_true, Bool.false_or, Bool.or_false, Bool.not_true, Bool.not_false]
      exact ⟨A, f1, f2, f3, HE.rf⟩
  · refine r_aload_n dX4_lantern_5 rfl ?_
    refine r_getfield dX4_lantern_6 gfX4_12 rfl rfl ?_
    refine r_iload_n dX4_lantern_9 rfl ?_
    refine r_v1r C_has (Nat.le_of_ble_eq_true rfl) mrX1_has lkX4_54 rfl rfl rfl dX4_lantern_10 (Nat.le_of_ble_eq_true rfl) ?_
    refine r_if_neB 23 dX4_lantern_13 (by decide) (fun c13 => ?_) (fun c13 => ?_)
    · refine r_aload_n dX4_lantern_23 rfl ?_
      refine r_getfield dX4_lantern_24 gfX4_12 rfl rfl ?_
      refine r_getfield dX4_lantern_27 gfX4_58 rfl rfl ?_
      refine r_istore_n (lv' := [_, _, _]) dX4_lantern_30 (by decide) rfl ?_
      refine r_aload_n dX4_lantern_31 rfl ?_
      refine r_getfield dX4_lantern_32 gfX4_12 rfl rfl ?_
      refine r_iload_n dX4_lantern_35 rfl ?_
      refine r_putfield (fs' := [_, _, _, _, _, _, _, _, _, _]) (h' := [_, _, _, _, _, _, _, _, _, _, _, _, _, _, _, _, _]) dX4_lantern_36 pfX4_58 rfl (Nat.le_of_ble_eq_true rfl) (fun _ => rfl) rfl rfl rfl rfl ?_
      refine r_iload_n dX4_lantern_39 rfl ?_
      refine r_iret dX4_lantern_40 rfl rfl ?_ ?_
      · simp only [o_lantern, c2, c13, if_true, if_false, eq_self, decide_true, decide_false, not_true, not_false_eq_true, Bool.true_and, Bool.and_true, Bool.false_and, Bool.and_false, Bool.true_or, Bool.or_true, Bool.false_or, Bool.or_false, Bool.not_true, Bool.not_false]
      · simp only [o_lantern, c2, c13, if_true, if_false, eq_self, decide_true, decide_false, not_true, not_false_eq_true, Bool.true_and, Bool.and_true, Bool.false_and, Bool.and_false, Bool.true_or, Bool.or_true, Bool.false_or, Bool.or_false, Bool.not_true, Bool.not_false]
        exact ⟨A, f1, f2, f3, HE.rf⟩
    · refine r_aload_n dX4_lantern_16 rfl ?_
      refine r_ldc kX4_45 dX4_lantern_17 ?_
      refine r_v1r (C_tell 0 (by decide) (by decide)) (Nat.le_of_ble_eq_true rfl) mrX4_tell lkX4_46 rfl rfl rfl dX4_lantern_19 (Nat.le_of_ble_eq_true rfl) ?_
      refine r_iret dX4_lantern_22 rfl rfl ?_ ?_
      · simp only [o_lantern, c2, c13, if_true, if_false, eq_self, decide_true, decide_false, not_true, not_false_eq_true, Bool.true_and, Bool.and_true, Bool.false_and, Bool.and_false, Bool.true_or, Bool.or_true, Bool.false_or, Bool.or_false, Bool.not_true, Bool.not_false]
        rfl
      · simp only [o_lantern, c2, c13, if_true, if_false, eq_self, decide_true, decide_false, not_true, not_false_eq_true, Bool.true_and, Bool.and_true, Bool.false_and, Bool.and_false, Bool.true_or, Bool.or_true, Bool.false_or, Bool.or_false, Bool.not_true, Bool.not_false]
        exact ⟨A, f1, f2, f3, HE.rf⟩
theorem Q_bright {R A K : RS} {f1 f2 f3 : Int32} {kp : Bool} {tc : Nat → Int32} {x : Int32} : SpQ 11 mX4_bright [.ref 0, .int x] (hC R A K f1 f2 f3 kp tc) (some (.int (o_bright R K kp tc x).1)) (qC (o_bright R K kp tc x).2) := by
  refine SpQ.of [some (.ref 0), some (.int x), none] mrX4_bright.1 (fun _ q => qC_len q) (Nat.le_of_ble_eq_true rfl) rfl (fun X => ?_)
  refine r_iload_n dX4_bright_0 rfl ?_
  refine r_iconst (v := nI 0) dX4_bright_1 (by decide) ?_
  refine r_bipush (v := nI 9) dX4_bright_2 (by decide) ?_
  refine r_s3r S_X4_within (Nat.le_of_ble_eq_true rfl) mrX4_within lkX4_41 dX4_bright_4 (Nat.le_of_ble_eq_true rfl) ?_
  refine r_if_neB 17 dX4_bright_7 (by decide) (fun c7 => ?_) (fun c7 => ?_)
  · refine r_aload_n dX4_bright_17 rfl ?_
    refine r_getfield dX4_bright_18 gfX4_12 rfl rfl ?_
    refine r_getfield dX4_bright_21 gfX4_61 rfl rfl ?_
    refine r_istore_n (lv' := [_, _, _]) dX4_bright_24 (by decide) rfl ?_
    refine r_aload_n dX4_bright_25 rfl ?_
    refine r_getfield dX4_bright_26 gfX4_12 rfl rfl ?_
    refine r_iload_n dX4_bright_29 rfl ?_
    refine r_putfield (fs' := [_, _, _, _, _, _, _, _, _, _]) (h' := [_, _, _, _, _, _, _, _, _, _, _, _, _, _, _, _, _]) dX4_bright_30 pfX4_61 rfl (Nat.le_of_ble_eq_true rfl) (fun _ => rfl) rfl rfl rfl rfl ?_
    refine r_iload_n dX4_bright_33 rfl ?_
    refine r_iret dX4_bright_34 rfl rfl ?_ ?_
    · simp only [o_bright, c7, if_true, if_false, eq_self, decide_true, decide_false, not_true, not_false_eq_true, Bool.true_and, Bool.and_true, Bool.false_and, Bool.and_false, Bool.true_or, Bool.or_true, Bool.false_or, Bool.or_false, Bool.not_true, Bool.not_false]
    · simp only [o_bright, c7, if_true, if_false, eq_self, decide_true, decide_false, not_true, not_false_eq_true, Bool.true_and, Bool.and_true, Bool.false_and, Bool.and_false, Bool.true_or, Bool.or_true, Bool.false_or, Bool.or_false, Bool.not_true, Bool.not_false]
      exact ⟨A, f1, f2, f3, HE.rf⟩
  · refine r_aload_n dX4_bright_10 rfl ?_
    refine r_ldc kX4_45 dX4_bright_11 ?_
    refine r_v1r (C_tell 0 (by decide) (by decide)) (Nat.le_of_ble_eq_true rfl) mrX4_tell lkX4_46 rfl rfl rfl dX4_bright_13 (Nat.le_of_ble_eq_true rfl) ?_
    refine r_iret dX4_bright_16 rfl rfl ?_ ?_
    · simp only [o_bright, c7, if_true, if_false, eq_self, decide_true, decide_false, not_true, not_false_eq_true, Bool.true_and, Bool.and_true, Bool.false_and, Bool.and_false, Bool.true_or, Bool.or_true, Bool.false_or, Bool.or_false, Bool.not_true, Bool.not_false]
      rfl
    · simp only [o_bright, c7, if_true, if_false, eq_self, decide_true, decide_false, not_true, not_false_eq_true, Bool.true_and, Bool.and_true, Bool.false_and, Bool.and_false, Bool.true_or, Bool.or_true, Bool.false_or, Bool.or_false, Bool.not_true, Bool.not_false]
      exact ⟨A, f1, f2, f3, HE.rf⟩
theorem Q_now {R A K : RS} {f1 f2 f3 : Int32} {kp : Bool} {tc : Nat → Int32} {w : Int32} (hn : cnt R ≤ 8) : SpQ 11 mX4_now [.ref 0, .int w] (hC R A K f1 f2 f3 kp tc) (some (.int (o_now R K kp tc w).1)) (qC (o_now R K kp tc w).2) := by
  refine SpQ.of [some (.ref 0), some (.int w)] mrX4_now.1 (fun _ q => qC_len q) (Nat.le_of_ble_eq_true rfl) rfl (fun X => ?_)
  refine r_iload_n dX4_now_0 rfl ?_
  refine r_tsw 112 dX4_now_1 (by decide) (fun v1 h1 g1 e1 => ?_) (fun e1 => ?_)
  · rcases (show v1 = 0 ∨ v1 = 1 ∨ v1 = 2 ∨ v1 = 3 ∨ v1 = 4 ∨ v1 = 5 ∨ v1 = 6 ∨ v1 = 7 by omega) with rfl | rfl | rfl | rfl | rfl | rfl | rfl | rfl
    · refine ⟨47, 48, by decide, by decide, ?_⟩
      have c1 := toI_eq 0 e1 (by decide)
      refine r_aload_n dX4_now_48 rfl ?_
      refine r_getfield dX4_now_49 gfX4_12 rfl rfl ?_
      refine r_getfield dX4_now_52 gfX4_64 rfl rfl ?_
      refine r_iret dX4_now_55 rfl rfl ?_ ?_
      · subst c1; rfl
      · subst c1
        exact ⟨A, f1, f2, f3, HE.rf⟩
    · refine ⟨55, 56, by decide, by decide, ?_⟩
      have c1 := toI_eq 1 e1 (by decide)
      refine r_aload_n dX4_now_56 rfl ?_
      refine r_getfield dX4_now_57 gfX4_12 rfl rfl ?_
      refine r_getfield dX4_now_60 gfX4_50 rfl rfl ?_
      refine r_iret dX4_now_63 rfl rfl ?_ ?_
      · subst c1; rfl
      · subst c1
        exact ⟨A, f1, f2, f3, HE.rf⟩
    · refine ⟨63, 64, by decide, by decide, ?_⟩
      have c1 := toI_eq 2 e1 (by decide)
      refine r_aload_n dX4_now_64 rfl ?_
      refine r_getfield dX4_now_65 gfX4_12 rfl rfl ?_
      refine r_getfield dX4_now_68 gfX4_58 rfl rfl ?_
      refine r_iret dX4_now_71 rfl rfl ?_ ?_
      · subst c1; rfl
      · subst c1
        exact ⟨A, f1, f2, f3, HE.rf⟩
    · refine ⟨71, 72, by decide, by decide, ?_⟩
      have c1 := toI_eq 3 e1 (by decide)
      refine r_aload_n dX4_now_72 rfl ?_
      refine r_getfield dX4_now_73 gfX4_12 rfl rfl ?_
      refine r_getfield dX4_now_76 gfX4_61 rfl rfl ?_
      refine r_iret dX4_now_79 rfl rfl ?_ ?_
      · subst c1; rfl
      · subst c1
        exact ⟨A, f1, f2, f3, HE.rf⟩
    · refine ⟨79, 80, by decide, by decide, ?_⟩
      have c1 := toI_eq 4 e1 (by decide)
      refine r_aload_n dX4_now_80 rfl ?_
      refine r_getfield dX4_now_81 gfX4_12 rfl rfl ?_
      refine r_v0r (C_litSet hn) (Nat.le_of_ble_eq_true rfl) mrX1_litSet lkX4_67 rfl rfl rfl dX4_now_84 (Nat.le_of_ble_eq_true rfl) ?_
      refine r_iret dX4_now_87 rfl rfl ?_ ?_
      · subst c1; rfl
      · subst c1
        exact ⟨A, f1, f2, f3, HE.rf⟩
    · refine ⟨87, 88, by decide, by decide, ?_⟩
      have c1 := toI_eq 5 e1 (by decide)
      refine r_aload_n dX4_now_88 rfl ?_
      refine r_getfield dX4_now_89 gfX4_12 rfl rfl ?_
      refine r_v0r (C_atRootSet hn) (Nat.le_of_ble_eq_true rfl) mrX1_atRootSet lkX4_71 rfl rfl rfl dX4_now_92 (Nat.le_of_ble_eq_true rfl) ?_
      refine r_iret dX4_now_95 rfl rfl ?_ ?_
      · subst c1; rfl
      · subst c1
        exact ⟨A, f1, f2, f3, HE.rf⟩
    · refine ⟨95, 96, by decide, by decide, ?_⟩
      have c1 := toI_eq 6 e1 (by decide)
      refine r_aload_n dX4_now_96 rfl ?_
      refine r_getfield dX4_now_97 gfX4_12 rfl rfl ?_
      refine r_v0r (C_heardSet hn) (Nat.le_of_ble_eq_true rfl) mrX1_heardSet lkX4_74 rfl rfl rfl dX4_now_100 (Nat.le_of_ble_eq_true rfl) ?_
      refine r_iret dX4_now_103 rfl rfl ?_ ?_
      · subst c1; rfl
      · subst c1
        exact ⟨A, f1, f2, f3, HE.rf⟩
    · refine ⟨103, 104, by decide, by decide, ?_⟩
      have c1 := toI_eq 7 e1 (by decide)
      refine r_aload_n dX4_now_104 rfl ?_
      refine r_getfield dX4_now_105 gfX4_12 rfl rfl ?_
      refine r_v0r (C_allSt1 hn) (Nat.le_of_ble_eq_true rfl) mrX1_allStumbled lkX4_77 rfl rfl rfl dX4_now_108 (Nat.le_of_ble_eq_true rfl) ?_
      refine r_iret dX4_now_111 rfl rfl ?_ ?_
      · subst c1; rfl
      · subst c1
        exact ⟨A, f1, f2, f3, HE.rf⟩
  · have c1_0 := toI_ne 0 e1 (by decide)
    have c1_1 := toI_ne 1 e1 (by decide)
    have c1_2 := toI_ne 2 e1 (by decide)
    have c1_3 := toI_ne 3 e1 (by decide)
    have c1_4 := toI_ne 4 e1 (by decide)
    have c1_5 := toI_ne 5 e1 (by decide)
    have c1_6 := toI_ne 6 e1 (by decide)
    have c1_7 := toI_ne 7 e1 (by decide)
    refine r_aload_n dX4_now_112 rfl ?_
    refine r_ldc kX4_45 dX4_now_113 ?_
    refine r_v1r (C_tell 0 (by decide) (by decide)) (Nat.le_of_ble_eq_true rfl) mrX4_tell lkX4_46 rfl rfl rfl dX4_now_115 (Nat.le_of_ble_eq_true rfl) ?_
    refine r_iret dX4_now_118 rfl rfl ?_ ?_
    · simp only [o_now, c1_0, c1_1, c1_2, c1_3, c1_4, c1_5, c1_6, c1_7, if_true, if_false, eq_self, decide_true, decide_false, not_true, not_false_eq_true, Bool.true_and, Bool.and_true, Bool.false_and, Bool.and_false, Bool.true_or, Bool.or_true, Bool.false_or, Bool.or_false, Bool.not_true, Bool.not_false]
      rfl
    · simp only [o_now, c1_0, c1_1, c1_2, c1_3, c1_4, c1_5, c1_6, c1_7, if_true, if_false, eq_self, decide_true, decide_false, not_true, not_false_eq_true, Bool.true_and, Bool.and_true, Bool.false_and, Bool.and_false, Bool.true_or, Bool.or_true, Bool.false_or, Bool.or_false, Bool.not_true, Bool.not_false]
      exact ⟨A, f1, f2, f3, HE.rf⟩
theorem Q_walker {R A K : RS} {f1 f2 f3 : Int32} {kp : Bool} {tc : Nat → Int32} {k : Int32} (hn : cnt R ≤ 8) : SpQ 11 mX4_walker [.ref 0, .int k] (hC R A K f1 f2 f3 kp tc) (some (.int (o_walker R K kp tc k).1)) (qC (o_walker R K kp tc k).2) := by
  refine SpQ.of [some (.ref 0), some (.int k)] mrX4_walker.1 (fun _ q => qC_len q) (Nat.le_of_ble_eq_true rfl) rfl (fun X => ?_)
  refine r_iload_n dX4_walker_0 rfl ?_
  refine r_s1r S_X4_isKind (Nat.le_of_ble_eq_true rfl) mrX4_isKind lkX4_80 dX4_walker_1 (Nat.le_of_ble_eq_true rfl) ?_
  refine r_if_neB 14 dX4_walker_4 (by decide) (fun c4 => ?_) (fun c4 => ?_)
  · refine r_aload_n dX4_walker_14 rfl ?_
    refine r_getfield dX4_walker_15 gfX4_12 rfl rfl ?_
    refine r_v0r C_isFull (Nat.le_of_ble_eq_true rfl) mrX1_isFull lkX4_83 rfl rfl rfl dX4_walker_18 (Nat.le_of_ble_eq_true rfl) ?_
    refine r_if_eqB 31 dX4_walker_21 (by decide) (fun c21 => ?_) (fun c21 => ?_)
    · refine r_aload_n dX4_walker_31 rfl ?_
      refine r_getfield dX4_walker_32 gfX4_12 rfl rfl ?_
      refine r_iload_n dX4_walker_35 rfl ?_
      refine r_v1n (C_add (by have h := of_decide_eq_false c21; rcases Nat.lt_or_ge (cnt R) 8 with q | q; exact q; exact absurd (nI_le q (by omega)) h)) (Nat.le_of_ble_eq_true rfl) mrX1_add lkX4_88 rfl rfl rfl dX4_walker_36 (Nat.le_of_ble_eq_true rfl) ?_
      refine r_aload_n dX4_walker_39 rfl ?_
      refine r_getfield dX4_walker_40 gfX4_12 rfl rfl ?_
      refine r_getfield dX4_walker_43 gfX4_92 rfl rfl ?_
      refine r_iconst (v := nI 1) dX4_walker_46 (by decide) ?_
      refine r_isub dX4_walker_47 ?_
      refine r_iret dX4_walker_48 rfl rfl ?_ ?_
      · simp only [o_walker, c4, c21, if_true, if_false, eq_self, decide_true, decide_false, not_true, not_false_eq_true, Bool.true_and, Bool.and_true, Bool.false_and, Bool.and_false, Bool.true_or, Bool.or_true, Bool.false_or, Bool.or_false, Bool.not_true, Bool.not_false]
        show some (Value.int (nI (cnt R + 1) - nI 1)) = some (Value.int (nI (cnt R)))
        rw [pk_sub (by omega)]
        rfl
      · simp only [o_walker, c4, c21, if_true, if_false, eq_self, decide_true, decide_false, not_true, not_false_eq_true, Bool.true_and, Bool.and_true, Bool.false_and, Bool.and_false, Bool.true_or, Bool.or_true, Bool.false_or, Bool.or_false, Bool.not_true, Bool.not_false]
        exact ⟨A, f1, f2, f3, HE.rf⟩
    · refine r_aload_n dX4_walker_24 rfl ?_
      refine r_ldc kX4_87 dX4_walker_25 ?_
      refine r_v1r (C_tell 1 (by decide) (by decide)) (Nat.le_of_ble_eq_true rfl) mrX4_tell lkX4_46 rfl rfl rfl dX4_walker_27 (Nat.le_of_ble_eq_true rfl) ?_
      refine r_iret dX4_walker_30 rfl rfl ?_ ?_
      · simp only [o_walker, c4, c21, if_true, if_false, eq_self, decide_true, decide_false, not_true, not_false_eq_true, Bool.true_and, Bool.and_true, Bool.false_and, Bool.and_false, Bool.true_or, Bool.or_true, Bool.false_or, Bool.or_false, Bool.not_true, Bool.not_false]
        rfl
      · simp only [o_walker, c4, c21, if_true, if_false, eq_self, decide_true, decide_false, not_true, not_false_eq_true, Bool.true_and, Bool.and_true, Bool.false_and, Bool.and_false, Bool.true_or, Bool.or_true, Bool.false_or, Bool.or_false, Bool.not_true, Bool.not_false]
        exact ⟨A, f1, f2, f3, HE.rf⟩
  · refine r_aload_n dX4_walker_7 rfl ?_
    refine r_ldc kX4_45 dX4_walker_8 ?_
    refine r_v1r (C_tell 0 (by decide) (by decide)) (Nat.le_of_ble_eq_true rfl) mrX4_tell lkX4_46 rfl rfl rfl dX4_walker_10 (Nat.le_of_ble_eq_true rfl) ?_
    refine r_iret dX4_walker_13 rfl rfl ?_ ?_
    · simp only [o_walker, c4, if_true, if_false, eq_self, decide_true, decide_false, not_true, not_false_eq_true, Bool.true_and, Bool.and_true, Bool.false_and, Bool.and_false, Bool.true_or, Bool.or_true, Bool.false_or, Bool.or_false, Bool.not_true, Bool.not_false]
      rfl
    · simp only [o_walker, c4, if_true, if_false, eq_self, decide_true, decide_false, not_true, not_false_eq_true, Bool.true_and, Bool.and_true, Bool.false_and, Bool.and_false, Bool.true_or, Bool.or_true, Bool.false_or, Bool.or_false, Bool.not_true, Bool.not_false]
      exact ⟨A, f1, f2, f3, HE.rf⟩
theorem Q_of {R A K : RS} {f1 f2 f3 : Int32} {kp : Bool} {tc : Nat → Int32} {x w : Int32} (hn : cnt R ≤ 8) : SpQ 11 mX4_of [.ref 0, .int x, .int w] (hC R A K f1 f2 f3 kp tc) (some (.int (o_of R K kp tc x w).1)) (qC (o_of R K kp tc x w).2) := by
  refine SpQ.of [some (.ref 0), some (.int x), some (.int w)] mrX4_of.1 (fun _ q => qC_len q) (Nat.le_of_ble_eq_true rfl) rfl (fun X => ?_)
  cases hb : hasB (cnt R) x with
  | false =>
    refine r_aload_n dX4_of_0 rfl ?_
    refine r_getfield dX4_of_1 gfX4_12 rfl rfl ?_
    refine r_iload_n dX4_of_4 rfl ?_
    refine r_v1r C_has (Nat.le_of_ble_eq_true rfl) mrX1_has lkX4_54 rfl rfl rfl dX4_of_5 (Nat.le_of_ble_eq_true rfl) ?_
    refine r_if_neB 18 dX4_of_8 (by decide) (fun c8 => ?_) (fun c8 => ?_)
    · exact absurd c8 (by rw [hb]; decide)
    · refine r_aload_n dX4_of_11 rfl ?_
      refine r_ldc kX4_45 dX4_of_12 ?_
      refine r_v1r (C_tell 0 (by decide) (by decide)) (Nat.le_of_ble_eq_true rfl) mrX4_tell lkX4_46 rfl rfl rfl dX4_of_14 (Nat.le_of_ble_eq_true rfl) ?_
      refine r_iret dX4_of_17 rfl rfl ?_ ?_
      · simp only [o_of, c8, if_true, if_false, eq_self, decide_true, decide_false, not_true, not_false_eq_true, Bool.true_and, Bool.and_true, Bool.false_and, Bool.and_false, Bool.true_or, Bool.or_true, Bool.false_or, Bool.or_false, Bool.not_true, Bool.not_false]
        rfl
      · simp only [o_of, c8, if_true, if_false, eq_self, decide_true, decide_false, not_true, not_false_eq_true, Bool.true_and, Bool.and_true, Bool.false_and, Bool.and_false, Bool.true_or, Bool.or_true, Bool.false_or, Bool.or_false, Bool.not_true, Bool.not_false]
        exact ⟨A, f1, f2, f3, HE.rf⟩
  | true =>
    obtain ⟨p, hp, rfl⟩ := hasB_of hb (by omega)
    have et : tn (nI p) = p := nI_clamp (by omega)
    refine r_aload_n dX4_of_0 rfl ?_
    refine r_getfield dX4_of_1 gfX4_12 rfl rfl ?_
    refine r_iload_n dX4_of_4 rfl ?_
    refine r_v1r C_has (Nat.le_of_ble_eq_true rfl) mrX1_has lkX4_54 rfl rfl rfl dX4_of_5 (Nat.le_of_ble_eq_true rfl) ?_
    refine r_if_neB 18 dX4_of_8 (by decide) (fun c8 => ?_) (fun c8 => ?_)
    · refine r_iload_n dX4_of_18 rfl ?_
      refine r_tsw 163 dX4_of_19 (by decide) (fun v19 h19 g19 e19 => ?_) (fun e19 => ?_)
      · rcases (show v19 = 0 ∨ v19 = 1 ∨ v19 = 2 ∨ v19 = 3 ∨ v19 = 4 ∨ v19 = 5 ∨ v19 = 6 ∨ v19 = 7 by omega) with rfl | rfl | rfl | rfl | rfl | rfl | rfl | rfl
        · refine ⟨45, 64, by decide, by decide, ?_⟩
          have c19 := toI_eq 0 e19 (by decide)
          refine r_aload_n dX4_of_64 rfl ?_
          refine r_getfield dX4_of_65 gfX4_12 rfl rfl ?_
          refine r_getfield dX4_of_68 gfX4_95 rfl rfl ?_
          refine r_iload_n dX4_of_71 rfl ?_
          refine r_ialdN dX4_of_72 rfl (by first | decide | omega) (Nat.le_of_ble_eq_true rfl) rfl ?_
          refine r_iret dX4_of_73 rfl rfl ?_ ?_
          · rw [c19, o_of, hb, et]; rfl
          · rw [c19, o_of, hb]
            exact ⟨A, f1, f2, f3, HE.rf⟩
        · refine ⟨55, 74, by decide, by decide, ?_⟩
          have c19 := toI_eq 1 e19 (by decide)
          refine r_aload_n dX4_of_74 rfl ?_
          refine r_getfield dX4_of_75 gfX4_12 rfl rfl ?_
          refine r_iload_n dX4_of_78 rfl ?_
          refine r_v1r C_paceOf (Nat.le_of_ble_eq_true rfl) mrX1_paceOf lkX4_98 rfl rfl rfl dX4_of_79 (Nat.le_of_ble_eq_true rfl) ?_
          refine r_iret dX4_of_82 rfl rfl ?_ ?_
          · rw [c19, o_of, hb, et]; rfl
          · rw [c19, o_of, hb]
            exact ⟨A, f1, f2, f3, HE.rf⟩
        · refine ⟨64, 83, by decide, by decide, ?_⟩
          have c19 := toI_eq 2 e19 (by decide)
          refine r_aload_n dX4_of_83 rfl ?_
          refine r_getfield dX4_of_84 gfX4_12 rfl rfl ?_
          refine r_getfield dX4_of_87 gfX4_101 rfl rfl ?_
          refine r_iload_n dX4_of_90 rfl ?_
          refine r_ialdN dX4_of_91 rfl (by first | decide | omega) (Nat.le_of_ble_eq_true rfl) rfl ?_
          refine r_iret dX4_of_92 rfl rfl ?_ ?_
          · rw [c19, o_of, hb, et]; rfl
          · rw [c19, o_of, hb]
            exact ⟨A, f1, f2, f3, HE.rf⟩
        · refine ⟨74, 93, by decide, by decide, ?_⟩
          have c19 := toI_eq 3 e19 (by decide)
          refine r_aload_n dX4_of_93 rfl ?_
          refine r_getfield dX4_of_94 gfX4_12 rfl rfl ?_
          refine r_getfield dX4_of_97 gfX4_104 rfl rfl ?_
          refine r_iload_n dX4_of_100 rfl ?_
          refine r_ialdN dX4_of_101 rfl (by first | decide | omega) (Nat.le_of_ble_eq_true rfl) rfl ?_
          refine r_iret dX4_of_102 rfl rfl ?_ ?_
          · rw [c19, o_of, hb, et]; rfl
          · rw [c19, o_of, hb]
            exact ⟨A, f1, f2, f3, HE.rf⟩
        · refine ⟨84, 103, by decide, by decide, ?_⟩
          have c19 := toI_eq 4 e19 (by decide)
          refine r_aload_n dX4_of_103 rfl ?_
          refine r_getfield dX4_of_104 gfX4_12 rfl rfl ?_
          refine r_getfield dX4_of_107 gfX4_107 rfl rfl ?_
          refine r_iload_n dX4_of_110 rfl ?_
          refine r_ialdN dX4_of_111 rfl (by first | decide | omega) (Nat.le_of_ble_eq_true rfl) rfl ?_
          refine r_iret dX4_of_112 rfl rfl ?_ ?_
          · rw [c19, o_of, hb, et]; rfl
          · rw [c19, o_of, hb]
            exact ⟨A, f1, f2, f3, HE.rf⟩
        · refine ⟨94, 113, by decide, by decide, ?_⟩
          have c19 := toI_eq 5 e19 (by decide)
          refine r_aload_n dX4_of_113 rfl ?_
          refine r_getfield dX4_of_114 gfX4_12 rfl rfl ?_
          refine r_getfield dX4_of_117 gfX4_95 rfl rfl ?_
          refine r_iload_n dX4_of_120 rfl ?_
          refine r_ialdN dX4_of_121 rfl (by first | decide | omega) (Nat.le_of_ble_eq_true rfl) rfl ?_
          refine r_s1r S_X4_shadeOf (Nat.le_of_ble_eq_true rfl) mrX4_shadeOf lkX4_110 dX4_of_122 (Nat.le_of_ble_eq_true rfl) ?_
          refine r_iret dX4_of_125 rfl rfl ?_ ?_
          · rw [c19, o_of, hb, et]; rfl
          · rw [c19, o_of, hb]
            exact ⟨A, f1, f2, f3, HE.rf⟩
        · refine ⟨107, 126, by decide, by decide, ?_⟩
          have c19 := toI_eq 6 e19 (by decide)
          refine r_aload_n dX4_of_126 rfl ?_
          refine r_getfield dX4_of_127 gfX4_12 rfl rfl ?_
          refine r_v0r (C_seeingSet hn) (Nat.le_of_ble_eq_true rfl) mrX1_seeingSet lkX4_113 rfl rfl rfl dX4_of_130 (Nat.le_of_ble_eq_true rfl) ?_
          refine r_iload_n dX4_of_133 rfl ?_
          refine r_s2r S_X4_isIn (Nat.le_of_ble_eq_true rfl) mrX4_isIn lkX4_116 dX4_of_134 (Nat.le_of_ble_eq_true rfl) ?_
          refine r_if_eqB 144 dX4_of_137 (by decide) (fun c137 => ?_) (fun c137 => ?_)
          · refine r_iconst (v := nI 0) dX4_of_144 (by decide) ?_
            refine r_iret dX4_of_145 rfl rfl ?_ ?_
            · rw [isIn_setOf _ (by omega) hp, seeG_P hn hp] at c137
              rw [c19, o_of, hb, et]
              first | exact ret_t c137 | exact ret_f c137
            · rw [c19, o_of, hb]
              exact ⟨A, f1, f2, f3, HE.rf⟩
          · refine r_iconst (v := nI 1) dX4_of_140 (by decide) ?_
            refine r_goto 145 dX4_of_141 (by decide) ?_
            refine r_iret dX4_of_145 rfl rfl ?_ ?_
            · rw [isIn_setOf _ (by omega) hp, seeG_P hn hp] at c137
              rw [c19, o_of, hb, et]
              first | exact ret_t c137 | exact ret_f c137
            · rw [c19, o_of, hb]
              exact ⟨A, f1, f2, f3, HE.rf⟩
        · refine ⟨127, 146, by decide, by decide, ?_⟩
          have c19 := toI_eq 7 e19 (by decide)
          refine r_aload_n dX4_of_146 rfl ?_
          refine r_getfield dX4_of_147 gfX4_12 rfl rfl ?_
          refine r_iload_n dX4_of_150 rfl ?_
          refine r_v1r (C_heeds (by omega)) (Nat.le_of_ble_eq_true rfl) mrX1_heeds lkX4_120 rfl rfl rfl dX4_of_151 (Nat.le_of_ble_eq_true rfl) ?_
          refine r_if_eqB 161 dX4_of_154 (by decide) (fun c154 => ?_) (fun c154 => ?_)
          · refine r_iconst (v := nI 0) dX4_of_161 (by decide) ?_
            refine r_iret dX4_of_162 rfl rfl ?_ ?_
            · rw [c19, o_of, hb, et]
              first | exact ret_t c154 | exact ret_f c154
            · rw [c19, o_of, hb]
              exact ⟨A, f1, f2, f3, HE.rf⟩
          · refine r_iconst (v := nI 1) dX4_of_157 (by decide) ?_
            refine r_goto 162 dX4_of_158 (by decide) ?_
            refine r_iret dX4_of_162 rfl rfl ?_ ?_
            · rw [c19, o_of, hb, et]
              first | exact ret_t c154 | exact ret_f c154
            · rw [c19, o_of, hb]
              exact ⟨A, f1, f2, f3, HE.rf⟩
      · have c19_0 := toI_ne 0 e19 (by decide)
        have c19_1 := toI_ne 1 e19 (by decide)
        have c19_2 := toI_ne 2 e19 (by decide)
        have c19_3 := toI_ne 3 e19 (by decide)
        have c19_4 := toI_ne 4 e19 (by decide)
        have c19_5 := toI_ne 5 e19 (by decide)
        have c19_6 := toI_ne 6 e19 (by decide)
        have c19_7 := toI_ne 7 e19 (by decide)
        refine r_aload_n dX4_of_163 rfl ?_
        refine r_ldc kX4_45 dX4_of_164 ?_
        refine r_v1r (C_tell 0 (by decide) (by decide)) (Nat.le_of_ble_eq_true rfl) mrX4_tell lkX4_46 rfl rfl rfl dX4_of_166 (Nat.le_of_ble_eq_true rfl) ?_
        refine r_iret dX4_of_169 rfl rfl ?_ ?_
        · simp only [o_of, c8, c19_0, c19_1, c19_2, c19_3, c19_4, c19_5, c19_6, c19_7, if_true, if_false, eq_self, decide_true, decide_false, not_true, not_false_eq_true, Bool.true_and, Bool.and_true, Bool.false_and, Bool.and_false, Bool.true_or, Bool.or_true, Bool.false_or, Bool.or_false, Bool.not_true, Bool.not_false]
          rfl
        · simp only [o_of, c8, c19_0, c19_1, c19_2, c19_3, c19_4, c19_5, c19_6, c19_7, if_true, if_false, eq_self, decide_true, decide_false, not_true, not_false_eq_true, Bool.true_and, Bool.and_true, Bool.false_and, Bool.and_false, Bool.true_or, Bool.or_true, Bool.false_or, Bool.or_false, Bool.not_true, Bool.not_false]
          exact ⟨A, f1, f2, f3, HE.rf⟩
    · exact absurd c8 (by rw [hb]; decide)
theorem Q_set {R A K : RS} {f1 f2 f3 : Int32} {kp : Bool} {tc : Nat → Int32} {x w v : Int32} (hn : cnt R ≤ 8) : SpQ 11 mX4_set [.ref 0, .int x, .int w, .int v] (hC R A K f1 f2 f3 kp tc) (some (.int (o_set R K kp tc x w v).1)) (qC (o_set R K kp tc x w v).2) := by
  refine SpQ.of [some (.ref 0), some (.int x), some (.int w), some (.int v)] mrX4_set.1 (fun _ q => qC_len q) (Nat.le_of_ble_eq_true rfl) rfl (fun X => ?_)
  cases hb : hasB (cnt R) x with
  | false =>
    refine r_aload_n dX4_set_0 rfl ?_
    refine r_getfield dX4_set_1 gfX4_12 rfl rfl ?_
    refine r_iload_n dX4_set_4 rfl ?_
    refine r_v1r C_has (Nat.le_of_ble_eq_true rfl) mrX1_has lkX4_54 rfl rfl rfl dX4_set_5 (Nat.le_of_ble_eq_true rfl) ?_
    refine r_if_neB 18 dX4_set_8 (by decide) (fun c8 => ?_) (fun c8 => ?_)
    · exact absurd c8 (by rw [hb]; decide)
    · refine r_aload_n dX4_set_11 rfl ?_
      refine r_ldc kX4_45 dX4_set_12 ?_
      refine r_v1r (C_tell 0 (by decide) (by decide)) (Nat.le_of_ble_eq_true rfl) mrX4_tell lkX4_46 rfl rfl rfl dX4_set_14 (Nat.le_of_ble_eq_true rfl) ?_
      refine r_iret dX4_set_17 rfl rfl ?_ ?_
      · simp only [o_set, c8, if_true, if_false, eq_self, decide_true, decide_false, not_true, not_false_eq_true, Bool.true_and, Bool.and_true, Bool.false_and, Bool.and_false, Bool.true_or, Bool.or_true, Bool.false_or, Bool.or_false, Bool.not_true, Bool.not_false]
        rfl
      · simp only [o_set, c8, if_true, if_false, eq_self, decide_true, decide_false, not_true, not_false_eq_true, Bool.true_and, Bool.and_true, Bool.false_and, Bool.and_false, Bool.true_or, Bool.or_true, Bool.false_or, Bool.or_false, Bool.not_true, Bool.not_false]
        exact ⟨A, f1, f2, f3, HE.rf⟩
  | true =>
    obtain ⟨p, hp, rfl⟩ := hasB_of hb (by omega)
    have et : tn (nI p) = p := nI_clamp (by omega)
    have J2t : w = nI 2 → inR v (nI 0) (nI 1) = true → RunQ X 11 mX4_set 44 [some (.ref 0), some (.int (nI p)), some (.int w), some (.int v)] [] (hC R A K f1 f2 f3 kp tc) (some (.int (o_set R K kp tc (nI p) w v).1)) (qC (o_set R K kp tc (nI p) w v).2) := by
      intro hw hv
      subst hw
      refine r_aload_n dX4_set_44 rfl ?_
      refine r_aload_n dX4_set_45 rfl ?_
      refine r_getfield dX4_set_46 gfX4_12 rfl rfl ?_
      refine r_getfield dX4_set_49 gfX4_101 rfl rfl ?_
      refine r_iload_n dX4_set_52 rfl ?_
      refine r_iload_n dX4_set_53 rfl ?_
      refine r_iconst (v := nI 1) dX4_set_54 (by decide) ?_
      refine r_v4r (C_put3t (by omega) hv) (Nat.le_of_ble_eq_true rfl) mrX4_put lkX4_123 rfl rfl rfl dX4_set_55 (Nat.le_of_ble_eq_true rfl) ?_
      refine r_iret dX4_set_58 rfl rfl ?_ ?_
      · rw [o_set, hb]
        simp only [hv, et]
        rfl
      · rw [o_set, hb]
        simp only [hv, et]
        exact ⟨A, f1, f2, f3, HE.rf⟩
    have J2f : w = nI 2 → inR v (nI 0) (nI 1) = false → RunQ X 11 mX4_set 44 [some (.ref 0), some (.int (nI p)), some (.int w), some (.int v)] [] (hC R A K f1 f2 f3 kp tc) (some (.int (o_set R K kp tc (nI p) w v).1)) (qC (o_set R K kp tc (nI p) w v).2) := by
      intro hw hv
      subst hw
      refine r_aload_n dX4_set_44 rfl ?_
      refine r_aload_n dX4_set_45 rfl ?_
      refine r_getfield dX4_set_46 gfX4_12 rfl rfl ?_
      refine r_getfield dX4_set_49 gfX4_101 rfl rfl ?_
      refine r_iload_n dX4_set_52 rfl ?_
      refine r_iload_n dX4_set_53 rfl ?_
      refine r_iconst (v := nI 1) dX4_set_54 (by decide) ?_
      refine r_v4r (C_put3f hv) (Nat.le_of_ble_eq_true rfl) mrX4_put lkX4_123 rfl rfl rfl dX4_set_55 (Nat.le_of_ble_eq_true rfl) ?_
      refine r_iret dX4_set_58 rfl rfl ?_ ?_
      · rw [o_set, hb]
        simp only [hv, et]
        rfl
      · rw [o_set, hb]
        simp only [hv, et]
        exact ⟨A, f1, f2, f3, HE.rf⟩
    have J3t : w = nI 3 → inR v (nI 0) (nI 9999) = true → RunQ X 11 mX4_set 59 [some (.ref 0), some (.int (nI p)), some (.int w), some (.int v)] [] (hC R A K f1 f2 f3 kp tc) (some (.int (o_set R K kp tc (nI p) w v).1)) (qC (o_set R K kp tc (nI p) w v).2) := by
      intro hw hv
      subst hw
      refine r_aload_n dX4_set_59 rfl ?_
      refine r_aload_n dX4_set_60 rfl ?_
      refine r_getfield dX4_set_61 gfX4_12 rfl rfl ?_
      refine r_getfield dX4_set_64 gfX4_104 rfl rfl ?_
      refine r_iload_n dX4_set_67 rfl ?_
      refine r_iload_n dX4_set_68 rfl ?_
      refine r_sipush (v := nI 9999) dX4_set_69 (by decide) ?_
      refine r_v4r (C_put4t (by omega) hv) (Nat.le_of_ble_eq_true rfl) mrX4_put lkX4_123 rfl rfl rfl dX4_set_72 (Nat.le_of_ble_eq_true rfl) ?_
      refine r_iret dX4_set_75 rfl rfl ?_ ?_
      · rw [o_set, hb]
        simp only [hv, et]
        rfl
      · rw [o_set, hb]
        simp only [hv, et]
        exact ⟨A, f1, f2, f3, HE.rf⟩
    have J3f : w = nI 3 → inR v (nI 0) (nI 9999) = false → RunQ X 11 mX4_set 59 [some (.ref 0), some (.int (nI p)), some (.int w), some (.int v)] [] (hC R A K f1 f2 f3 kp tc) (some (.int (o_set R K kp tc (nI p) w v).1)) (qC (o_set R K kp tc (nI p) w v).2) := by
      intro hw hv
      subst hw
      refine r_aload_n dX4_set_59 rfl ?_
      refine r_aload_n dX4_set_60 rfl ?_
      refine r_getfield dX4_set_61 gfX4_12 rfl rfl ?_
      refine r_getfield dX4_set_64 gfX4_104 rfl rfl ?_
      refine r_iload_n dX4_set_67 rfl ?_
      refine r_iload_n dX4_set_68 rfl ?_
      refine r_sipush (v := nI 9999) dX4_set_69 (by decide) ?_
      refine r_v4r (C_put4f hv) (Nat.le_of_ble_eq_true rfl) mrX4_put lkX4_123 rfl rfl rfl dX4_set_72 (Nat.le_of_ble_eq_true rfl) ?_
      refine r_iret dX4_set_75 rfl rfl ?_ ?_
      · rw [o_set, hb]
        simp only [hv, et]
        rfl
      · rw [o_set, hb]
        simp only [hv, et]
        exact ⟨A, f1, f2, f3, HE.rf⟩
    have J4t : w = nI 4 → inR v (nI 0) (nI 99) = true → RunQ X 11 mX4_set 76 [some (.ref 0), some (.int (nI p)), some (.int w), some (.int v)] [] (hC R A K f1 f2 f3 kp tc) (some (.int (o_set R K kp tc (nI p) w v).1)) (qC (o_set R K kp tc (nI p) w v).2) := by
      intro hw hv
      subst hw
      refine r_aload_n dX4_set_76 rfl ?_
      refine r_aload_n dX4_set_77 rfl ?_
      refine r_getfield dX4_set_78 gfX4_12 rfl rfl ?_
      refine r_getfield dX4_set_81 gfX4_107 rfl rfl ?_
      refine r_iload_n dX4_set_84 rfl ?_
      refine r_iload_n dX4_set_85 rfl ?_
      refine r_bipush (v := nI 99) dX4_set_86 (by decide) ?_
      refine r_v4r (C_put5t (by omega) hv) (Nat.le_of_ble_eq_true rfl) mrX4_put lkX4_123 rfl rfl rfl dX4_set_88 (Nat.le_of_ble_eq_true rfl) ?_
      refine r_iret dX4_set_91 rfl rfl ?_ ?_
      · rw [o_set, hb]
        simp only [hv, et]
        rfl
      · rw [o_set, hb]
        simp only [hv, et]
        exact ⟨A, f1, f2, f3, HE.rf⟩
    have J4f : w = nI 4 → inR v (nI 0) (nI 99) = false → RunQ X 11 mX4_set 76 [some (.ref 0), some (.int (nI p)), some (.int w), some (.int v)] [] (hC R A K f1 f2 f3 kp tc) (some (.int (o_set R K kp tc (nI p) w v).1)) (qC (o_set R K kp tc (nI p) w v).2) := by
      intro hw hv
      subst hw
      refine r_aload_n dX4_set_76 rfl ?_
      refine r_aload_n dX4_set_77 rfl ?_
      refine r_getfield dX4_set_78 gfX4_12 rfl rfl ?_
      refine r_getfield dX4_set_81 gfX4_107 rfl rfl ?_
      refine r_iload_n dX4_set_84 rfl ?_
      refine r_iload_n dX4_set_85 rfl ?_
      refine r_bipush (v := nI 99) dX4_set_86 (by decide) ?_
      refine r_v4r (C_put5f hv) (Nat.le_of_ble_eq_true rfl) mrX4_put lkX4_123 rfl rfl rfl dX4_set_88 (Nat.le_of_ble_eq_true rfl) ?_
      refine r_iret dX4_set_91 rfl rfl ?_ ?_
      · rw [o_set, hb]
        simp only [hv, et]
        rfl
      · rw [o_set, hb]
        simp only [hv, et]
        exact ⟨A, f1, f2, f3, HE.rf⟩
    refine r_aload_n dX4_set_0 rfl ?_
    refine r_getfield dX4_set_1 gfX4_12 rfl rfl ?_
    refine r_iload_n dX4_set_4 rfl ?_
    refine r_v1r C_has (Nat.le_of_ble_eq_true rfl) mrX1_has lkX4_54 rfl rfl rfl dX4_set_5 (Nat.le_of_ble_eq_true rfl) ?_
    refine r_if_neB 18 dX4_set_8 (by decide) (fun c8 => ?_) (fun c8 => ?_)
    · refine r_iload_n dX4_set_18 rfl ?_
      refine r_tsw 92 dX4_set_19 (by decide) (fun v19 h19 g19 e19 => ?_) (fun e19 => ?_)
      · rcases (show v19 = 2 ∨ v19 = 3 ∨ v19 = 4 by omega) with rfl | rfl | rfl
        · refine ⟨25, 44, by decide, by decide, ?_⟩
          have c19 := toI_eq 2 e19 (by decide)
          cases hv : inR v (nI 0) (nI 1) with
          | true => exact J2t c19 hv
          | false => exact J2f c19 hv
        · refine ⟨40, 59, by decide, by decide, ?_⟩
          have c19 := toI_eq 3 e19 (by decide)
          cases hv : inR v (nI 0) (nI 9999) with
          | true => exact J3t c19 hv
          | false => exact J3f c19 hv
        · refine ⟨57, 76, by decide, by decide, ?_⟩
          have c19 := toI_eq 4 e19 (by decide)
          cases hv : inR v (nI 0) (nI 99) with
          | true => exact J4t c19 hv
          | false => exact J4f c19 hv
      · have c19_2 := toI_ne 2 e19 (by decide)
        have c19_3 := toI_ne 3 e19 (by decide)
        have c19_4 := toI_ne 4 e19 (by decide)
        refine r_aload_n dX4_set_92 rfl ?_
        refine r_ldc kX4_45 dX4_set_93 ?_
        refine r_v1r (C_tell 0 (by decide) (by decide)) (Nat.le_of_ble_eq_true rfl) mrX4_tell lkX4_46 rfl rfl rfl dX4_set_95 (Nat.le_of_ble_eq_true rfl) ?_
        refine r_iret dX4_set_98 rfl rfl ?_ ?_
        · simp only [o_set, c8, c19_2, c19_3, c19_4, if_true, if_false, eq_self, decide_true, decide_false, not_true, not_false_eq_true, Bool.true_and, Bool.and_true, Bool.false_and, Bool.and_false, Bool.true_or, Bool.or_true, Bool.false_or, Bool.or_false, Bool.not_true, Bool.not_false]
          rfl
        · simp only [o_set, c8, c19_2, c19_3, c19_4, if_true, if_false, eq_self, decide_true, decide_false, not_true, not_false_eq_true, Bool.true_and, Bool.and_true, Bool.false_and, Bool.and_false, Bool.true_or, Bool.or_true, Bool.false_or, Bool.or_false, Bool.not_true, Bool.not_false]
          exact ⟨A, f1, f2, f3, HE.rf⟩
    · exact absurd c8 (by rw [hb]; decide)
theorem Q_swap {R A K : RS} {f1 f2 f3 : Int32} {kp : Bool} {tc : Nat → Int32} {x y : Int32} (hn : cnt R ≤ 8) : SpQ 11 mX4_swap [.ref 0, .int x, .int y] (hC R A K f1 f2 f3 kp tc) (some (.int (o_swap R K kp tc x y).1)) (qC (o_swap R K kp tc x y).2) := by
  refine SpQ.of [some (.ref 0), some (.int x), some (.int y)] mrX4_swap.1 (fun _ q => qC_len q) (Nat.le_of_ble_eq_true rfl) rfl (fun X => ?_)
  refine r_aload_n dX4_swap_0 rfl ?_
  refine r_getfield dX4_swap_1 gfX4_12 rfl rfl ?_
  refine r_iload_n dX4_swap_4 rfl ?_
  refine r_v1r C_has (Nat.le_of_ble_eq_true rfl) mrX1_has lkX4_54 rfl rfl rfl dX4_swap_5 (Nat.le_of_ble_eq_true rfl) ?_
  refine r_if_eqB 27 dX4_swap_8 (by decide) (fun c8 => ?_) (fun c8 => ?_)
  · refine r_aload_n dX4_swap_27 rfl ?_
    refine r_ldc kX4_45 dX4_swap_28 ?_
    refine r_v1r (C_tell 0 (by decide) (by decide)) (Nat.le_of_ble_eq_true rfl) mrX4_tell lkX4_46 rfl rfl rfl dX4_swap_30 (Nat.le_of_ble_eq_true rfl) ?_
    refine r_iret dX4_swap_33 rfl rfl ?_ ?_
    · simp only [o_swap, c8, if_true, if_false, eq_self, decide_true, decide_false, not_true, not_false_eq_true, Bool.true_and, Bool.and_true, Bool.false_and, Bool.and_false, Bool.true_or, Bool.or_true, Bool.false_or, Bool.or_false, Bool.not_true, Bool.not_false]
      rfl
    · simp only [o_swap, c8, if_true, if_false, eq_self, decide_true, decide_false, not_true, not_false_eq_true, Bool.true_and, Bool.and_true, Bool.false_and, Bool.and_false, Bool.true_or, Bool.or_true, Bool.false_or, Bool.or_false, Bool.not_true, Bool.not_false]
      exact ⟨A, f1, f2, f3, HE.rf⟩
  · refine r_aload_n dX4_swap_11 rfl ?_
    refine r_getfield dX4_swap_12 gfX4_12 rfl rfl ?_
    refine r_iload_n dX4_swap_15 rfl ?_
    refine r_v1r C_has (Nat.le_of_ble_eq_true rfl) mrX1_has lkX4_54 rfl rfl rfl dX4_swap_16 (Nat.le_of_ble_eq_true rfl) ?_
    refine r_if_eqB 27 dX4_swap_19 (by decide) (fun c19 => ?_) (fun c19 => ?_)
    · refine r_aload_n dX4_swap_27 rfl ?_
      refine r_ldc kX4_45 dX4_swap_28 ?_
      refine r_v1r (C_tell 0 (by decide) (by decide)) (Nat.le_of_ble_eq_true rfl) mrX4_tell lkX4_46 rfl rfl rfl dX4_swap_30 (Nat.le_of_ble_eq_true rfl) ?_
      refine r_iret dX4_swap_33 rfl rfl ?_ ?_
      · simp only [o_swap, c8, c19, if_true, if_false, eq_self, decide_true, decide_false, not_true, not_false_eq_true, Bool.true_and, Bool.and_true, Bool.false_and, Bool.and_false, Bool.true_or, Bool.or_true, Bool.false_or, Bool.or_false, Bool.not_true, Bool.not_false]
        rfl
      · simp only [o_swap, c8, c19, if_true, if_false, eq_self, decide_true, decide_false, not_true, not_false_eq_true, Bool.true_and, Bool.and_true, Bool.false_and, Bool.and_false, Bool.true_or, Bool.or_true, Bool.false_or, Bool.or_false, Bool.not_true, Bool.not_false]
        exact ⟨A, f1, f2, f3, HE.rf⟩
    · refine r_iload_n dX4_swap_22 rfl ?_
      refine r_iload_n dX4_swap_23 rfl ?_
      refine r_icmp_ne 34 dX4_swap_24 (by decide) (fun c24 => ?_) (fun c24 => ?_)
      · obtain ⟨p, hp, rfl⟩ := hasB_of c8 (by omega)
        obtain ⟨o, ho, rfl⟩ := hasB_of c19 (by omega)
        have et : tn (nI p) = p := nI_clamp (by omega)
        have eo : tn (nI o) = o := nI_clamp (by omega)
        refine r_aload_n dX4_swap_34 rfl ?_
        refine r_getfield dX4_swap_35 gfX4_12 rfl rfl ?_
        refine r_iload_n dX4_swap_38 rfl ?_
        refine r_iload_n dX4_swap_39 rfl ?_
        refine r_v2n (C_exch1 hn hp ho) (Nat.le_of_ble_eq_true rfl) mrX1_exchange lkX4_127 rfl rfl rfl dX4_swap_40 (Nat.le_of_ble_eq_true rfl) ?_
        refine r_iconst (v := nI 1) dX4_swap_43 (by decide) ?_
        refine r_iret dX4_swap_44 rfl rfl ?_ ?_
        · simp only [o_swap, c8, c19, c24, if_true, if_false, eq_self, decide_true, decide_false, not_true, not_false_eq_true, Bool.true_and, Bool.and_true, Bool.false_and, Bool.and_false, Bool.true_or, Bool.or_true, Bool.false_or, Bool.or_false, Bool.not_true, Bool.not_false]
        · simp only [o_swap, c8, c19, c24, if_true, if_false, eq_self, decide_true, decide_false, not_true, not_false_eq_true, Bool.true_and, Bool.and_true, Bool.false_and, Bool.and_false, Bool.true_or, Bool.or_true, Bool.false_or, Bool.or_false, Bool.not_true, Bool.not_false]
          rw [et, eo]
          exact ⟨A, f1, f2, f3, HE.rf⟩
      · refine r_aload_n dX4_swap_27 rfl ?_
        refine r_ldc kX4_45 dX4_swap_28 ?_
        refine r_v1r (C_tell 0 (by decide) (by decide)) (Nat.le_of_ble_eq_true rfl) mrX4_tell lkX4_46 rfl rfl rfl dX4_swap_30 (Nat.le_of_ble_eq_true rfl) ?_
        refine r_iret dX4_swap_33 rfl rfl ?_ ?_
        · simp only [o_swap, c8, c19, c24, if_true, if_false, eq_self, decide_true, decide_false, not_true, not_false_eq_true, Bool.true_and, Bool.and_true, Bool.false_and, Bool.and_false, Bool.true_or, Bool.or_true, Bool.false_or, Bool.or_false, Bool.not_true, Bool.not_false]
          rfl
        · simp only [o_swap, c8, c19, c24, if_true, if_false, eq_self, decide_true, decide_false, not_true, not_false_eq_true, Bool.true_and, Bool.and_true, Bool.false_and, Bool.and_false, Bool.true_or, Bool.or_true, Bool.false_or, Bool.or_false, Bool.not_true, Bool.not_false]
          exact ⟨A, f1, f2, f3, HE.rf⟩
theorem Q_turn {R A K : RS} {f1 f2 f3 : Int32} {kp : Bool} {tc : Nat → Int32} {x k : Int32} (hn : cnt R ≤ 8) : SpQ 11 mX4_turn [.ref 0, .int x, .int k] (hC R A K f1 f2 f3 kp tc) (some (.int (o_turn R K kp tc x k).1)) (qC (o_turn R K kp tc x k).2) := by
  refine SpQ.of [some (.ref 0), some (.int x), some (.int k), none] mrX4_turn.1 (fun _ q => qC_len q) (Nat.le_of_ble_eq_true rfl) rfl (fun X => ?_)
  refine r_aload_n dX4_turn_0 rfl ?_
  refine r_getfield dX4_turn_1 gfX4_12 rfl rfl ?_
  refine r_iload_n dX4_turn_4 rfl ?_
  refine r_v1r C_has (Nat.le_of_ble_eq_true rfl) mrX1_has lkX4_54 rfl rfl rfl dX4_turn_5 (Nat.le_of_ble_eq_true rfl) ?_
  refine r_if_eqB 18 dX4_turn_8 (by decide) (fun c8 => ?_) (fun c8 => ?_)
  · refine r_aload_n dX4_turn_18 rfl ?_
    refine r_ldc kX4_45 dX4_turn_19 ?_
    refine r_v1r (C_tell 0 (by decide) (by decide)) (Nat.le_of_ble_eq_true rfl) mrX4_tell lkX4_46 rfl rfl rfl dX4_turn_21 (Nat.le_of_ble_eq_true rfl) ?_
    refine r_iret dX4_turn_24 rfl rfl ?_ ?_
    · simp only [o_turn, c8, if_true, if_false, eq_self, decide_true, decide_false, not_true, not_false_eq_true, Bool.true_and, Bool.and_true, Bool.false_and, Bool.and_false, Bool.true_or, Bool.or_true, Bool.false_or, Bool.or_false, Bool.not_true, Bool.not_false]
      rfl
    · simp only [o_turn, c8, if_true, if_false, eq_self, decide_true, decide_false, not_true, not_false_eq_true, Bool.true_and, Bool.and_true, Bool.false_and, Bool.and_false, Bool.true_or, Bool.or_true, Bool.false_or, Bool.or_false, Bool.not_true, Bool.not_false]
      exact ⟨A, f1, f2, f3, HE.rf⟩
  · refine r_iload_n dX4_turn_11 rfl ?_
    refine r_s1r S_X4_isKind (Nat.le_of_ble_eq_true rfl) mrX4_isKind lkX4_80 dX4_turn_12 (Nat.le_of_ble_eq_true rfl) ?_
    refine r_if_neB 25 dX4_turn_15 (by decide) (fun c15 => ?_) (fun c15 => ?_)
    · obtain ⟨p, hp, rfl⟩ := hasB_of c8 (by omega)
      have et : tn (nI p) = p := nI_clamp (by omega)
      refine r_aload_n dX4_turn_25 rfl ?_
      refine r_getfield dX4_turn_26 gfX4_12 rfl rfl ?_
      refine r_getfield dX4_turn_29 gfX4_95 rfl rfl ?_
      refine r_iload_n dX4_turn_32 rfl ?_
      refine r_ialdN dX4_turn_33 rfl (by first | decide | omega) (Nat.le_of_ble_eq_true rfl) rfl ?_
      refine r_istore_n (lv' := [_, _, _, _]) dX4_turn_34 (by decide) rfl ?_
      refine r_aload_n dX4_turn_35 rfl ?_
      refine r_getfield dX4_turn_36 gfX4_12 rfl rfl ?_
      refine r_getfield dX4_turn_39 gfX4_95 rfl rfl ?_
      refine r_iload_n dX4_turn_42 rfl ?_
      refine r_iload_n dX4_turn_43 rfl ?_
      refine r_iastN (h' := [_, _, _, _, _, _, _, _, _, _, _, _, _, _, _, _, _]) dX4_turn_44 rfl (by first | decide | omega) (Nat.le_of_ble_eq_true rfl) rfl ?_
      refine r_iload_n dX4_turn_45 rfl ?_
      refine r_iret dX4_turn_46 rfl rfl ?_ ?_
      · simp only [o_turn, c8, c15, if_true, if_false, eq_self, decide_true, decide_false, not_true, not_false_eq_true, Bool.true_and, Bool.and_true, Bool.false_and, Bool.and_false, Bool.true_or, Bool.or_true, Bool.false_or, Bool.or_false, Bool.not_true, Bool.not_false]
        rw [et]
      · simp only [o_turn, c8, c15, if_true, if_false, eq_self, decide_true, decide_false, not_true, not_false_eq_true, Bool.true_and, Bool.and_true, Bool.false_and, Bool.and_false, Bool.true_or, Bool.or_true, Bool.false_or, Bool.or_false, Bool.not_true, Bool.not_false]
        rw [et]
        exact ⟨A, f1, f2, f3, HE.rf⟩
    · refine r_aload_n dX4_turn_18 rfl ?_
      refine r_ldc kX4_45 dX4_turn_19 ?_
      refine r_v1r (C_tell 0 (by decide) (by decide)) (Nat.le_of_ble_eq_true rfl) mrX4_tell lkX4_46 rfl rfl rfl dX4_turn_21 (Nat.le_of_ble_eq_true rfl) ?_
      refine r_iret dX4_turn_24 rfl rfl ?_ ?_
      · simp only [o_turn, c8, c15, if_true, if_false, eq_self, decide_true, decide_false, not_true, not_false_eq_true, Bool.true_and, Bool.and_true, Bool.false_and, Bool.and_false, Bool.true_or, Bool.or_true, Bool.false_or, Bool.or_false, Bool.not_true, Bool.not_false]
        rfl
      · simp only [o_turn, c8, c15, if_true, if_false, eq_self, decide_true, decide_false, not_true, not_false_eq_true, Bool.true_and, Bool.and_true, Bool.false_and, Bool.and_false, Bool.true_or, Bool.or_true, Bool.false_or, Bool.or_false, Bool.not_true, Bool.not_false]
        exact ⟨A, f1, f2, f3, HE.rf⟩
theorem Q_steps {R A K : RS} {f1 f2 f3 : Int32} {kp : Bool} {tc : Nat → Int32} {m : Int32} (hn : cnt R ≤ 8) : SpQ 11 mX4_steps [.ref 0, .int m] (hC R A K f1 f2 f3 kp tc) (some (.int (o_steps R K kp tc m).1)) (qC (o_steps R K kp tc m).2) := by
  refine SpQ.of [some (.ref 0), some (.int m)] mrX4_steps.1 (fun _ q => qC_len q) (Nat.le_of_ble_eq_true rfl) rfl (fun X => ?_)
  refine r_iload_n dX4_steps_0 rfl ?_
  refine r_iconst (v := nI 1) dX4_steps_1 (by decide) ?_
  refine r_sipush (v := nI 200) dX4_steps_2 (by decide) ?_
  refine r_s3r S_X4_within (Nat.le_of_ble_eq_true rfl) mrX4_within lkX4_41 dX4_steps_5 (Nat.le_of_ble_eq_true rfl) ?_
  refine r_if_neB 18 dX4_steps_8 (by decide) (fun c8 => ?_) (fun c8 => ?_)
  · refine r_aload_n dX4_steps_18 rfl ?_
    refine r_getfield dX4_steps_19 gfX4_12 rfl rfl ?_
    refine r_getfield dX4_steps_22 gfX4_64 rfl rfl ?_
    refine r_ldc kX4_135 dX4_steps_25 ?_
    refine r_iload_n dX4_steps_27 rfl ?_
    refine r_isub dX4_steps_28 ?_
    refine r_icmp_le 39 dX4_steps_29 (by decide) (fun c29 => ?_) (fun c29 => ?_)
    · obtain ⟨m, h1, h2, rfl⟩ := inR_of c8 (by decide) (by decide)
      have et : tn (nI m) = m := nI_clamp (by omega)
      refine r_aload_n dX4_steps_39 rfl ?_
      refine r_getfield dX4_steps_40 gfX4_12 rfl rfl ?_
      refine r_iload_n dX4_steps_43 rfl ?_
      refine r_v1n (C_goSteps1 hn (by omega)) (Nat.le_of_ble_eq_true rfl) mrX1_goSteps lkX4_137 rfl rfl rfl dX4_steps_44 (Nat.le_of_ble_eq_true rfl) ?_
      refine r_aload_n dX4_steps_47 rfl ?_
      refine r_getfield dX4_steps_48 gfX4_12 rfl rfl ?_
      refine r_v0r (C_allSt1 (by rw [stpN_cnt]; exact hn)) (Nat.le_of_ble_eq_true rfl) mrX1_allStumbled lkX4_77 rfl rfl rfl dX4_steps_51 (Nat.le_of_ble_eq_true rfl) ?_
      refine r_iret dX4_steps_54 rfl rfl ?_ ?_
      · simp only [o_steps, c8, c29, if_true, if_false, eq_self, decide_true, decide_false, not_true, not_false_eq_true, Bool.true_and, Bool.and_true, Bool.false_and, Bool.and_false, Bool.true_or, Bool.or_true, Bool.false_or, Bool.or_false, Bool.not_true, Bool.not_false]
        rw [et, stpN_cnt]
      · simp only [o_steps, c8, c29, if_true, if_false, eq_self, decide_true, decide_false, not_true, not_false_eq_true, Bool.true_and, Bool.and_true, Bool.false_and, Bool.and_false, Bool.true_or, Bool.or_true, Bool.false_or, Bool.or_false, Bool.not_true, Bool.not_false]
        rw [et]
        exact ⟨A, stpFN m R f1, f2, f3, HE.rf⟩
    · refine r_aload_n dX4_steps_32 rfl ?_
      refine r_ldc kX4_136 dX4_steps_33 ?_
      refine r_v1r (C_tell 4 (by decide) (by decide)) (Nat.le_of_ble_eq_true rfl) mrX4_tell lkX4_46 rfl rfl rfl dX4_steps_35 (Nat.le_of_ble_eq_true rfl) ?_
      refine r_iret dX4_steps_38 rfl rfl ?_ ?_
      · simp only [o_steps, c8, c29, if_true, if_false, eq_self, decide_true, decide_false, not_true, not_false_eq_true, Bool.true_and, Bool.and_true, Bool.false_and, Bool.and_false, Bool.true_or, Bool.or_true, Bool.false_or, Bool.or_false, Bool.not_true, Bool.not_false]
        rfl
      · simp only [o_steps, c8, c29, if_true, if_false, eq_self, decide_true, decide_false, not_true, not_false_eq_true, Bool.true_and, Bool.and_true, Bool.false_and, Bool.and_false, Bool.true_or, Bool.or_true, Bool.false_or, Bool.or_false, Bool.not_true, Bool.not_false]
        exact ⟨A, f1, f2, f3, HE.rf⟩
  · refine r_aload_n dX4_steps_11 rfl ?_
    refine r_ldc kX4_45 dX4_steps_12 ?_
    refine r_v1r (C_tell 0 (by decide) (by decide)) (Nat.le_of_ble_eq_true rfl) mrX4_tell lkX4_46 rfl rfl rfl dX4_steps_14 (Nat.le_of_ble_eq_true rfl) ?_
    refine r_iret dX4_steps_17 rfl rfl ?_ ?_
    · simp only [o_steps, c8, if_true, if_false, eq_self, decide_true, decide_false, not_true, not_false_eq_true, Bool.true_and, Bool.and_true, Bool.false_and, Bool.and_false, Bool.true_or, Bool.or_true, Bool.false_or, Bool.or_false, Bool.not_true, Bool.not_false]
      rfl
    · simp only [o_steps, c8, if_true, if_false, eq_self, decide_true, decide_false, not_true, not_false_eq_true, Bool.true_and, Bool.and_true, Bool.false_and, Bool.and_false, Bool.true_or, Bool.or_true, Bool.false_or, Bool.or_false, Bool.not_true, Bool.not_false]
      exact ⟨A, f1, f2, f3, HE.rf⟩
theorem Q_on {R A K : RS} {f1 f2 f3 : Int32} {kp : Bool} {tc : Nat → Int32} {x m w : Int32} (hn : cnt R ≤ 8) : SpQ 11 mX4_on [.ref 0, .int x, .int m, .int w] (hC R A K f1 f2 f3 kp tc) (some (.int (o_on R K kp tc x m w).1)) (qC (o_on R K kp tc x m w).2) := by
  refine SpQ.of [some (.ref 0), some (.int x), some (.int m), some (.int w)] mrX4_on.1 (fun _ q => qC_len q) (Nat.le_of_ble_eq_true rfl) rfl (fun X => ?_)
  refine r_aload_n dX4_on_0 rfl ?_
  refine r_getfield dX4_on_1 gfX4_12 rfl rfl ?_
  refine r_iload_n dX4_on_4 rfl ?_
  refine r_v1r C_has (Nat.le_of_ble_eq_true rfl) mrX1_has lkX4_54 rfl rfl rfl dX4_on_5 (Nat.le_of_ble_eq_true rfl) ?_
  refine r_if_eqB 31 dX4_on_8 (by decide) (fun c8 => ?_) (fun c8 => ?_)
  · refine r_aload_n dX4_on_31 rfl ?_
    refine r_ldc kX4_45 dX4_on_32 ?_
    refine r_v1r (C_tell 0 (by decide) (by decide)) (Nat.le_of_ble_eq_true rfl) mrX4_tell lkX4_46 rfl rfl rfl dX4_on_34 (Nat.le_of_ble_eq_true rfl) ?_
    refine r_iret dX4_on_37 rfl rfl ?_ ?_
    · simp only [o_on, c8, if_true, if_false, eq_self, decide_true, decide_false, not_true, not_false_eq_true, Bool.true_and, Bool.and_true, Bool.false_and, Bool.and_false, Bool.true_or, Bool.or_true, Bool.false_or, Bool.or_false, Bool.not_true, Bool.not_false]
      rfl
    · simp only [o_on, c8, if_true, if_false, eq_self, decide_true, decide_false, not_true, not_false_eq_true, Bool.true_and, Bool.and_true, Bool.false_and, Bool.and_false, Bool.true_or, Bool.or_true, Bool.false_or, Bool.or_false, Bool.not_true, Bool.not_false]
      exact ⟨A, f1, f2, f3, HE.rf⟩
  · refine r_iload_n dX4_on_11 rfl ?_
    refine r_iconst (v := nI 0) dX4_on_12 (by decide) ?_
    refine r_sipush (v := nI 300) dX4_on_13 (by decide) ?_
    refine r_s3r S_X4_within (Nat.le_of_ble_eq_true rfl) mrX4_within lkX4_41 dX4_on_16 (Nat.le_of_ble_eq_true rfl) ?_
    refine r_if_eqB 31 dX4_on_19 (by decide) (fun c19 => ?_) (fun c19 => ?_)
    · refine r_aload_n dX4_on_31 rfl ?_
      refine r_ldc kX4_45 dX4_on_32 ?_
      refine r_v1r (C_tell 0 (by decide) (by decide)) (Nat.le_of_ble_eq_true rfl) mrX4_tell lkX4_46 rfl rfl rfl dX4_on_34 (Nat.le_of_ble_eq_true rfl) ?_
      refine r_iret dX4_on_37 rfl rfl ?_ ?_
      · simp only [o_on, c8, c19, if_true, if_false, eq_self, decide_true, decide_false, not_true, not_false_eq_true, Bool.true_and, Bool.and_true, Bool.false_and, Bool.and_false, Bool.true_or, Bool.or_true, Bool.false_or, Bool.or_false, Bool.not_true, Bool.not_false]
        rfl
      · simp only [o_on, c8, c19, if_true, if_false, eq_self, decide_true, decide_false, not_true, not_false_eq_true, Bool.true_and, Bool.and_true, Bool.false_and, Bool.and_false, Bool.true_or, Bool.or_true, Bool.false_or, Bool.or_false, Bool.not_true, Bool.not_false]
        exact ⟨A, f1, f2, f3, HE.rf⟩
    · refine r_iload_n dX4_on_22 rfl ?_
      refine r_iconst (v := nI 0) dX4_on_23 (by decide) ?_
      refine r_iconst (v := nI 2) dX4_on_24 (by decide) ?_
      refine r_s3r S_X4_within (Nat.le_of_ble_eq_true rfl) mrX4_within lkX4_41 dX4_on_25 (Nat.le_of_ble_eq_true rfl) ?_
      refine r_if_neB 38 dX4_on_28 (by decide) (fun c28 => ?_) (fun c28 => ?_)
      · obtain ⟨p, hp, rfl⟩ := hasB_of c8 (by omega)
        have et : tn (nI p) = p := nI_clamp (by omega)
        obtain ⟨m, h1, h2, rfl⟩ := inR_of c19 (by decide) (by decide)
        have em : tn (nI m) = m := nI_clamp (by omega)
        refine r_aload_n dX4_on_38 rfl ?_
        refine r_v0n C_lookAhead (Nat.le_of_ble_eq_true rfl) mrX4_lookAhead lkX4_140 rfl rfl rfl dX4_on_39 (Nat.le_of_ble_eq_true rfl) ?_
        refine r_aload_n dX4_on_42 rfl ?_
        refine r_getfield dX4_on_43 gfX4_16 rfl rfl ?_
        refine r_iload_n dX4_on_46 rfl ?_
        refine r_v1n (C_goSteps6 hn (by omega)) (Nat.le_of_ble_eq_true rfl) mrX1_goSteps lkX4_137 rfl rfl rfl dX4_on_47 (Nat.le_of_ble_eq_true rfl) ?_
        refine r_iload_n dX4_on_50 rfl ?_
        by_cases c51_0 : w = nI 0
        · refine r_lsw dX4_on_51 (by decide) ⟨25, 76, (by rw [c51_0]; decide), by decide, ?_⟩
          refine r_aload_n dX4_on_76 rfl ?_
          refine r_getfield dX4_on_77 gfX4_16 rfl rfl ?_
          refine r_getfield dX4_on_80 gfX4_101 rfl rfl ?_
          refine r_iload_n dX4_on_83 rfl ?_
          refine r_ialdN dX4_on_84 rfl (by first | decide | omega) (Nat.le_of_ble_eq_true rfl) rfl ?_
          refine r_iret dX4_on_85 rfl rfl ?_ ?_
          · subst c51_0
            simp only [o_on, c8, c19, c28, et, em]
            rfl
          · simp only [o_on, c8, c19, c28, c51_0, if_true, if_false, eq_self, decide_true, decide_false, not_true, not_false_eq_true, Bool.true_and, Bool.and_true, Bool.false_and, Bool.and_false, Bool.true_or, Bool.or_true, Bool.false_or, Bool.or_false, Bool.not_true, Bool.not_false]
            exact ⟨stpN m R, f1, stpFN m R f2, f3, HE.rf⟩
        · by_cases c51_1 : w = nI 1
          · refine r_lsw dX4_on_51 (by decide) ⟨35, 86, (by rw [c51_1]; decide), by decide, ?_⟩
            refine r_aload_n dX4_on_86 rfl ?_
            refine r_getfield dX4_on_87 gfX4_16 rfl rfl ?_
            refine r_getfield dX4_on_90 gfX4_104 rfl rfl ?_
            refine r_iload_n dX4_on_93 rfl ?_
            refine r_ialdN dX4_on_94 rfl (by first | decide | omega) (Nat.le_of_ble_eq_true rfl) rfl ?_
            refine r_iret dX4_on_95 rfl rfl ?_ ?_
            · subst c51_1
              simp only [o_on, c8, c19, c28, et, em]
              rfl
            · simp only [o_on, c8, c19, c28, c51_0, c51_1, if_true, if_false, eq_self, decide_true, decide_false, not_true, not_false_eq_true, Bool.true_and, Bool.and_true, Bool.false_and, Bool.and_false, Bool.true_or, Bool.or_true, Bool.false_or, Bool.or_false, Bool.not_true, Bool.not_false]
              exact ⟨stpN m R, f1, stpFN m R f2, f3, HE.rf⟩
          · refine r_lsw dX4_on_51 (by decide) ⟨45, 96, lsw_d (by intro q hq; simp only [List.mem_cons, List.not_mem_nil, or_false] at hq; rcases hq with rfl | rfl <;> first | exact toI_nq c51_0 (by decide) | exact toI_nq c51_1 (by decide)), by decide, ?_⟩
            refine r_aload_n dX4_on_96 rfl ?_
            refine r_getfield dX4_on_97 gfX4_16 rfl rfl ?_
            refine r_getfield dX4_on_100 gfX4_107 rfl rfl ?_
            refine r_iload_n dX4_on_103 rfl ?_
            refine r_ialdN dX4_on_104 rfl (by first | decide | omega) (Nat.le_of_ble_eq_true rfl) rfl ?_
            refine r_iret dX4_on_105 rfl rfl ?_ ?_
            · simp only [o_on, c8, c19, c28, c51_0, c51_1, if_true, if_false, eq_self, decide_true, decide_false, not_true, not_false_eq_true, Bool.true_and, Bool.and_true, Bool.false_and, Bool.and_false, Bool.true_or, Bool.or_true, Bool.false_or, Bool.or_false, Bool.not_true, Bool.not_false]
              rw [et, em]
            · simp only [o_on, c8, c19, c28, c51_0, c51_1, if_true, if_false, eq_self, decide_true, decide_false, not_true, not_false_eq_true, Bool.true_and, Bool.and_true, Bool.false_and, Bool.and_false, Bool.true_or, Bool.or_true, Bool.false_or, Bool.or_false, Bool.not_true, Bool.not_false]
              exact ⟨stpN m R, f1, stpFN m R f2, f3, HE.rf⟩
      · refine r_aload_n dX4_on_31 rfl ?_
        refine r_ldc kX4_45 dX4_on_32 ?_
        refine r_v1r (C_tell 0 (by decide) (by decide)) (Nat.le_of_ble_eq_true rfl) mrX4_tell lkX4_46 rfl rfl rfl dX4_on_34 (Nat.le_of_ble_eq_true rfl) ?_
        refine r_iret dX4_on_37 rfl rfl ?_ ?_
        · simp only [o_on, c8, c19, c28, if_true, if_false, eq_self, decide_true, decide_false, not_true, not_false_eq_true, Bool.true_and, Bool.and_true, Bool.false_and, Bool.and_false, Bool.true_or, Bool.or_true, Bool.false_or, Bool.or_false, Bool.not_true, Bool.not_false]
          rfl
        · simp only [o_on, c8, c19, c28, if_true, if_false, eq_self, decide_true, decide_false, not_true, not_false_eq_true, Bool.true_and, Bool.and_true, Bool.false_and, Bool.and_false, Bool.true_or, Bool.or_true, Bool.false_or, Bool.or_false, Bool.not_true, Bool.not_false]
          exact ⟨A, f1, f2, f3, HE.rf⟩
theorem Q_falls {R A K : RS} {f1 f2 f3 : Int32} {kp : Bool} {tc : Nat → Int32} {m : Int32} (hn : cnt R ≤ 8) : SpQ 11 mX4_falls [.ref 0, .int m] (hC R A K f1 f2 f3 kp tc) (some (.int (o_falls R K kp tc m).1)) (qC (o_falls R K kp tc m).2) := by
  refine SpQ.of [some (.ref 0), some (.int m)] mrX4_falls.1 (fun _ q => qC_len q) (Nat.le_of_ble_eq_true rfl) rfl (fun X => ?_)
  refine r_iload_n dX4_falls_0 rfl ?_
  refine r_iconst (v := nI 0) dX4_falls_1 (by decide) ?_
  refine r_sipush (v := nI 300) dX4_falls_2 (by decide) ?_
  refine r_s3r S_X4_within (Nat.le_of_ble_eq_true rfl) mrX4_within lkX4_41 dX4_falls_5 (Nat.le_of_ble_eq_true rfl) ?_
  refine r_if_neB 18 dX4_falls_8 (by decide) (fun c8 => ?_) (fun c8 => ?_)
  · obtain ⟨m, h1, h2, rfl⟩ := inR_of c8 (by decide) (by decide)
    have em : tn (nI m) = m := nI_clamp (by omega)
    refine r_aload_n dX4_falls_18 rfl ?_
    refine r_v0n C_lookAhead (Nat.le_of_ble_eq_true rfl) mrX4_lookAhead lkX4_140 rfl rfl rfl dX4_falls_19 (Nat.le_of_ble_eq_true rfl) ?_
    refine r_aload_n dX4_falls_22 rfl ?_
    refine r_iload_n dX4_falls_23 rfl ?_
    refine r_v1r (C_stumbledIn hn (by omega)) (Nat.le_of_ble_eq_true rfl) mrX4_stumbledIn lkX4_143 rfl rfl rfl dX4_falls_24 (Nat.le_of_ble_eq_true rfl) ?_
    refine r_iret dX4_falls_27 rfl rfl ?_ ?_
    · simp only [o_falls, c8, if_true, if_false, eq_self, decide_true, decide_false, not_true, not_false_eq_true, Bool.true_and, Bool.and_true, Bool.false_and, Bool.and_false, Bool.true_or, Bool.or_true, Bool.false_or, Bool.or_false, Bool.not_true, Bool.not_false]
      rw [em]
    · simp only [o_falls, c8, if_true, if_false, eq_self, decide_true, decide_false, not_true, not_false_eq_true, Bool.true_and, Bool.and_true, Bool.false_and, Bool.and_false, Bool.true_or, Bool.or_true, Bool.false_or, Bool.or_false, Bool.not_true, Bool.not_false]
      exact ⟨stpN m R, f1, stpFN m R f2, f3, HE.rf⟩
  · refine r_aload_n dX4_falls_11 rfl ?_
    refine r_ldc kX4_45 dX4_falls_12 ?_
    refine r_v1r (C_tell 0 (by decide) (by decide)) (Nat.le_of_ble_eq_true rfl) mrX4_tell lkX4_46 rfl rfl rfl dX4_falls_14 (Nat.le_of_ble_eq_true rfl) ?_
    refine r_iret dX4_falls_17 rfl rfl ?_ ?_
    · simp only [o_falls, c8, if_true, if_false, eq_self, decide_true, decide_false, not_true, not_false_eq_true, Bool.true_and, Bool.and_true, Bool.false_and, Bool.and_false, Bool.true_or, Bool.or_true, Bool.false_or, Bool.or_false, Bool.not_true, Bool.not_false]
      rfl
    · simp only [o_falls, c8, if_true, if_false, eq_self, decide_true, decide_false, not_true, not_false_eq_true, Bool.true_and, Bool.and_true, Bool.false_and, Bool.and_false, Bool.true_or, Bool.or_true, Bool.false_or, Bool.or_false, Bool.not_true, Bool.not_false]
      exact ⟨A, f1, f2, f3, HE.rf⟩
theorem Q_image {R A K : RS} {f1 f2 f3 : Int32} {kp : Bool} {tc : Nat → Int32}   : SpQ 11 mX4_image [.ref 0] (hC R A K f1 f2 f3 kp tc) (some (.int (o_image R K kp tc ).1)) (qC (o_image R K kp tc ).2) := by
  refine SpQ.of [some (.ref 0)] mrX4_image.1 (fun _ q => qC_len q) (Nat.le_of_ble_eq_true rfl) rfl (fun X => ?_)
  refine r_aload_n dX4_image_0 rfl ?_
  refine r_getfield dX4_image_1 gfX4_19 rfl rfl ?_
  refine r_aload_n dX4_image_4 rfl ?_
  refine r_getfield dX4_image_5 gfX4_12 rfl rfl ?_
  refine r_v1n C_takeK1 (Nat.le_of_ble_eq_true rfl) mrX1_takeFrom lkX4_177 rfl rfl rfl dX4_image_8 (Nat.le_of_ble_eq_true rfl) ?_
  refine r_aload_n dX4_image_11 rfl ?_
  refine r_iconst (v := nI 1) dX4_image_12 (by decide) ?_
  refine r_putfield (fs' := [_, _, _, _, _, _, _]) (h' := [_, _, _, _, _, _, _, _, _, _, _, _, _, _, _, _, _]) dX4_image_13 pfX4_232 rfl (Nat.le_of_ble_eq_true rfl) (fun _ => rfl) (bI_nar true) (bI_fit true) rfl rfl ?_
  refine r_iconst (v := nI 1) dX4_image_16 (by decide) ?_
  refine r_iret dX4_image_17 rfl rfl ?_ ?_
  · rfl
  · exact ⟨A, f1, f2, f3, HE.rf⟩
theorem Q_undo {R A K : RS} {f1 f2 f3 : Int32} {kp : Bool} {tc : Nat → Int32}   : SpQ 11 mX4_undo [.ref 0] (hC R A K f1 f2 f3 kp tc) (some (.int (o_undo R K kp tc ).1)) (qC (o_undo R K kp tc ).2) := by
  refine SpQ.of [some (.ref 0)] mrX4_undo.1 (fun _ q => qC_len q) (Nat.le_of_ble_eq_true rfl) rfl (fun X => ?_)
  refine r_aload_n dX4_undo_0 rfl ?_
  refine r_getfield dX4_undo_1 gfX4_232 rfl rfl ?_
  refine r_if_neB 14 dX4_undo_4 (by decide) (fun c4 => ?_) (fun c4 => ?_)
  · refine r_aload_n dX4_undo_14 rfl ?_
    refine r_getfield dX4_undo_15 gfX4_12 rfl rfl ?_
    refine r_aload_n dX4_undo_18 rfl ?_
    refine r_getfield dX4_undo_19 gfX4_19 rfl rfl ?_
    refine r_v1n C_take1K (Nat.le_of_ble_eq_true rfl) mrX1_takeFrom lkX4_177 rfl rfl rfl dX4_undo_22 (Nat.le_of_ble_eq_true rfl) ?_
    refine r_aload_n dX4_undo_25 rfl ?_
    refine r_getfield dX4_undo_26 gfX4_12 rfl rfl ?_
    refine r_getfield dX4_undo_29 gfX4_92 rfl rfl ?_
    refine r_iret dX4_undo_32 rfl rfl ?_ ?_
    · subst c4; rfl
    · subst c4
      exact ⟨A, f1, f2, f3, HE.rf⟩
  · refine r_aload_n dX4_undo_7 rfl ?_
    refine r_ldc kX4_152 dX4_undo_8 ?_
    refine r_v1r (C_tell 3 (by decide) (by decide)) (Nat.le_of_ble_eq_true rfl) mrX4_tell lkX4_46 rfl rfl rfl dX4_undo_10 (Nat.le_of_ble_eq_true rfl) ?_
    refine r_iret dX4_undo_13 rfl rfl ?_ ?_
    · subst c4; rfl
    · subst c4
      exact ⟨A, f1, f2, f3, HE.rf⟩
theorem Q_tear {R A K : RS} {f1 f2 f3 : Int32} {kp : Bool} {tc : Nat → Int32}   : SpQ 11 mX4_tear [.ref 0] (hC R A K f1 f2 f3 kp tc) (some (.int (o_tear R K kp tc ).1)) (qC (o_tear R K kp tc ).2) := by
  refine SpQ.of [some (.ref 0), none] mrX4_tear.1 (fun _ q => qC_len q) (Nat.le_of_ble_eq_true rfl) rfl (fun X => ?_)
  refine r_aload_n dX4_tear_0 rfl ?_
  refine r_getfield dX4_tear_1 gfX4_232 rfl rfl ?_
  refine r_if_eqB 11 dX4_tear_4 (by decide) (fun c4 => ?_) (fun c4 => ?_)
  · refine r_iconst (v := nI 0) dX4_tear_11 (by decide) ?_
    refine r_istore_n (lv' := [_, _]) dX4_tear_12 (by decide) rfl ?_
    refine r_aload_n dX4_tear_13 rfl ?_
    refine r_iconst (v := nI 0) dX4_tear_14 (by decide) ?_
    refine r_putfield (fs' := [_, _, _, _, _, _, _]) (h' := [_, _, _, _, _, _, _, _, _, _, _, _, _, _, _, _, _]) dX4_tear_15 pfX4_232 rfl (Nat.le_of_ble_eq_true rfl) (fun _ => rfl) (bI_nar false) (bI_fit false) rfl rfl ?_
    refine r_iload_n dX4_tear_18 rfl ?_
    refine r_iret dX4_tear_19 rfl rfl ?_ ?_
    · subst c4; rfl
    · exact ⟨A, f1, f2, f3, HE.rf⟩
  · refine r_iconst (v := nI 1) dX4_tear_7 (by decide) ?_
    refine r_goto 12 dX4_tear_8 (by decide) ?_
    refine r_istore_n (lv' := [_, _]) dX4_tear_12 (by decide) rfl ?_
    refine r_aload_n dX4_tear_13 rfl ?_
    refine r_iconst (v := nI 0) dX4_tear_14 (by decide) ?_
    refine r_putfield (fs' := [_, _, _, _, _, _, _]) (h' := [_, _, _, _, _, _, _, _, _, _, _, _, _, _, _, _, _]) dX4_tear_15 pfX4_232 rfl (Nat.le_of_ble_eq_true rfl) (fun _ => rfl) (bI_nar false) (bI_fit false) rfl rfl ?_
    refine r_iload_n dX4_tear_18 rfl ?_
    refine r_iret dX4_tear_19 rfl rfl ?_ ?_
    · subst c4; rfl
    · exact ⟨A, f1, f2, f3, HE.rf⟩
theorem Q_status {R A K : RS} {f1 f2 f3 : Int32} {kp : Bool} {tc : Nat → Int32} {w : Int32}  : SpQ 11 mX4_status [.ref 0, .int w] (hC R A K f1 f2 f3 kp tc) (some (.int (o_status R K kp tc w).1)) (qC (o_status R K kp tc w).2) := by
  refine SpQ.of [some (.ref 0), some (.int w), none, none] mrX4_status.1 (fun _ q => qC_len q) (Nat.le_of_ble_eq_true rfl) rfl (fun X => ?_)
  have L : inR w (-1) (nI 6) = true → w < 0 → ∀ (k i : Nat), i + k = 7 → RunQ X 11 mX4_status 32 [some (.ref 0), some (.int w), some (.int (sumF tc i)), some (.int (nI i))] [] (hC R A K f1 f2 f3 kp tc) (some (.int (o_status R K kp tc w).1)) (qC (o_status R K kp tc w).2) := by
    intro c7 c18 k
    induction k with
    | zero =>
      intro i hi
      obtain rfl : i = 7 := by omega
      refine r_iload_n dX4_status_32 rfl ?_
      refine r_bipush (v := nI 7) dX4_status_33 (by decide) ?_
      refine r_icmp_ge 53 dX4_status_35 (by decide) (fun c35 => ?_) (fun c35 => ?_)
      · refine r_iload_n dX4_status_53 rfl ?_
        refine r_iret dX4_status_54 rfl rfl ?_ ?_
        · simp only [o_status, c7, c18, if_true]
        · simp only [o_status, c7, c18, if_true]
          exact ⟨A, f1, f2, f3, HE.rf⟩
      · exact absurd (nI_le (Nat.le_refl _) (by omega)) c35
    | succ k ih =>
      intro i hi
      refine r_iload_n dX4_status_32 rfl ?_
      refine r_bipush (v := nI 7) dX4_status_33 (by decide) ?_
      refine r_icmp_ge 53 dX4_status_35 (by decide) (fun c35 => ?_) (fun c35 => ?_)
      · exact absurd c35 (nI_ge (by omega) (by omega))
      · refine r_iload_n dX4_status_38 rfl ?_
        refine r_aload_n dX4_status_39 rfl ?_
        refine r_getfield dX4_status_40 gfX4_35 rfl rfl ?_
        refine r_iload_n dX4_status_43 rfl ?_
        refine r_ialdN dX4_status_44 rfl (by first | decide | omega) (Nat.le_of_ble_eq_true rfl) rfl ?_
        refine r_iadd dX4_status_45 ?_
        refine r_istore_n (lv' := [_, _, _, _]) dX4_status_46 (by decide) rfl ?_
        refine r_iinc (lv' := [_, _, _, _]) dX4_status_47 (by decide) rfl (by first | exact inc1 _ | exact inc1_ _) rfl ?_
        refine r_goto 32 dX4_status_50 (by decide) ?_
        exact ih (i + 1) (by omega)
  refine r_iload_n dX4_status_0 rfl ?_
  refine r_iconst (v := (-1)) dX4_status_1 (by decide) ?_
  refine r_bipush (v := nI 6) dX4_status_2 (by decide) ?_
  refine r_s3r S_X4_within (Nat.le_of_ble_eq_true rfl) mrX4_within lkX4_41 dX4_status_4 (Nat.le_of_ble_eq_true rfl) ?_
  refine r_if_neB 17 dX4_status_7 (by decide) (fun c7 => ?_) (fun c7 => ?_)
  · refine r_iload_n dX4_status_17 rfl ?_
    refine r_if_lt 28 dX4_status_18 (by decide) (fun c18 => ?_) (fun c18 => ?_)
    · refine r_iconst (v := nI 0) dX4_status_28 (by decide) ?_
      refine r_istore_n (lv' := [_, _, _, _]) dX4_status_29 (by decide) rfl ?_
      refine r_iconst (v := nI 0) dX4_status_30 (by decide) ?_
      refine r_istore_n (lv' := [_, _, _, _]) dX4_status_31 (by decide) rfl ?_
      exact L c7 c18 7 0 (by omega)
    · obtain ⟨p, hp, rfl⟩ := nI_of c18
      have ep : tn (nI p) = p := nI_clamp hp
      have h6 : p ≤ 6 := by
        simp only [inR, Bool.and_eq_true, decide_eq_true_eq] at c7
        exact (nI_leI hp (by decide)).mp c7.2
      refine r_aload_n dX4_status_21 rfl ?_
      refine r_getfield dX4_status_22 gfX4_35 rfl rfl ?_
      refine r_iload_n dX4_status_25 rfl ?_
      refine r_ialdN dX4_status_26 rfl (by first | decide | omega) (Nat.le_of_ble_eq_true rfl) rfl ?_
      refine r_iret dX4_status_27 rfl rfl ?_ ?_
      · simp only [o_status, c7, c18, if_true, if_false, eq_self, decide_true, decide_false, not_true, not_false_eq_true, Bool.true_and, Bool.and_true, Bool.false_and, Bool.and_false, Bool.true_or, Bool.or_true, Bool.false_or, Bool.or_false, Bool.not_true, Bool.not_false]
        rw [ep]
      · simp only [o_status, c7, c18, if_true, if_false, eq_self, decide_true, decide_false, not_true, not_false_eq_true, Bool.true_and, Bool.and_true, Bool.false_and, Bool.and_false, Bool.true_or, Bool.or_true, Bool.false_or, Bool.or_false, Bool.not_true, Bool.not_false]
        exact ⟨A, f1, f2, f3, HE.rf⟩
  · refine r_aload_n dX4_status_10 rfl ?_
    refine r_ldc kX4_45 dX4_status_11 ?_
    refine r_v1r (C_tell 0 (by decide) (by decide)) (Nat.le_of_ble_eq_true rfl) mrX4_tell lkX4_46 rfl rfl rfl dX4_status_13 (Nat.le_of_ble_eq_true rfl) ?_
    refine r_iret dX4_status_16 rfl rfl ?_ ?_
    · simp only [o_status, c7, if_true, if_false, eq_self, decide_true, decide_false, not_true, not_false_eq_true, Bool.true_and, Bool.and_true, Bool.false_and, Bool.and_false, Bool.true_or, Bool.or_true, Bool.false_or, Bool.or_false, Bool.not_true, Bool.not_false]
      rfl
    · simp only [o_status, c7, if_true, if_false, eq_self, decide_true, decide_false, not_true, not_false_eq_true, Bool.true_and, Bool.and_true, Bool.false_and, Bool.and_false, Bool.true_or, Bool.or_true, Bool.false_or, Bool.or_false, Bool.not_true, Bool.not_false]
      exact ⟨A, f1, f2, f3, HE.rf⟩

