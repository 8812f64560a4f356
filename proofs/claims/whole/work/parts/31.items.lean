/-! the items of a night, as plain functions; the class's reader on them -/
def nOK (n : Nat) (T : Nat → Nat) (s m : Nat) : Bool := isNm n T s && decide (nv n T s < m)
def itK (n : Nat) (T : Nat → Nat) (s : Nat) (A : RS) : Bool × Nat × RS := if cnt A < 8 then (match decide (tk n T (nxt n T s) = 6) with
  | true => match nOK n T (nxt n T (nxt n T s)) 100 with
    | true => (true, nxt n T (nxt n T (nxt n T s)), sN (addR A (nI (tk n T s))) (upd (rN (addR A (nI (tk n T s)))) (cnt A) (nI (nv n T (nxt n T (nxt n T s))))))
    | false => (false, nxt n T (nxt n T s), addR A (nI (tk n T s)))
  | false => (true, nxt n T s, addR A (nI (tk n T s)))) else (false, s, A)
def itR (n : Nat) (T : Nat → Nat) (s : Nat) (A : RS) (t : Bool) : Bool × Nat × RS := match nOK n T (nxt n T s) 30 with
  | true => (true, nxt n T (nxt n T s), sR A (setR (rR A) (nI (nv n T (nxt n T s))) t))
  | false => (false, nxt n T s, A)
def itL (n : Nat) (T : Nat → Nat) (s : Nat) (A : RS) : Bool × Nat × RS := match nOK n T (nxt n T s) (cnt A) with
  | true => (true, nxt n T (nxt n T s), sL A (nI (nv n T (nxt n T s))))
  | false => (false, nxt n T s, A)
def itB (n : Nat) (T : Nat → Nat) (s : Nat) (A : RS) : Bool × Nat × RS := match nOK n T (nxt n T s) 10 with
  | true => (true, nxt n T (nxt n T s), sB A (nI (nv n T (nxt n T s))))
  | false => (false, nxt n T s, A)
def itS (n : Nat) (T : Nat → Nat) (s : Nat) (A : RS) : Bool × Nat × RS := match nOK n T (nxt n T s) (cnt A) with
  | true => match nOK n T (nxt n T (nxt n T s)) (cnt A) && !decide (nv n T (nxt n T (nxt n T s)) = nv n T (nxt n T s)) with
    | true => (true, nxt n T (nxt n T (nxt n T s)), swR A (nv n T (nxt n T s)) (nv n T (nxt n T (nxt n T s))))
    | false => (false, nxt n T (nxt n T s), A)
  | false => (false, nxt n T s, A)
def itm (n : Nat) (T : Nat → Nat) (s : Nat) (A : RS) : Bool × Nat × RS := if tk n T s ≤ 5 then itK n T s A else if tk n T s = 7 then itR n T s A true else if tk n T s = 8 then itR n T s A false else if tk n T s = 9 then itL n T s A else if tk n T s = 10 then itB n T s A else if tk n T s = 11 then itS n T s A else (false, s, A)
/-- the items from s on: how many with those before, or -1 less the place of the fault; the row then -/
def nrun (n : Nat) (T : Nat → Nat) : Nat → Nat → Nat → RS → Int32 × Option RS
  | 0, _, _, _ => (0, none)
  | k + 1, i, s, A => match (itm n T s A).1 with
    | false => ((-1) - nI (itm n T s A).2.1, none)
    | true => if tk n T (itm n T s A).2.1 = 14 then (nI i, some (itm n T s A).2.2) else if tk n T (itm n T s A).2.1 = 13 then nrun n T k (i + 1) (nxt n T (itm n T s A).2.1) (itm n T s A).2.2 else ((-1) - nI (itm n T s A).2.1, none)
theorem wdk_le (T : Nat → Nat) (s e : Nat) : ∀ w, w ≤ 15 → wdk T s e w ≤ 15
  | 0, _ => Nat.le_refl _
  | w + 1, h => by
    rw [wdk]
    cases mt T s e w with
    | true => show w ≤ 15; omega
    | false => exact wdk_le T s e w (by omega)
theorem wdk_12 (T : Nat → Nat) (s e : Nat) : ∀ w, w ≤ 12 → wdk T s e w < w ∨ wdk T s e w = 15
  | 0, _ => Or.inr rfl
  | w + 1, h => by
    rw [wdk]
    cases mt T s e w with
    | true => exact Or.inl (Nat.lt_succ_self w)
    | false => exact (wdk_12 T s e w (by omega)).imp (fun z => by show wdk T s e w < w + 1; omega) id
theorem tk_n {n : Nat} {T : Nat → Nat} {s : Nat} : tk n T s = 14 ↔ n ≤ s := by
  constructor
  · intro h
    rcases Nat.lt_or_ge s n with q | q
    · exfalso
      rw [tk, if_neg (by omega)] at h
      split at h
      · omega
      · split at h
        · omega
        · split at h
          · have := wdk_12 T s (wEn n T s) 12 (Nat.le_refl _)
            omega
          · omega
    · exact q
  · intro h; rw [tk, if_pos h]
theorem tk_13 {n : Nat} {T : Nat → Nat} {s : Nat} : tk n T s = 13 ↔ s < n ∧ T s = 59 := by
  constructor
  · intro h
    rcases Nat.lt_or_ge s n with q | q
    · refine ⟨q, ?_⟩
      rw [tk, if_neg (by omega)] at h
      split at h
      · assumption
      · split at h
        · omega
        · split at h
          · have := wdk_12 T s (wEn n T s) 12 (Nat.le_refl _)
            omega
          · omega
    · rw [tk, if_pos q] at h; omega
  · intro h; rw [tk, if_neg (by omega), if_pos h.2]
theorem tk_le (n : Nat) (T : Nat → Nat) (s : Nat) : tk n T s ≤ 15 := by
  rw [tk]
  split
  · omega
  · split
    · omega
    · split
      · omega
      · split
        · exact wdk_le _ _ _ 12 (by omega)
        · omega
theorem en_gt {n : Nat} {T : Nat → Nat} {s : Nat} (h : s < n) : s < en n T s := by
  rw [en, if_neg (by omega)]
  split
  · omega
  · split
    · rename_i hd
      rw [nEn, scan_t h hd]
      exact scan_ge _ (s + 1) rfl
    · split
      · rename_i hd
        rw [wEn, scan_t h hd]
        exact scan_ge _ (s + 1) rfl
      · omega
theorem en_le {n : Nat} {T : Nat → Nat} {s : Nat} (h : s ≤ n) : en n T s ≤ n + 1 := by
  rw [en]
  split
  · omega
  · split
    · omega
    · split
      · have := scan_le (P := isD) (T := T) _ s rfl h
        rw [nEn]; omega
      · split
        · have := scan_le (P := isL) (T := T) _ s rfl h
          rw [wEn]; omega
        · omega
theorem en_nm {n : Nat} {T : Nat → Nat} {s : Nat} (h : isNm n T s = true) : en n T s = nEn n T s := by
  simp only [isNm, Bool.and_eq_true, decide_eq_true_eq] at h
  have h2 := isD_lt h.2
  rw [en, if_neg (by omega), if_neg (by omega), h.2]
theorem nxt_le (n : Nat) (T : Nat → Nat) (s : Nat) : nxt n T s ≤ n := sk_le _ _ _
theorem nxt_gt {n : Nat} {T : Nat → Nat} {s : Nat} (h : s < n) : s < nxt n T s := by
  have h1 := en_gt (T := T) h
  have h2 := scan_ge (P := isB) (T := T) (n := n) _ (en n T s) rfl
  rw [nxt, sk]
  omega
theorem nxt_ge {n : Nat} {T : Nat → Nat} {s : Nat} (h : s ≤ n) : s ≤ nxt n T s := by
  rcases Nat.lt_or_ge s n with q | q
  · exact Nat.le_of_lt (nxt_gt q)
  · rw [nxt, sk]
    have h2 := scan_ge (P := isB) (T := T) (n := n) _ (en n T s) rfl
    have h3 : s + 1 ≤ en n T s := by rw [en, if_pos q]; exact Nat.le_refl _
    omega
theorem itm_adv {n : Nat} {T : Nat → Nat} {s : Nat} {A : RS} (hs : s ≤ n) (h : (itm n T s A).1 = true) : s < (itm n T s A).2.1 ∧ (itm n T s A).2.1 ≤ n := by
  have hn : tk n T s ≠ 14 → s < nxt n T s := fun z => nxt_gt (Nat.lt_of_not_le (fun y => z (tk_n.mpr y)))
  have g2 : nxt n T s ≤ nxt n T (nxt n T s) := nxt_ge (nxt_le _ _ _)
  have g3 : nxt n T (nxt n T s) ≤ nxt n T (nxt n T (nxt n T s)) := nxt_ge (nxt_le _ _ _)
  have l1 := nxt_le n T s
  have l2 := nxt_le n T (nxt n T s)
  have l3 := nxt_le n T (nxt n T (nxt n T s))
  have k1 : s < nxt n T s → (itK n T s A).1 = true → s < (itK n T s A).2.1 ∧ (itK n T s A).2.1 ≤ n := by
    intro q
    unfold itK
    split
    · split
      · split
        · intro _; exact ⟨Nat.lt_of_lt_of_le q (Nat.le_trans g2 g3), l3⟩
        · intro z; cases z
      · intro _; exact ⟨q, l1⟩
    · intro z; cases z
  have k2 : s < nxt n T s → ∀ t, (itR n T s A t).1 = true → s < (itR n T s A t).2.1 ∧ (itR n T s A t).2.1 ≤ n := by
    intro q t
    unfold itR
    split
    · intro _; exact ⟨Nat.lt_of_lt_of_le q g2, l2⟩
    · intro z; cases z
  have k3 : s < nxt n T s → (itL n T s A).1 = true → s < (itL n T s A).2.1 ∧ (itL n T s A).2.1 ≤ n := by
    intro q
    unfold itL
    split
    · intro _; exact ⟨Nat.lt_of_lt_of_le q g2, l2⟩
    · intro z; cases z
  have k4 : s < nxt n T s → (itB n T s A).1 = true → s < (itB n T s A).2.1 ∧ (itB n T s A).2.1 ≤ n := by
    intro q
    unfold itB
    split
    · intro _; exact ⟨Nat.lt_of_lt_of_le q g2, l2⟩
    · intro z; cases z
  have k5 : s < nxt n T s → (itS n T s A).1 = true → s < (itS n T s A).2.1 ∧ (itS n T s A).2.1 ≤ n := by
    intro q
    unfold itS
    split
    · split
      · intro _; exact ⟨Nat.lt_of_lt_of_le q (Nat.le_trans g2 g3), l3⟩
      · intro z; cases z
    · intro z; cases z
  revert h
  unfold itm
  split
  · exact k1 (hn (by omega))
  · split
    · exact k2 (hn (by omega)) true
    · split
      · exact k2 (hn (by omega)) false
      · split
        · exact k3 (hn (by omega))
        · split
          · exact k4 (hn (by omega))
          · split
            · exact k5 (hn (by omega))
            · intro z; cases z
/-- the reader with a row: the reader, the tape, its bytes, the row's five cells -/
abbrev hI (n : Nat) (T : Nat → Nat) (tok : Int32) (s b : Nat) (nu : Int32) (A : RS) (f : Int32) : AH := [.inr (0, [.ref 1, .int tok, .int (nI s), .int (nI b), .int nu]), .inr (3, [.ref 2, .int (nI n)]), .inl (2, 120, .inl (fun i => sg (T i))),
  .inr (1, [.int (rT A), .int (rR A), .int (rL A), .int (rB A), .int (nI (cnt A)), .ref 4, .ref 5, .ref 6, .ref 7, .int f]), .inl (0, 8, .inl (rK A)), .inl (0, 8, .inl (rH A)), .inl (0, 8, .inl (rS A)), .inl (0, 8, .inl (rN A))]
def qI (n : Nat) (T : Nat → Nat) (r : Bool × Nat × RS) (h : AH) : Prop := ∃ (tok : Int32) (b : Nat) (nu f : Int32), HE h (hI n T tok r.2.1 b nu r.2.2 f) ∧ (r.1 = true → tok = nI (tk n T r.2.1) ∧ b = en n T r.2.1)
theorem qI_len {n : Nat} {T : Nat → Nat} {r : Bool × Nat × RS} {h' : AH} (q : qI n T r h') : h'.length = 8 := by
  obtain ⟨_, _, _, _, q, _⟩ := q
  exact q.len.symm
theorem I_next {n : Nat} {T : Nat → Nat} (tok : Int32) (s b : Nat) (nu : Int32) (A : RS) (f : Int32) (hn : n ≤ 120) (hB : ∀ i, T i < 256) (hb : b < 1000) : ∃ nu', Sp 6 mX0_next [.ref 0] (hI n T tok s b nu A f) none (hI n T (nI (tk n T (sk n T b))) (sk n T b) (en n T (sk n T b)) nu' A f) := by
  obtain ⟨nu', h⟩ := S_next (tok := tok) (s := s) (nu := nu) hn hB hb
  exact ⟨nu', h.frame [0, 1, 2] rfl (by decide) rfl rfl rfl rfl⟩
theorem I_nin {n : Nat} {T : Nat → Nat} (tok : Int32) (s b : Nat) (nu : Int32) (A : RS) (f : Int32) {mo : Int32} {m : Nat} (hn : n ≤ 120) (hB : ∀ i, T i < 256) (hb : b < 1000) (hm : ∀ v, v ≤ 1000 → (nI v ≤ mo ↔ v < m)) : ∃ tok' b' nu', Sp 2 mX0_nextIsNumber [.ref 0, .int mo] (hI n T tok s b nu A f) (some (.int (bI (nOK n T (sk n T b) m)))) (hI n T tok' (sk n T b) b' nu' A f) ∧ (nOK n T (sk n T b) m = true → b' = en n T (sk n T b) ∧ nu' = nI (nv n T (sk n T b)) ∧ nv n T (sk n T b) < m) := by
  cases hd : isNm n T (sk n T b) with
  | false =>
    refine ⟨tok, b, nu, ?_, ?_⟩
    · rw [nOK, hd, Bool.false_and]
      exact (S_nextIsNumber_f hn hB hb hd).frame [0, 1, 2] rfl (by decide) rfl rfl rfl rfl
    · rw [nOK, hd, Bool.false_and]
      intro z; cases z
  | true =>
    have e : decide (nI (nv n T (sk n T b)) ≤ mo) = decide (nv n T (sk n T b) < m) := decide_eq_decide.mpr (hm _ (nvc_le _ _ _))
    refine ⟨nI 12, nEn n T (sk n T b), nI (nv n T (sk n T b)), ?_, ?_⟩
    · rw [nOK, hd, Bool.true_and, ← e]
      exact (S_nextIsNumber_t hn hB hb hd).frame [0, 1, 2] rfl (by decide) rfl rfl rfl rfl
    · rw [nOK, hd, Bool.true_and, decide_eq_true_eq]
      exact fun z => ⟨(en_nm hd).symm, rfl, z⟩
theorem nv_31 (n : Nat) (T : Nat → Nat) (s : Nat) : nv n T s < 2 ^ 31 := Nat.lt_of_le_of_lt (nvc_le _ _ _) (by decide)
theorem mo_n {m : Nat} (hm : m < 2 ^ 30) : ∀ v, v ≤ 1000 → (nI v ≤ nI m ↔ v < m + 1) := fun v hv => by rw [nI_leI (by omega) (by omega)]; omega
theorem mo_p {m : Nat} (hm : m ≤ 8) : ∀ v, v ≤ 1000 → (nI v ≤ nI m - nI 1 ↔ v < m) := fun v hv => by
  cases m with
  | zero => exact ⟨fun z => absurd (Int32.lt_of_le_of_lt z (by decide)) (nI_pos (by omega)), fun z => by omega⟩
  | succ m => rw [pk_sub (by omega), nI_leI (by omega) (by omega)]; omega
theorem I_root {n : Nat} {T : Nat → Nat} {s : Nat} {nu : Int32} {A : RS} {f : Int32} {t : Bool} (hn : n ≤ 120) (hB : ∀ i, T i < 256) (hs : s ≤ n) (hc : cnt A ≤ 8) : SpQ 7 mX0_rootItem [.ref 0, .ref 3, .int (bI t)] (hI n T (nI (tk n T s)) s (en n T s) nu A f) (some (.int (bI (itR n T s A t).1))) (qI n T (itR n T s A t)) := by
  obtain ⟨u1, b1, v1, N1, g1⟩ := I_nin (nI (tk n T s)) s (en n T s) nu A f (mo := nI 29) (m := 30) hn hB (by have := en_le (T := T) hs; omega) (mo_n (by decide))
  refine SpQ.of [some (.ref 0), some (.ref 3), some (.int (bI t))] mrX0_rootItem.1 (fun _ q => qI_len q) (Nat.le_of_ble_eq_true rfl) rfl (fun X => ?_)
  refine r_aload_n dX0_rootItem_0 rfl ?_
  refine r_bipush (v := nI 29) dX0_rootItem_1 (by decide) ?_
  refine r_v1r N1 (Nat.le_of_ble_eq_true rfl) mrX0_nextIsNumber lkX0_65 rfl rfl rfl dX0_rootItem_3 (Nat.le_of_ble_eq_true rfl) ?_
  refine r_if_neB 11 dX0_rootItem_6 (by decide) (fun c6 => ?_) (fun c6 => ?_)
  · obtain ⟨rfl, rfl, -⟩ := g1 c6
    obtain ⟨w2, N2⟩ := I_next (T := T) u1 (nxt n T s) (en n T (nxt n T s)) (nI (nv n T (nxt n T s))) (sR A (setR (rR A) (nI (nv n T (nxt n T s))) t)) f hn hB (by have := en_le (T := T) (nxt_le n T s); omega)
    refine r_aload_n dX0_rootItem_11 rfl ?_
    refine r_aload_n dX0_rootItem_12 rfl ?_
    refine r_getfield dX0_rootItem_13 gfX0_75 rfl rfl ?_
    refine r_iload_n dX0_rootItem_16 rfl ?_
    refine r_v2n (S_X1_setRoot.frame [3, 4, 5, 6, 7] rfl (by decide) rfl rfl rfl rfl) (Nat.le_of_ble_eq_true rfl) mrX1_setRoot lkX0_78 rfl rfl rfl dX0_rootItem_17 (Nat.le_of_ble_eq_true rfl) ?_
    refine r_aload_n dX0_rootItem_20 rfl ?_
    refine r_v0n N2 (Nat.le_of_ble_eq_true rfl) mrX0_next lkX0_22 rfl rfl rfl dX0_rootItem_21 (Nat.le_of_ble_eq_true rfl) ?_
    refine r_iconst (v := nI 1) dX0_rootItem_24 (by decide) ?_
    refine r_iret dX0_rootItem_25 rfl (by first | exact bI_nar _ | rfl) ?_ ?_
    · rw [itR, show nOK n T (nxt n T s) 30 = true from c6]; rfl
    · rw [itR, show nOK n T (nxt n T s) 30 = true from c6]
      exact ⟨_, _, _, _, HE.rf, fun _ => ⟨rfl, rfl⟩⟩
  · refine r_iconst (v := nI 0) dX0_rootItem_9 (by decide) ?_
    refine r_iret dX0_rootItem_10 rfl (by first | exact bI_nar _ | rfl) ?_ ?_
    · rw [itR, show nOK n T (nxt n T s) 30 = false from c6]; rfl
    · rw [itR, show nOK n T (nxt n T s) 30 = false from c6]
      exact ⟨_, _, _, _, HE.rf, fun z => by cases z⟩
theorem I_lantern {n : Nat} {T : Nat → Nat} {s : Nat} {nu : Int32} {A : RS} {f : Int32} (hn : n ≤ 120) (hB : ∀ i, T i < 256) (hs : s ≤ n) (hc : cnt A ≤ 8) : SpQ 7 mX0_lanternItem [.ref 0, .ref 3] (hI n T (nI (tk n T s)) s (en n T s) nu A f) (some (.int (bI (itL n T s A).1))) (qI n T (itL n T s A)) := by
  obtain ⟨u1, b1, v1, N1, g1⟩ := I_nin (nI (tk n T s)) s (en n T s) nu A f (mo := nI (cnt A) - nI 1) (m := cnt A) hn hB (by have := en_le (T := T) hs; omega) (mo_p hc)
  refine SpQ.of [some (.ref 0), some (.ref 3)] mrX0_lanternItem.1 (fun _ q => qI_len q) (Nat.le_of_ble_eq_true rfl) rfl (fun X => ?_)
  refine r_aload_n dX0_lanternItem_0 rfl ?_
  refine r_aload_n dX0_lanternItem_1 rfl ?_
  refine r_getfield dX0_lanternItem_2 gfX0_72 rfl rfl ?_
  refine r_iconst (v := nI 1) dX0_lanternItem_5 (by decide) ?_
  refine r_isub dX0_lanternItem_6 ?_
  refine r_v1r N1 (Nat.le_of_ble_eq_true rfl) mrX0_nextIsNumber lkX0_65 rfl rfl rfl dX0_lanternItem_7 (Nat.le_of_ble_eq_true rfl) ?_
  refine r_if_neB 15 dX0_lanternItem_10 (by decide) (fun c10 => ?_) (fun c10 => ?_)
  · obtain ⟨rfl, rfl, -⟩ := g1 c10
    obtain ⟨w2, N2⟩ := I_next (T := T) u1 (nxt n T s) (en n T (nxt n T s)) (nI (nv n T (nxt n T s))) (sL A (nI (nv n T (nxt n T s)))) f hn hB (by have := en_le (T := T) (nxt_le n T s); omega)
    refine r_aload_n dX0_lanternItem_15 rfl ?_
    refine r_aload_n dX0_lanternItem_16 rfl ?_
    refine r_getfield dX0_lanternItem_17 gfX0_75 rfl rfl ?_
    refine r_putfield (fs' := [_, _, _, _, _, _, _, _, _, _]) (h' := [_, _, _, _, _, _, _, _]) dX0_lanternItem_20 pfX0_82 rfl (Nat.le_of_ble_eq_true rfl) (fun _ => rfl) rfl rfl rfl rfl ?_
    refine r_aload_n dX0_lanternItem_23 rfl ?_
    refine r_v0n N2 (Nat.le_of_ble_eq_true rfl) mrX0_next lkX0_22 rfl rfl rfl dX0_lanternItem_24 (Nat.le_of_ble_eq_true rfl) ?_
    refine r_iconst (v := nI 1) dX0_lanternItem_27 (by decide) ?_
    refine r_iret dX0_lanternItem_28 rfl (by first | exact bI_nar _ | rfl) ?_ ?_
    · rw [itL, show nOK n T (nxt n T s) (cnt A) = true from c10]; rfl
    · rw [itL, show nOK n T (nxt n T s) (cnt A) = true from c10]
      exact ⟨_, _, _, _, HE.rf, fun _ => ⟨rfl, rfl⟩⟩
  · refine r_iconst (v := nI 0) dX0_lanternItem_13 (by decide) ?_
    refine r_iret dX0_lanternItem_14 rfl (by first | exact bI_nar _ | rfl) ?_ ?_
    · rw [itL, show nOK n T (nxt n T s) (cnt A) = false from c10]; rfl
    · rw [itL, show nOK n T (nxt n T s) (cnt A) = false from c10]
      exact ⟨_, _, _, _, HE.rf, fun z => by cases z⟩
theorem I_bright {n : Nat} {T : Nat → Nat} {s : Nat} {nu : Int32} {A : RS} {f : Int32} (hn : n ≤ 120) (hB : ∀ i, T i < 256) (hs : s ≤ n) (hc : cnt A ≤ 8) : SpQ 7 mX0_brightItem [.ref 0, .ref 3] (hI n T (nI (tk n T s)) s (en n T s) nu A f) (some (.int (bI (itB n T s A).1))) (qI n T (itB n T s A)) := by
  obtain ⟨u1, b1, v1, N1, g1⟩ := I_nin (nI (tk n T s)) s (en n T s) nu A f (mo := nI 9) (m := 10) hn hB (by have := en_le (T := T) hs; omega) (mo_n (by decide))
  refine SpQ.of [some (.ref 0), some (.ref 3)] mrX0_brightItem.1 (fun _ q => qI_len q) (Nat.le_of_ble_eq_true rfl) rfl (fun X => ?_)
  refine r_aload_n dX0_brightItem_0 rfl ?_
  refine r_bipush (v := nI 9) dX0_brightItem_1 (by decide) ?_
  refine r_v1r N1 (Nat.le_of_ble_eq_true rfl) mrX0_nextIsNumber lkX0_65 rfl rfl rfl dX0_brightItem_3 (Nat.le_of_ble_eq_true rfl) ?_
  refine r_if_neB 11 dX0_brightItem_6 (by decide) (fun c6 => ?_) (fun c6 => ?_)
  · obtain ⟨rfl, rfl, -⟩ := g1 c6
    obtain ⟨w2, N2⟩ := I_next (T := T) u1 (nxt n T s) (en n T (nxt n T s)) (nI (nv n T (nxt n T s))) (sB A (nI (nv n T (nxt n T s)))) f hn hB (by have := en_le (T := T) (nxt_le n T s); omega)
    refine r_aload_n dX0_brightItem_11 rfl ?_
    refine r_aload_n dX0_brightItem_12 rfl ?_
    refine r_getfield dX0_brightItem_13 gfX0_75 rfl rfl ?_
    refine r_putfield (fs' := [_, _, _, _, _, _, _, _, _, _]) (h' := [_, _, _, _, _, _, _, _]) dX0_brightItem_16 pfX0_85 rfl (Nat.le_of_ble_eq_true rfl) (fun _ => rfl) rfl rfl rfl rfl ?_
    refine r_aload_n dX0_brightItem_19 rfl ?_
    refine r_v0n N2 (Nat.le_of_ble_eq_true rfl) mrX0_next lkX0_22 rfl rfl rfl dX0_brightItem_20 (Nat.le_of_ble_eq_true rfl) ?_
    refine r_iconst (v := nI 1) dX0_brightItem_23 (by decide) ?_
    refine r_iret dX0_brightItem_24 rfl (by first | exact bI_nar _ | rfl) ?_ ?_
    · rw [itB, show nOK n T (nxt n T s) 10 = true from c6]; rfl
    · rw [itB, show nOK n T (nxt n T s) 10 = true from c6]
      exact ⟨_, _, _, _, HE.rf, fun _ => ⟨rfl, rfl⟩⟩
  · refine r_iconst (v := nI 0) dX0_brightItem_9 (by decide) ?_
    refine r_iret dX0_brightItem_10 rfl (by first | exact bI_nar _ | rfl) ?_ ?_
    · rw [itB, show nOK n T (nxt n T s) 10 = false from c6]; rfl
    · rw [itB, show nOK n T (nxt n T s) 10 = false from c6]
      exact ⟨_, _, _, _, HE.rf, fun z => by cases z⟩
theorem I_swap {n : Nat} {T : Nat → Nat} {s : Nat} {nu : Int32} {A : RS} {f : Int32} (hn : n ≤ 120) (hB : ∀ i, T i < 256) (hs : s ≤ n) (hc : cnt A ≤ 8) : SpQ 7 mX0_swapItem [.ref 0, .ref 3] (hI n T (nI (tk n T s)) s (en n T s) nu A f) (some (.int (bI (itS n T s A).1))) (qI n T (itS n T s A)) := by
  obtain ⟨u1, b1, v1, N1, g1⟩ := I_nin (nI (tk n T s)) s (en n T s) nu A f (mo := nI (cnt A) - nI 1) (m := cnt A) hn hB (by have := en_le (T := T) hs; omega) (mo_p hc)
  refine SpQ.of [some (.ref 0), some (.ref 3), none] mrX0_swapItem.1 (fun _ q => qI_len q) (Nat.le_of_ble_eq_true rfl) rfl (fun X => ?_)
  refine r_aload_n dX0_swapItem_0 rfl ?_
  refine r_aload_n dX0_swapItem_1 rfl ?_
  refine r_getfield dX0_swapItem_2 gfX0_72 rfl rfl ?_
  refine r_iconst (v := nI 1) dX0_swapItem_5 (by decide) ?_
  refine r_isub dX0_swapItem_6 ?_
  refine r_v1r N1 (Nat.le_of_ble_eq_true rfl) mrX0_nextIsNumber lkX0_65 rfl rfl rfl dX0_swapItem_7 (Nat.le_of_ble_eq_true rfl) ?_
  refine r_if_neB 15 dX0_swapItem_10 (by decide) (fun c10 => ?_) (fun c10 => ?_)
  · obtain ⟨rfl, rfl, h1⟩ := g1 c10
    have c10' : nOK n T (nxt n T s) (cnt A) = true := c10
    obtain ⟨u2, b2, v2, N2, g2⟩ := I_nin (T := T) u1 (nxt n T s) (en n T (nxt n T s)) (nI (nv n T (nxt n T s))) A f (mo := nI (cnt A) - nI 1) (m := cnt A) hn hB (by have := en_le (T := T) (nxt_le n T s); omega) (mo_p hc)
    refine r_aload_n dX0_swapItem_15 rfl ?_
    refine r_getfield dX0_swapItem_16 gfX0_75 rfl rfl ?_
    refine r_istore_n (lv' := [_, _, _]) dX0_swapItem_19 (by decide) rfl ?_
    refine r_aload_n dX0_swapItem_20 rfl ?_
    refine r_aload_n dX0_swapItem_21 rfl ?_
    refine r_getfield dX0_swapItem_22 gfX0_72 rfl rfl ?_
    refine r_iconst (v := nI 1) dX0_swapItem_25 (by decide) ?_
    refine r_isub dX0_swapItem_26 ?_
    refine r_v1r N2 (Nat.le_of_ble_eq_true rfl) mrX0_nextIsNumber lkX0_65 rfl rfl rfl dX0_swapItem_27 (Nat.le_of_ble_eq_true rfl) ?_
    refine r_if_eqB 41 dX0_swapItem_30 (by decide) (fun c30 => ?_) (fun c30 => ?_)
    · refine r_iconst (v := nI 0) dX0_swapItem_41 (by decide) ?_
      refine r_iret dX0_swapItem_42 rfl (by first | exact bI_nar _ | rfl) ?_ ?_
      · first
        | (rw [itS, c10', c30', decide_eq_true (show nv n T (nxt n T (nxt n T s)) = nv n T (nxt n T s) from (nI_eq (nv_31 _ _ _) (nv_31 _ _ _)).mp c38)]; rfl)
        | (rw [itS, c10', show nOK n T (nxt n T (nxt n T s)) (cnt A) = false from c30]; rfl)
      · first
        | (rw [itS, c10', c30', decide_eq_true (show nv n T (nxt n T (nxt n T s)) = nv n T (nxt n T s) from (nI_eq (nv_31 _ _ _) (nv_31 _ _ _)).mp c38)]; exact ⟨_, _, _, _, HE.rf, fun z => by cases z⟩)
        | (rw [itS, c10', show nOK n T (nxt n T (nxt n T s)) (cnt A) = false from c30]; exact ⟨_, _, _, _, HE.rf, fun z => by cases z⟩)
    · obtain ⟨rfl, rfl, h2⟩ := g2 c30
      have c30' : nOK n T (nxt n T (nxt n T s)) (cnt A) = true := c30
      refine r_aload_n dX0_swapItem_33 rfl ?_
      refine r_getfield dX0_swapItem_34 gfX0_75 rfl rfl ?_
      refine r_iload_n dX0_swapItem_37 rfl ?_
      refine r_icmp_ne 43 dX0_swapItem_38 (by decide) (fun c38 => ?_) (fun c38 => ?_)
      · obtain ⟨w3, N3⟩ := I_next (T := T) u2 (nxt n T (nxt n T s)) (en n T (nxt n T (nxt n T s))) (nI (nv n T (nxt n T (nxt n T s)))) (swR A (nv n T (nxt n T s)) (nv n T (nxt n T (nxt n T s)))) f hn hB (by have := en_le (T := T) (nxt_le n T (nxt n T s)); omega)
        refine r_aload_n dX0_swapItem_43 rfl ?_
        refine r_iload_n dX0_swapItem_44 rfl ?_
        refine r_aload_n dX0_swapItem_45 rfl ?_
        refine r_getfield dX0_swapItem_46 gfX0_75 rfl rfl ?_
        refine r_v2n ((S_X1_exchange hc h1 h2).frame [3, 4, 5, 6, 7] rfl (by decide) rfl rfl rfl rfl) (Nat.le_of_ble_eq_true rfl) mrX1_exchange lkX0_88 rfl rfl rfl dX0_swapItem_49 (Nat.le_of_ble_eq_true rfl) ?_
        refine r_aload_n dX0_swapItem_52 rfl ?_
        refine r_v0n N3 (Nat.le_of_ble_eq_true rfl) mrX0_next lkX0_22 rfl rfl rfl dX0_swapItem_53 (Nat.le_of_ble_eq_true rfl) ?_
        refine r_iconst (v := nI 1) dX0_swapItem_56 (by decide) ?_
        refine r_iret dX0_swapItem_57 rfl (by first | exact bI_nar _ | rfl) ?_ ?_
        · rw [itS, c10', c30', decide_eq_false (show ¬ nv n T (nxt n T (nxt n T s)) = nv n T (nxt n T s) from fun z => c38 (congrArg nI z))]; rfl
        · rw [itS, c10', c30', decide_eq_false (show ¬ nv n T (nxt n T (nxt n T s)) = nv n T (nxt n T s) from fun z => c38 (congrArg nI z))]
          exact ⟨_, _, _, _, HE.rf, fun _ => ⟨rfl, rfl⟩⟩
      · refine r_iconst (v := nI 0) dX0_swapItem_41 (by decide) ?_
        refine r_iret dX0_swapItem_42 rfl (by first | exact bI_nar _ | rfl) ?_ ?_
        · first
          | (rw [itS, c10', c30', decide_eq_true (show nv n T (nxt n T (nxt n T s)) = nv n T (nxt n T s) from (nI_eq (nv_31 _ _ _) (nv_31 _ _ _)).mp c38)]; rfl)
          | (rw [itS, c10', show nOK n T (nxt n T (nxt n T s)) (cnt A) = false from c30]; rfl)
        · first
          | (rw [itS, c10', c30', decide_eq_true (show nv n T (nxt n T (nxt n T s)) = nv n T (nxt n T s) from (nI_eq (nv_31 _ _ _) (nv_31 _ _ _)).mp c38)]; exact ⟨_, _, _, _, HE.rf, fun z => by cases z⟩)
          | (rw [itS, c10', show nOK n T (nxt n T (nxt n T s)) (cnt A) = false from c30]; exact ⟨_, _, _, _, HE.rf, fun z => by cases z⟩)
  · refine r_iconst (v := nI 0) dX0_swapItem_13 (by decide) ?_
    refine r_iret dX0_swapItem_14 rfl (by first | exact bI_nar _ | rfl) ?_ ?_
    · rw [itS, show nOK n T (nxt n T s) (cnt A) = false from c10]; rfl
    · rw [itS, show nOK n T (nxt n T s) (cnt A) = false from c10]
      exact ⟨_, _, _, _, HE.rf, fun z => by cases z⟩
theorem I_kind {n : Nat} {T : Nat → Nat} {s : Nat} {nu : Int32} {A : RS} {f : Int32} (hn : n ≤ 120) (hB : ∀ i, T i < 256) (hs : s ≤ n) (hc : cnt A ≤ 8) : SpQ 7 mX0_kindItem [.ref 0, .ref 3] (hI n T (nI (tk n T s)) s (en n T s) nu A f) (some (.int (bI (itK n T s A).1))) (qI n T (itK n T s A)) := by
  refine SpQ.of [some (.ref 0), some (.ref 3)] mrX0_kindItem.1 (fun _ q => qI_len q) (Nat.le_of_ble_eq_true rfl) rfl (fun X => ?_)
  have f8 : decide (nI 8 ≤ nI (cnt A)) = false → cnt A < 8 := fun z => Nat.lt_of_not_le (fun y => of_decide_eq_false z (nI_le y (by omega)))
  have t8 : decide (nI 8 ≤ nI (cnt A)) = true → ¬ cnt A < 8 := fun z y => nI_ge y (by decide) (of_decide_eq_true z)
  refine r_aload_n dX0_kindItem_0 rfl ?_
  refine r_v0r (S_X1_isFull.frame [3, 4, 5, 6, 7] rfl (by decide) rfl rfl rfl rfl) (Nat.le_of_ble_eq_true rfl) mrX1_isFull lkX0_55 rfl rfl rfl dX0_kindItem_1 (Nat.le_of_ble_eq_true rfl) ?_
  refine r_if_eqB 9 dX0_kindItem_4 (by decide) (fun c4 => ?_) (fun c4 => ?_)
  · have h8 := f8 c4
    obtain ⟨w1, N1⟩ := I_next (T := T) (nI (tk n T s)) s (en n T s) nu (addR A (nI (tk n T s))) f hn hB (by have := en_le (T := T) hs; omega)
    refine r_aload_n dX0_kindItem_9 rfl ?_
    refine r_aload_n dX0_kindItem_10 rfl ?_
    refine r_getfield dX0_kindItem_11 gfX0_32 rfl rfl ?_
    refine r_v1n ((S_X1_add h8).frame [3, 4, 5, 6, 7] rfl (by decide) rfl rfl rfl rfl) (Nat.le_of_ble_eq_true rfl) mrX1_add lkX0_61 rfl rfl rfl dX0_kindItem_14 (Nat.le_of_ble_eq_true rfl) ?_
    refine r_aload_n dX0_kindItem_17 rfl ?_
    refine r_v0n N1 (Nat.le_of_ble_eq_true rfl) mrX0_next lkX0_22 rfl rfl rfl dX0_kindItem_18 (Nat.le_of_ble_eq_true rfl) ?_
    refine r_aload_n dX0_kindItem_21 rfl ?_
    refine r_getfield dX0_kindItem_22 gfX0_32 rfl rfl ?_
    refine r_bipush (v := nI 6) dX0_kindItem_25 (by decide) ?_
    refine r_icmp_eq 32 dX0_kindItem_27 (by decide) (fun c27 => ?_) (fun c27 => ?_)
    · have e6 : tk n T (nxt n T s) = 6 := (nI_eq (by have := tk_le n T (nxt n T s); omega) (by decide)).mp c27
      obtain ⟨u2, b2, v2, N2, g2⟩ := I_nin (T := T) (nI (tk n T (nxt n T s))) (nxt n T s) (en n T (nxt n T s)) w1 (addR A (nI (tk n T s))) f (mo := nI 99) (m := 100) hn hB (by have := en_le (T := T) (nxt_le n T s); omega) (mo_n (by decide))
      refine r_aload_n dX0_kindItem_32 rfl ?_
      refine r_bipush (v := nI 99) dX0_kindItem_33 (by decide) ?_
      refine r_v1r N2 (Nat.le_of_ble_eq_true rfl) mrX0_nextIsNumber lkX0_65 rfl rfl rfl dX0_kindItem_35 (Nat.le_of_ble_eq_true rfl) ?_
      refine r_if_neB 43 dX0_kindItem_38 (by decide) (fun c38 => ?_) (fun c38 => ?_)
      · obtain ⟨rfl, rfl, -⟩ := g2 c38
        have c38' : nOK n T (nxt n T (nxt n T s)) 100 = true := c38
        obtain ⟨w3, N3⟩ := I_next (T := T) u2 (nxt n T (nxt n T s)) (en n T (nxt n T (nxt n T s))) (nI (nv n T (nxt n T (nxt n T s)))) (sN (addR A (nI (tk n T s))) (upd (rN (addR A (nI (tk n T s)))) (cnt A) (nI (nv n T (nxt n T (nxt n T s)))))) f hn hB (by have := en_le (T := T) (nxt_le n T (nxt n T s)); omega)
        refine r_aload_n dX0_kindItem_43 rfl ?_
        refine r_getfield dX0_kindItem_44 gfX0_68 rfl rfl ?_
        refine r_aload_n dX0_kindItem_47 rfl ?_
        refine r_getfield dX0_kindItem_48 gfX0_72 rfl rfl ?_
        refine r_iconst (v := nI 1) dX0_kindItem_51 (by decide) ?_
        refine r_isub dX0_kindItem_52 ?_
        rw [show nI (cnt (addR A (nI (tk n T s)))) - nI 1 = nI (cnt A) from pk_sub (a := cnt A + 1) (b := 1) (by omega)]
        refine r_aload_n dX0_kindItem_53 rfl ?_
        refine r_getfield dX0_kindItem_54 gfX0_75 rfl rfl ?_
        refine r_iastN (h' := [_, _, _, _, _, _, _, _]) dX0_kindItem_57 rfl (by omega) (Nat.le_of_ble_eq_true rfl) rfl ?_
        refine r_aload_n dX0_kindItem_58 rfl ?_
        refine r_v0n N3 (Nat.le_of_ble_eq_true rfl) mrX0_next lkX0_22 rfl rfl rfl dX0_kindItem_59 (Nat.le_of_ble_eq_true rfl) ?_
        refine r_iconst (v := nI 1) dX0_kindItem_62 (by decide) ?_
        refine r_iret dX0_kindItem_63 rfl (by first | exact bI_nar _ | rfl) ?_ ?_
        · rw [itK, if_pos h8, decide_eq_true e6, c38']; rfl
        · rw [itK, if_pos h8, decide_eq_true e6, c38']
          exact ⟨_, _, _, _, HE.rf, fun _ => ⟨rfl, rfl⟩⟩
      · refine r_iconst (v := nI 0) dX0_kindItem_41 (by decide) ?_
        refine r_iret dX0_kindItem_42 rfl (by first | exact bI_nar _ | rfl) ?_ ?_
        · rw [itK, if_pos h8, decide_eq_true e6, show nOK n T (nxt n T (nxt n T s)) 100 = false from c38]; rfl
        · rw [itK, if_pos h8, decide_eq_true e6, show nOK n T (nxt n T (nxt n T s)) 100 = false from c38]
          exact ⟨_, _, _, _, HE.rf, fun z => by cases z⟩
    · refine r_iconst (v := nI 1) dX0_kindItem_30 (by decide) ?_
      refine r_iret dX0_kindItem_31 rfl (by first | exact bI_nar _ | rfl) ?_ ?_
      · rw [itK, if_pos h8, decide_eq_false (fun z => c27 (by rw [show tk n T (sk n T (en n T s)) = 6 from z]))]; rfl
      · rw [itK, if_pos h8, decide_eq_false (fun z => c27 (by rw [show tk n T (sk n T (en n T s)) = 6 from z]))]
        exact ⟨_, _, _, _, HE.rf, fun _ => ⟨rfl, rfl⟩⟩
  · refine r_iconst (v := nI 0) dX0_kindItem_7 (by decide) ?_
    refine r_iret dX0_kindItem_8 rfl (by first | exact bI_nar _ | rfl) ?_ ?_
    · rw [itK, if_neg (t8 c4)]; rfl
    · rw [itK, if_neg (t8 c4)]
      exact ⟨_, _, _, _, HE.rf, fun z => by cases z⟩
theorem I_item {n : Nat} {T : Nat → Nat} {s : Nat} {nu : Int32} {A : RS} {f : Int32} (hn : n ≤ 120) (hB : ∀ i, T i < 256) (hs : s ≤ n) (hc : cnt A ≤ 8) : SpQ 8 mX0_item [.ref 0, .ref 3] (hI n T (nI (tk n T s)) s (en n T s) nu A f) (some (.int (bI (itm n T s A).1))) (qI n T (itm n T s A)) := by
  have hk := tk_le n T s
  have k5 : inR (nI (tk n T s)) (nI 0) (nI 5) = true → itm n T s A = itK n T s A := fun z => by
    obtain ⟨m, h1, h2, e⟩ := inR_of z (by decide) (by decide)
    rw [itm, if_pos (by have := (nI_eq (by omega) (by omega)).mp e; omega)]
  have k6 : ¬ inR (nI (tk n T s)) (nI 0) (nI 5) = true → ¬ tk n T s ≤ 5 := fun z y => z (inR_n (by omega) y (by decide))
  have kk : ∀ v, v < 100 → nI (tk n T s) = nI v → tk n T s = v := fun v hv z => (nI_eq (by omega) (by omega)).mp z
  refine SpQ.of [some (.ref 0), some (.ref 3)] mrX0_item.1 (fun _ q => qI_len q) (Nat.le_of_ble_eq_true rfl) rfl (fun X => ?_)
  refine r_aload_n dX0_item_0 rfl ?_
  refine r_getfield dX0_item_1 gfX0_32 rfl rfl ?_
  refine r_s1r S_X4_isKind (Nat.le_of_ble_eq_true rfl) mrX4_isKind lkX0_35 dX0_item_4 (Nat.le_of_ble_eq_true rfl) ?_
  refine r_if_eqB 16 dX0_item_7 (by decide) (fun c7 => ?_) (fun c7 => ?_)
  · refine r_aload_n dX0_item_16 rfl ?_
    refine r_getfield dX0_item_17 gfX0_32 rfl rfl ?_
    refine r_tsw 88 dX0_item_20 (by decide) (fun v20 h20 g20 e20 => ?_) (fun e20 => ?_)
    · rcases (show v20 = 7 ∨ v20 = 8 ∨ v20 = 9 ∨ v20 = 10 ∨ v20 = 11 by omega) with rfl | rfl | rfl | rfl | rfl
      · refine ⟨36, 56, by decide, by decide, ?_⟩
        have c20 := toI_eq 7 e20 (by decide)
        refine r_aload_n dX0_item_56 rfl ?_
        refine r_aload_n dX0_item_57 rfl ?_
        refine r_iconst (v := nI 1) dX0_item_58 (by decide) ?_
        rw [itm, if_neg (k6 (by rw [c7]; decide)), if_pos (kk 7 (by decide) c20)]
        refine r_v2rq (I_root (t := true) hn hB hs hc) (Nat.le_of_ble_eq_true rfl) mrX0_rootItem lkX0_42 rfl rfl rfl dX0_item_59 (Nat.le_of_ble_eq_true rfl) (fun h9 _ q9 => ?_)
        refine r_iret dX0_item_62 rfl (by first | exact bI_nar _ | rfl) ?_ ?_
        · rfl
        · exact q9
      · refine ⟨43, 63, by decide, by decide, ?_⟩
        have c20 := toI_eq 8 e20 (by decide)
        refine r_aload_n dX0_item_63 rfl ?_
        refine r_aload_n dX0_item_64 rfl ?_
        refine r_iconst (v := nI 0) dX0_item_65 (by decide) ?_
        rw [itm, if_neg (k6 (by rw [c7]; decide)), if_neg (by rw [kk 8 (by decide) c20]; decide), if_pos (kk 8 (by decide) c20)]
        refine r_v2rq (I_root (t := false) hn hB hs hc) (Nat.le_of_ble_eq_true rfl) mrX0_rootItem lkX0_42 rfl rfl rfl dX0_item_66 (Nat.le_of_ble_eq_true rfl) (fun h9 _ q9 => ?_)
        refine r_iret dX0_item_69 rfl (by first | exact bI_nar _ | rfl) ?_ ?_
        · rfl
        · exact q9
      · refine ⟨50, 70, by decide, by decide, ?_⟩
        have c20 := toI_eq 9 e20 (by decide)
        refine r_aload_n dX0_item_70 rfl ?_
        refine r_aload_n dX0_item_71 rfl ?_
        rw [itm, if_neg (k6 (by rw [c7]; decide)), if_neg (by rw [kk 9 (by decide) c20]; decide), if_neg (by rw [kk 9 (by decide) c20]; decide), if_pos (kk 9 (by decide) c20)]
        refine r_v1rq (I_lantern hn hB hs hc) (Nat.le_of_ble_eq_true rfl) mrX0_lanternItem lkX0_46 rfl rfl rfl dX0_item_72 (Nat.le_of_ble_eq_true rfl) (fun h9 _ q9 => ?_)
        refine r_iret dX0_item_75 rfl (by first | exact bI_nar _ | rfl) ?_ ?_
        · rfl
        · exact q9
      · refine ⟨56, 76, by decide, by decide, ?_⟩
        have c20 := toI_eq 10 e20 (by decide)
        refine r_aload_n dX0_item_76 rfl ?_
        refine r_aload_n dX0_item_77 rfl ?_
        rw [itm, if_neg (k6 (by rw [c7]; decide)), if_neg (by rw [kk 10 (by decide) c20]; decide), if_neg (by rw [kk 10 (by decide) c20]; decide), if_neg (by rw [kk 10 (by decide) c20]; decide), if_pos (kk 10 (by decide) c20)]
        refine r_v1rq (I_bright hn hB hs hc) (Nat.le_of_ble_eq_true rfl) mrX0_brightItem lkX0_49 rfl rfl rfl dX0_item_78 (Nat.le_of_ble_eq_true rfl) (fun h9 _ q9 => ?_)
        refine r_iret dX0_item_81 rfl (by first | exact bI_nar _ | rfl) ?_ ?_
        · rfl
        · exact q9
      · refine ⟨62, 82, by decide, by decide, ?_⟩
        have c20 := toI_eq 11 e20 (by decide)
        refine r_aload_n dX0_item_82 rfl ?_
        refine r_aload_n dX0_item_83 rfl ?_
        rw [itm, if_neg (k6 (by rw [c7]; decide)), if_neg (by rw [kk 11 (by decide) c20]; decide), if_neg (by rw [kk 11 (by decide) c20]; decide), if_neg (by rw [kk 11 (by decide) c20]; decide), if_neg (by rw [kk 11 (by decide) c20]; decide), if_pos (kk 11 (by decide) c20)]
        refine r_v1rq (I_swap hn hB hs hc) (Nat.le_of_ble_eq_true rfl) mrX0_swapItem lkX0_52 rfl rfl rfl dX0_item_84 (Nat.le_of_ble_eq_true rfl) (fun h9 _ q9 => ?_)
        refine r_iret dX0_item_87 rfl (by first | exact bI_nar _ | rfl) ?_ ?_
        · rfl
        · exact q9
    · have c20_7 := toI_ne 7 e20 (by decide)
      have c20_8 := toI_ne 8 e20 (by decide)
      have c20_9 := toI_ne 9 e20 (by decide)
      have c20_10 := toI_ne 10 e20 (by decide)
      have c20_11 := toI_ne 11 e20 (by decide)
      have e9 : itm n T s A = (false, s, A) := by rw [itm, if_neg (k6 (by rw [c7]; decide)), if_neg (fun z => c20_7 (by rw [z])), if_neg (fun z => c20_8 (by rw [z])), if_neg (fun z => c20_9 (by rw [z])), if_neg (fun z => c20_10 (by rw [z])), if_neg (fun z => c20_11 (by rw [z]))]
      rw [e9]
      refine r_iconst (v := nI 0) dX0_item_88 (by decide) ?_
      refine r_iret dX0_item_89 rfl (by first | exact bI_nar _ | rfl) ?_ ?_
      · rfl
      · exact ⟨_, _, _, _, HE.rf, fun z => by cases z⟩
  · refine r_aload_n dX0_item_10 rfl ?_
    refine r_aload_n dX0_item_11 rfl ?_
    rw [k5 c7]
    refine r_v1rq (I_kind hn hB hs hc) (Nat.le_of_ble_eq_true rfl) mrX0_kindItem lkX0_39 rfl rfl rfl dX0_item_12 (Nat.le_of_ble_eq_true rfl) (fun h9 _ q9 => ?_)
    refine r_iret dX0_item_15 rfl (by first | exact bI_nar _ | rfl) ?_ ?_
    · rfl
    · exact q9
/-- what the whole text comes to -/
def qN (n : Nat) (T : Nat → Nat) (r : Int32 × Option RS) (h : AH) : Prop := ∃ (tok : Int32) (s b : Nat) (nu : Int32) (A : RS) (f : Int32), HE h (hI n T tok s b nu A f) ∧ (∀ B, r.2 = some B → A = B ∧ 0 ≤ r.1) ∧ (r.2 = none → r.1 < 0)
theorem qN_len {n : Nat} {T : Nat → Nat} {r : Int32 × Option RS} {h' : AH} (q : qN n T r h') : h'.length = 8 := by
  obtain ⟨_, _, _, _, _, _, q, _⟩ := q
  exact q.len.symm
theorem itm_cnt {n : Nat} {T : Nat → Nat} {s : Nat} {A : RS} (hc : cnt A ≤ 8) : cnt (itm n T s A).2.2 ≤ 8 := by
  unfold itm itK itR itL itB itS
  repeat' split
  all_goals first
  | exact hc
  | (show cnt A + 1 ≤ 8; omega)
theorem itm_le {n : Nat} {T : Nat → Nat} {s : Nat} {A : RS} (hs : s ≤ n) : (itm n T s A).2.1 ≤ n := by
  unfold itm itK itR itL itB itS
  repeat' split
  all_goals first
  | exact hs
  | exact nxt_le _ _ _
theorem neg_s {s : Nat} (h : s ≤ 120) : ((-1) - nI s : Int32) < 0 := by
  rw [show (-1 : Int32) = 0 - 1 from rfl]
  rw [Int32.lt_iff_toInt_lt, subI, nI_toInt (by omega)]
  · show (0 - 1 : Int32).toInt - (s : Int) < 0
    rw [show (0 - 1 : Int32).toInt = -1 by decide]; omega
  · rw [nI_toInt (by omega), show (0 - 1 : Int32).toInt = -1 by decide]; omega
  · rw [nI_toInt (by omega), show (0 - 1 : Int32).toInt = -1 by decide]; omega
theorem I_tellTo {n : Nat} {T : Nat → Nat} {tok : Int32} {s b : Nat} {nu : Int32} {A : RS} {f : Int32} (hn : n ≤ 120) (hB : ∀ i, T i < 256) (hc : cnt A ≤ 8) : SpQ 9 mX0_tellTo [.ref 0, .ref 3] (hI n T tok s b nu A f) (some (.int (nrun n T 120 1 (sk n T 0) A).1)) (qN n T (nrun n T 120 1 (sk n T 0) A)) := by
  refine SpQ.of [some (.ref 0), some (.ref 3), none] mrX0_tellTo.1 (fun _ q => qN_len q) (Nat.le_of_ble_eq_true rfl) rfl (fun X => ?_)
  have L : ∀ (k i : Nat) (tok : Int32) (s b : Nat) (nu : Int32) (A : RS) (f : Int32), i + k = 121 → b < 1000 → cnt A ≤ 8 → n - sk n T b < 2 * k → RunQ X 9 mX0_tellTo 7 [some (.ref 0), some (.ref 3), some (.int (nI i))] [] (hI n T tok s b nu A f) (some (.int (nrun n T k i (sk n T b) A).1)) (qN n T (nrun n T k i (sk n T b) A)) := by
    intro k
    induction k with
    | zero => intro i tok s b nu A f _ _ _ h; exact absurd h (by omega)
    | succ k ih =>
      intro i tok s b nu A f hi hb hc hf
      obtain ⟨u1, N1⟩ := I_next (T := T) tok s b nu A f hn hB hb
      have hs := sk_le n T b
      have hs2 := itm_le (T := T) (A := A) hs
      have hc2 := itm_cnt (n := n) (T := T) (s := sk n T b) hc
      refine r_iload_n dX0_tellTo_7 rfl ?_
      refine r_bipush (v := nI 120) dX0_tellTo_8 (by decide) ?_
      refine r_icmp_gt 65 dX0_tellTo_10 (by decide) (fun c10 => ?_) (fun c10 => ?_)
      · exact absurd c10 (nI_nlt (by omega) (by omega))
      · refine r_aload_n dX0_tellTo_13 rfl ?_
        refine r_v0n N1 (Nat.le_of_ble_eq_true rfl) mrX0_next lkX0_22 rfl rfl rfl dX0_tellTo_14 (Nat.le_of_ble_eq_true rfl) ?_
        refine r_aload_n dX0_tellTo_17 rfl ?_
        refine r_aload_n dX0_tellTo_18 rfl ?_
        refine r_v1rq (I_item hn hB hs hc) (Nat.le_of_ble_eq_true rfl) mrX0_item lkX0_25 rfl rfl rfl dX0_tellTo_19 (Nat.le_of_ble_eq_true rfl) (fun h9 _ q9 => ?_)
        obtain ⟨t9, b9, v9, f9, q9, g9⟩ := q9
        refine r_heq q9 ?_
        refine r_if_neB 32 dX0_tellTo_22 (by decide) (fun c22 => ?_) (fun c22 => ?_)
        · obtain ⟨rfl, rfl⟩ := g9 c22
          have adv := itm_adv hs c22
          have k9 : ∀ v, v < 100 → (nI (tk n T (itm n T (sk n T b) A).2.1) = nI v ↔ tk n T (itm n T (sk n T b) A).2.1 = v) := fun v hv => nI_eq (by have := tk_le n T (itm n T (sk n T b) A).2.1; omega) (by omega)
          refine r_aload_n dX0_tellTo_32 rfl ?_
          refine r_getfield dX0_tellTo_33 gfX0_32 rfl rfl ?_
          refine r_bipush (v := nI 14) dX0_tellTo_36 (by decide) ?_
          refine r_icmp_ne 43 dX0_tellTo_38 (by decide) (fun c38 => ?_) (fun c38 => ?_)
          · refine r_aload_n dX0_tellTo_43 rfl ?_
            refine r_getfield dX0_tellTo_44 gfX0_32 rfl rfl ?_
            refine r_bipush (v := nI 13) dX0_tellTo_47 (by decide) ?_
            refine r_icmp_eq 59 dX0_tellTo_49 (by decide) (fun c49 => ?_) (fun c49 => ?_)
            · refine r_iinc (lv' := [_, _, _]) dX0_tellTo_59 (by decide) rfl (by first | exact inc1 _ | exact inc1_ _) rfl ?_
              refine r_goto 7 dX0_tellTo_62 (by decide) ?_
              have e := ih (i + 1) (nI (tk n T (itm n T (sk n T b) A).2.1)) (itm n T (sk n T b) A).2.1 (en n T (itm n T (sk n T b) A).2.1) v9 (itm n T (sk n T b) A).2.2 f9 (by omega) (by have := en_le (T := T) hs2; omega) hc2 (by have h13 := tk_13.mp ((k9 13 (by decide)).mp c49); have := nxt_gt (T := T) h13.1; rw [← nxt]; omega)
              rw [nrun, c22]
              dsimp only
              rw [if_neg (fun z => c38 ((k9 14 (by decide)).mpr z)), if_pos ((k9 13 (by decide)).mp c49)]
              exact e
            · refine r_iconst (v := (-1)) dX0_tellTo_52 (by decide) ?_
              refine r_aload_n dX0_tellTo_53 rfl ?_
              refine r_getfield dX0_tellTo_54 gfX0_29 rfl rfl ?_
              refine r_isub dX0_tellTo_57 ?_
              refine r_iret dX0_tellTo_58 rfl rfl ?_ ?_
              · rw [nrun, c22]
                dsimp only
                rw [if_neg (fun z => c38 ((k9 14 (by decide)).mpr z)), if_neg (fun z => c49 ((k9 13 (by decide)).mpr z))]
              · rw [nrun, c22]
                dsimp only
                rw [if_neg (fun z => c38 ((k9 14 (by decide)).mpr z)), if_neg (fun z => c49 ((k9 13 (by decide)).mpr z))]
                exact ⟨_, _, _, _, _, _, HE.rf, fun B z => by (cases z), fun _ => neg_s (by omega)⟩
          · refine r_iload_n dX0_tellTo_41 rfl ?_
            refine r_iret dX0_tellTo_42 rfl rfl ?_ ?_
            · rw [nrun, c22]
              dsimp only
              rw [if_pos ((k9 14 (by decide)).mp c38)]
            · rw [nrun, c22]
              dsimp only
              rw [if_pos ((k9 14 (by decide)).mp c38)]
              exact ⟨_, _, _, _, _, _, HE.rf, fun B z => ⟨Option.some.inj z, nI_pos' (by omega)⟩, fun z => by cases z⟩
        · refine r_iconst (v := (-1)) dX0_tellTo_25 (by decide) ?_
          refine r_aload_n dX0_tellTo_26 rfl ?_
          refine r_getfield dX0_tellTo_27 gfX0_29 rfl rfl ?_
          refine r_isub dX0_tellTo_30 ?_
          refine r_iret dX0_tellTo_31 rfl rfl ?_ ?_
          · rw [nrun, c22]
          · rw [nrun, c22]
            exact ⟨_, _, _, _, _, _, HE.rf, fun B z => by (cases z), fun _ => neg_s (by omega)⟩
  refine r_aload_n dX0_tellTo_0 rfl ?_
  refine r_iconst (v := nI 0) dX0_tellTo_1 (by decide) ?_
  refine r_putfield (fs' := [_, _, _, _, _]) (h' := [_, _, _, _, _, _, _, _]) dX0_tellTo_2 pfX0_18 rfl (Nat.le_of_ble_eq_true rfl) (fun _ => rfl) rfl rfl rfl rfl ?_
  refine r_iconst (v := nI 1) dX0_tellTo_5 (by decide) ?_
  refine r_istore_n (lv' := [_, _, _]) dX0_tellTo_6 (by decide) rfl ?_
  exact L 120 1 tok s 0 nu A f (by omega) (by omega) hc (by omega)

