/-! what always holds of the state, and that every call keeps it -/
def wfS (R : RS) : Prop := wfR R ∧ (∃ t, t ≤ 99999 ∧ rT R = nI t) ∧ rtO R
def wfC (c : CS) : Prop := wfS c.1 ∧ wfS c.2.1
def wfG (L : GS) : Prop := wfC L.1 ∧ L.2.1.1 ≤ 120 ∧ (∀ i, L.2.1.2 i < 256) ∧ wfZ L.2.2
theorem bt_lo {x : Int32} (h : bn x < 1073741824) : bt x 30 = false ∧ bt x 31 = false := by
  have h0 := bt_n x 30
  have h1 := bt_n x 31
  rw [show bn x / 2 ^ 30 % 2 = 0 by rw [Nat.div_eq_of_lt (by exact h)]] at h0
  rw [show bn x / 2 ^ 31 % 2 = 0 by rw [Nat.div_eq_of_lt (Nat.lt_trans h (by decide))]] at h1
  constructor
  · cases e : bt x 30 with
    | false => rfl
    | true => rw [e] at h0; cases h0
  · cases e : bt x 31 with
    | false => rfl
    | true => rw [e] at h1; cases h1
theorem rtO_in {R : RS} {x : Int32} (h : inR x (nI 0) 1073741823 = true) : rtO (sR R x) := by
  obtain ⟨m, -, hm, rfl⟩ := inR_of (a := 0) (b := 1073741823) h (by decide) (by decide)
  exact bt_lo (x := nI m) (by rw [bn, pk_tn (by omega)]; omega)
section
variable {R K : RS} {kp : Bool} {tc : Nat → Int32} {x y z m w v k : Int32}
theorem w_fnd {o : Option Nat} (h : wfC (R, K, kp, tc)) : wfC (fnd R K kp tc o).2 := by
  unfold fnd
  split <;> exact h
theorem w_neg {x : Int32} (h : wfC (R, K, kp, tc)) : wfC (neg R K kp tc x).2 := by
  unfold neg
  split <;> exact h
theorem w_now (h : wfC (R, K, kp, tc)) : wfC (o_now R K kp tc w).2 := by
  unfold o_now
  (repeat' split) <;> exact h
theorem w_of (h : wfC (R, K, kp, tc)) : wfC (o_of R K kp tc x w).2 := by
  unfold o_of
  (repeat' split) <;> exact h
theorem w_as (h : wfC (R, K, kp, tc)) : wfC (o_as R K kp tc x k).2 := by
  unfold o_as
  (repeat' split) <;> exact h
theorem w_on (h : wfC (R, K, kp, tc)) : wfC (o_on R K kp tc x m w).2 := by
  unfold o_on
  split
  · exact h
  · split
    · exact h
    · split <;> exact h
theorem w_falls (h : wfC (R, K, kp, tc)) : wfC (o_falls R K kp tc m).2 := by
  unfold o_falls
  split <;> exact h
theorem w_trips (h : wfC (R, K, kp, tc)) : wfC (o_trips R K kp tc x).2 := by
  unfold o_trips
  split
  · exact h
  · exact w_fnd h
theorem w_hears (h : wfC (R, K, kp, tc)) : wfC (o_hears R K kp tc x).2 := by
  unfold o_hears
  split
  · exact h
  · exact w_fnd h
theorem w_carry (h : wfC (R, K, kp, tc)) : wfC (o_carry R K kp tc m).2 := by
  unfold o_carry
  split
  · exact h
  · split <;> exact h
theorem w_order (h : wfC (R, K, kp, tc)) : wfC (o_order R K kp tc m).2 := by
  unfold o_order
  split
  · exact h
  · exact w_neg h
theorem w_kind (h : wfC (R, K, kp, tc)) : wfC (o_kind R K kp tc x m).2 := by
  unfold o_kind
  split
  · exact h
  · split <;> exact h
theorem w_least (h : wfC (R, K, kp, tc)) : wfC (o_least R K kp tc m v).2 := by
  unfold o_least
  split
  · exact h
  · split
    · exact h
    · exact w_fnd h
theorem w_clear (h : wfC (R, K, kp, tc)) : wfC (o_clear R K kp tc m).2 := by
  unfold o_clear
  split
  · exact h
  · exact w_neg h
theorem w_nerve (h : wfC (R, K, kp, tc)) : wfC (o_nerve R K kp tc x m).2 := by
  unfold o_nerve
  split
  · exact h
  · split
    · exact h
    · exact w_fnd h
theorem w_worst (h : wfC (R, K, kp, tc)) : wfC (o_worst R K kp tc m).2 := by
  unfold o_worst
  split
  · exact h
  · split <;> exact h
theorem w_tear (h : wfC (R, K, kp, tc)) : wfC (o_tear R K kp tc).2 := h
theorem w_status (h : wfC (R, K, kp, tc)) : wfC (o_status R K kp tc w).2 := by
  unfold o_status
  split
  · exact h
  · split <;> exact h
theorem w_image (h : wfC (R, K, kp, tc)) : wfC (o_image R K kp tc).2 := ⟨h.1, h.1⟩
theorem w_undo (h : wfC (R, K, kp, tc)) : wfC (o_undo R K kp tc).2 := by
  unfold o_undo
  split
  · exact ⟨h.2, h.2⟩
  · exact h
theorem w_roots (h : wfC (R, K, kp, tc)) : wfC (o_roots R K kp tc x).2 := by
  unfold o_roots
  split
  · rename_i c
    exact ⟨⟨wf_sR h.1.1, h.1.2.1, rtO_in c⟩, h.2⟩
  · exact h
theorem w_lantern (h : wfC (R, K, kp, tc)) : wfC (o_lantern R K kp tc x).2 := by
  have h9 : wfC (sL R x, K, kp, tc) := ⟨⟨wf_sL h.1.1, h.1.2.1, h.1.2.2⟩, h.2⟩
  unfold o_lantern
  split
  · exact h9
  · split
    · exact h9
    · exact h
theorem w_bright (h : wfC (R, K, kp, tc)) : wfC (o_bright R K kp tc x).2 := by
  unfold o_bright
  split
  · rename_i c
    obtain ⟨b, -, hb, rfl⟩ := inR_of c (by decide) (by decide)
    exact ⟨⟨wf_sB h.1.1 (by omega), h.1.2.1, h.1.2.2⟩, h.2⟩
  · exact h
theorem w_walker (h : wfC (R, K, kp, tc)) : wfC (o_walker R K kp tc k).2 := by
  unfold o_walker
  split
  · exact h
  · rename_i c
    split
    · exact h
    · rename_i d
      obtain ⟨b, -, hb, rfl⟩ := inR_of c (by decide) (by decide)
      have h8 : cnt R ≤ 8 := h.1.1.1
      have hc : cnt R < 8 := by
        rcases Nat.lt_or_ge (cnt R) 8 with q | q
        · exact q
        · exact absurd (nI_le q (by omega)) (of_decide_eq_false d)
      exact ⟨⟨wf_add h.1.1 ⟨b, by omega, rfl⟩ hc, h.1.2.1, h.1.2.2⟩, h.2⟩
theorem w_set (h : wfC (R, K, kp, tc)) : wfC (o_set R K kp tc x w v).2 := by
  obtain ⟨⟨⟨h1, h2, h3, h4, h5, h6⟩, ht, hr⟩, hK⟩ := id h
  unfold o_set
  split
  · exact h
  · split
    · split
      · rename_i c
        obtain ⟨b, -, hb, rfl⟩ := inR_of c (by decide) (by decide)
        refine ⟨⟨⟨h1, h2, h3, h4, fun q hq => ?_, h6⟩, ht, hr⟩, hK⟩
        show ∃ b', upd (rH R) (tn x) (nI b) q = bI b'
        rw [upd_at]
        split
        · rcases (show b = 0 ∨ b = 1 by omega) with rfl | rfl
          · exact ⟨false, rfl⟩
          · exact ⟨true, rfl⟩
        · exact h5 q hq
      · exact h
    · split
      · split
        · rename_i c
          obtain ⟨b, -, hb, rfl⟩ := inR_of c (by decide) (by decide)
          refine ⟨⟨⟨h1, h2, fun q hq => ?_, h4, h5, h6⟩, ht, hr⟩, hK⟩
          show ∃ v', v' ≤ 9999 ∧ upd (rS R) (tn x) (nI b) q = nI v'
          rw [upd_at]
          split
          · exact ⟨b, hb, rfl⟩
          · exact h3 q hq
        · exact h
      · split
        · split
          · rename_i c
            obtain ⟨b, -, hb, rfl⟩ := inR_of c (by decide) (by decide)
            exact ⟨⟨wf_sN h.1.1 hb, ht, hr⟩, hK⟩
          · exact h
        · exact h
theorem w_swap (h : wfC (R, K, kp, tc)) : wfC (o_swap R K kp tc x y).2 := by
  have h8 : cnt R ≤ 8 := h.1.1.1
  unfold o_swap
  split
  · exact h
  · rename_i c
    split
    · exact h
    · rename_i d
      split
      · exact h
      · obtain ⟨p, hp, rfl⟩ := hasB_of c (by omega)
        obtain ⟨o, ho, rfl⟩ := hasB_of d (by omega)
        have e1 : tn (nI p) = p := nI_clamp (by omega)
        have e2 : tn (nI o) = o := nI_clamp (by omega)
        rw [e1, e2]
        exact ⟨⟨wf_sw h.1.1 (by omega) (by omega), h.1.2.1, h.1.2.2⟩, h.2⟩
theorem w_turn (h : wfC (R, K, kp, tc)) : wfC (o_turn R K kp tc x k).2 := by
  unfold o_turn
  split
  · exact h
  · split
    · exact h
    · rename_i c
      obtain ⟨b, -, hb, rfl⟩ := inR_of c (by decide) (by decide)
      exact ⟨⟨wf_sK h.1.1 (by omega), h.1.2.1, h.1.2.2⟩, h.2⟩
theorem rT_stpN : ∀ (m : Nat) (R : RS) (t : Nat), rT R = nI t → rT (stpN m R) = nI (t + m)
  | 0, _, _, h => h
  | m + 1, R, t, h => by
    have e := rT_stpN m (stp R) (t + 1) (by show rT R + nI 1 = _; rw [h, nI_add])
    rw [show t + 1 + m = t + (m + 1) by omega] at e
    exact e
theorem rR_stpN : ∀ (m : Nat) (R : RS), rR (stpN m R) = rR R
  | 0, _ => rfl
  | m + 1, R => rR_stpN m (stp R)
theorem w_steps (h : wfC (R, K, kp, tc)) : wfC (o_steps R K kp tc m).2 := by
  obtain ⟨⟨hw, ⟨t, ht, et⟩, hr⟩, hK⟩ := id h
  unfold o_steps
  split
  · exact h
  · rename_i c
    obtain ⟨b, hb0, hb, rfl⟩ := inR_of c (by decide) (by decide)
    have e1 : tn (nI b) = b := nI_clamp (by omega)
    split
    · rename_i d
      have d2 : t ≤ 99999 - b := by
        have e2 : (99999 : Int32) - nI b = nI (99999 - b) := pk_sub (a := 99999) (by omega)
        have d9 : rT R ≤ 99999 - nI b := d
        rw [show rT R = nI t from et, e2] at d9
        have d := d9
        exact (nI_leI (by omega) (by omega)).mp d
      rw [e1]
      refine ⟨⟨wf_stpN hw b, ⟨t + b, by omega, rT_stpN b R t et⟩, ?_⟩, hK⟩
      show bt (rR (stpN b R)) 30 = false ∧ bt (rR (stpN b R)) 31 = false
      rw [rR_stpN]
      exact hr
    · exact h
end
