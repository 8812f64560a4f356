/-! what always holds: the text, the sheets -/
theorem w_bndL {L : GS} {w : Nat} (h : wfG L) : wfG (bndL L w).2 := h
theorem fdT_b (x : Int32) : ∀ (k : Nat) (t : TP), (∀ i, t.2 i < 256) → ∀ i, (fdT x k t).2 i < 256
  | 0, _, h => h
  | k + 1, t, h => fdT_b x k _ (fun i => by
    show updN t.2 t.1 (byt x k) i < 256
    unfold updN
    split
    · exact Nat.mod_lt _ (by decide)
    · exact h i)
theorem w_feed {L : GS} {x m : Int32} (h : wfG L) : wfG (o_feed L x m).2 := by
  unfold o_feed
  split
  · exact h
  · split
    · exact h
    · rename_i c
      refine ⟨h.1, ?_, fdT_b x _ _ h.2.2.1, h.2.2.2⟩
      show (fdT x (tn m) L.2.1).1 ≤ 120
      rw [fdT_1]
      omega
theorem w_wipe {L : GS} (h : wfG L) : wfG (o_wipe L).2 := ⟨h.1, Nat.zero_le _, h.2.2.1, h.2.2.2⟩
theorem w_count {L : GS} {w : Int32} (h : wfG L) : wfG (o_count L w).2 := by
  unfold o_count
  (repeat' split) <;> exact h
theorem rtO_set {A : RS} {p : Nat} {t : Bool} (hp : p < 30) (h : rtO A) : rtO (sR A (setR (rR A) (nI p) t)) := by
  have e : ∀ i, 30 ≤ i → i < 32 → bt (rR A) i = false → bt (setR (rR A) (nI p) t) i = false := by
    intro i h1 h2 h3
    cases t with
    | true =>
      show bt (rR A ||| (nI 1 <<< (nI p &&& 31))) i = false
      rw [b_or, h3, bt_sh (by omega) h2, Bool.false_or]
      exact decide_eq_false (by omega)
    | false =>
      show bt (rR A &&& ((nI 1 <<< (nI p &&& 31)) ^^^ (-1))) i = false
      rw [b_and, h3, Bool.false_and]
  exact ⟨e 30 (by decide) (by decide) h.1, e 31 (by decide) (by decide) h.2⟩
/-- an item leaves the step, and the roots on the path -/
theorem itm_rt {n : Nat} {T : Nat → Nat} {s : Nat} {A : RS} (h : rtO A) : rT (itm n T s A).2.2 = rT A ∧ rtO (itm n T s A).2.2 := by
  unfold itm
  split
  · unfold itK
    split
    · split
      · split
        · exact ⟨rfl, h⟩
        · exact ⟨rfl, h⟩
      · exact ⟨rfl, h⟩
    · exact ⟨rfl, h⟩
  · split
    · unfold itR
      split
      · rename_i ho
        simp only [nOK, Bool.and_eq_true, decide_eq_true_eq] at ho
        exact ⟨rfl, rtO_set ho.2 h⟩
      · exact ⟨rfl, h⟩
    · split
      · unfold itR
        split
        · rename_i ho
          simp only [nOK, Bool.and_eq_true, decide_eq_true_eq] at ho
          exact ⟨rfl, rtO_set ho.2 h⟩
        · exact ⟨rfl, h⟩
      · split
        · unfold itL
          split
          · exact ⟨rfl, h⟩
          · exact ⟨rfl, h⟩
        · split
          · unfold itB
            split
            · exact ⟨rfl, h⟩
            · exact ⟨rfl, h⟩
          · split
            · unfold itS
              split
              · split
                · exact ⟨rfl, h⟩
                · exact ⟨rfl, h⟩
              · exact ⟨rfl, h⟩
            · exact ⟨rfl, h⟩
theorem wf_itmS {n : Nat} {T : Nat → Nat} {s : Nat} {A : RS} (h : wfS A) : wfS (itm n T s A).2.2 := by
  obtain ⟨h1, ⟨t, ht, et⟩, h3⟩ := h
  have e := itm_rt (n := n) (T := T) (s := s) h3
  exact ⟨wf_itm h1, ⟨t, ht, e.1.trans et⟩, e.2⟩
theorem wf_nrun {n : Nat} {T : Nat → Nat} : ∀ (k i s : Nat) (A B : RS), wfS A → (nrun n T k i s A).2 = some B → wfS B
  | 0, _, _, _, _, _, h => by cases h
  | k + 1, i, s, A, B, hA, h => by
    rw [nrun_s] at h
    have h9 := wf_itmS (n := n) (T := T) (s := s) hA
    unfold nres at h
    split at h
    · cases h
    · split at h
      · cases h; exact h9
      · split at h
        · exact wf_nrun k (i + 1) _ _ B h9 h
        · cases h
theorem w_night {L : GS} (h : wfG L) : wfG (o_night L).2 := by
  refine ⟨?_, Nat.zero_le _, h.2.2.1, h.2.2.2⟩
  show wfC (nRow L.1 (nrun L.2.1.1 L.2.1.2 120 1 (sk L.2.1.1 L.2.1.2 0) L.1.1).2)
  cases e : (nrun L.2.1.1 L.2.1.2 120 1 (sk L.2.1.1 L.2.1.2 0) L.1.1).2 with
  | none => exact h.1
  | some B => exact ⟨wf_nrun _ _ _ _ B h.1.1 e, h.1.2⟩
theorem wfZ_upd {Z : Nat → SHT} {i z : Nat} {Y : SHT} (h : wfZ Z) (hz : z ≤ 40) (e : Y.2.1 = nI z) : wfZ (updZ Z i Y) := by
  intro j hj
  unfold updZ
  split
  · exact ⟨z, hz, e⟩
  · exact h j hj
theorem wfZ_same {Z : Nat → SHT} {i : Nat} {w : Int32} {f : Nat → Int64} (h : wfZ Z) : wfZ (updZ Z i (w, (Z i).2.1, f)) := by
  intro j hj
  unfold updZ
  split
  · rename_i e
    subst e
    exact h j hj
  · exact h j hj
theorem w_sheet {L : GS} {x w m : Int32} (h : wfG L) : wfG (o_sheet L x w m).2 := by
  unfold o_sheet
  split
  · exact h
  · split
    · exact h
    · split
      · exact h
      · rename_i c1
        split
        · exact h
        · rename_i c2
          refine ⟨h.1, h.2.1, h.2.2.1, ?_⟩
          obtain ⟨b, hb, rfl⟩ := nI_of c1
          have h40 : b ≤ 40 := (nI_leI hb (by decide)).mp (Int32.not_lt.mp c2)
          by_cases h0 : w = 0
          · exact wfZ_upd (z := 0) h.2.2.2 (by omega) (by show (if w = 0 then (0 : Int32) else nI b) = nI 0; rw [if_pos h0]; rfl)
          · exact wfZ_upd (z := b) h.2.2.2 h40 (by show (if w = 0 then (0 : Int32) else nI b) = nI b; rw [if_neg h0])
theorem w_write {L : GS} {x y : Int32} {v : Int64} (h : wfG L) : wfG (o_write L x y v).2 := by
  unfold o_write
  split
  · exact h
  · split
    · exact h
    · split
      · exact h
      · exact ⟨h.1, h.2.1, h.2.2.1, wfZ_same h.2.2.2⟩
theorem w_copy {L : GS} {x f y t m : Int32} (h : wfG L) : wfG (o_copy L x f y t m).2 := by
  unfold o_copy
  split
  · exact h
  · split
    · exact h
    · split
      · exact h
      · split
        · exact h
        · split
          · split
            · exact h
            · split
              · exact h
              · exact ⟨h.1, h.2.1, h.2.2.1, wfZ_same h.2.2.2⟩
          · exact h
theorem inL_n {v : Int64} (h : inL v 0 99 = true) : ∃ n, n ≤ 99 ∧ v.toInt32 = nI n := by
  simp only [inL, Bool.and_eq_true, decide_eq_true_eq] at h
  have h1 := Int64.le_iff_toInt_le.mp h.1
  have h2 := Int64.le_iff_toInt_le.mp h.2
  rw [show (0 : Int64).toInt = 0 from rfl] at h1
  rw [show (99 : Int64).toInt = 99 from rfl] at h2
  refine ⟨v.toInt.toNat, by omega, ?_⟩
  apply Int32.toInt_inj.mp
  rw [nI_toInt (by omega), Int64.toInt_toInt32, Int.bmod_eq_of_le (by omega) (by omega)]
  omega
theorem layN_wf {f : Nat → Int64} {N : Nat → Int32} (h : ∀ p, p < 8 → ∃ v, v ≤ 99 ∧ N p = nI v) : ∀ k p, p < 8 → ∃ v, v ≤ 99 ∧ (layN f N k).1 p = nI v
  | 0, p, hp => h p hp
  | k + 1, p, hp => by
    have ih := layN_wf (f := f) h k p hp
    cases c : inL (f k) 0 99 with
    | false => rw [layN_f c]; exact ih
    | true =>
      rw [layN_t c]
      show ∃ v, v ≤ 99 ∧ upd (layN f N k).1 k (f k).toInt32 p = nI v
      rw [upd_at]
      split
      · exact inL_n c
      · exact ih
theorem w_lays {L : GS} {x : Int32} (h : wfG L) : wfG (o_lays L x).2 := by
  unfold o_lays
  split
  · exact h
  · split
    · exact h
    · obtain ⟨⟨⟨⟨h1, h2, h3, h4, h5, h6⟩, ht, hr⟩, hK⟩, hn, hB, hZ⟩ := h
      exact ⟨⟨⟨⟨h1, h2, h3, layN_wf h4 _, h5, h6⟩, ht, hr⟩, hK⟩, hn, hB, hZ⟩
theorem w_bkL {L : GS} {x y : Int32} {k : Int32 × GS} (h : wfG L) (hk : wfG k.2) : wfG (bkL L x y k).2 := by
  unfold bkL
  split
  · exact h
  · split
    · exact h
    · split
      · exact h
      · exact hk
theorem w_book {L : GS} {x y : Int32} (h : wfG L) : wfG (o_book L x y).2 := w_bkL h ⟨h.1, h.2.1, h.2.2.1, wfZ_same h.2.2.2⟩
theorem w_read {L : GS} {x y : Int32} (h : wfG L) : wfG (o_read L x y).2 := w_bkL h h
