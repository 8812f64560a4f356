/-! sheets: the class -/
theorem cpN : Cond.native arraycopyName ∈ gT := gT_mem (tb3 105 rfl) rfl
theorem cpS : Cond.static arraycopyName ∈ gT := gT_mem (tb3 104 rfl) rfl
theorem cpI : Cond.initialized "java/lang/System" ∈ gT := gT_mem (tb1 12 rfl) rfl
theorem cpL : Cond.methodLink RX4 211 arraycopyName ∈ gT := gT_mem (tb3 103 rfl) rfl
theorem r_acpl {X : SX} {d : Nat} {M : Mt} {pc : Nat} {lv : List (Option Value)} {st : List Value} {h : AH} {rv : Option Value} {Q : AH → Prop} {q0 q1 n0 n1 idx : Nat} {f g : Nat → Int64} {sp dp m0 : Int32} {h' : AH} (hw : Cond.methodLink M.1.cls idx arraycopyName ∈ gT) (hd : decode M.2.1 pc = .ok (.invokestatic idx, 3)) (hd1 : 1 ≤ d) (hst : st = []) (h0 : h[q0]? = some (.inl (1, n0, .inr (.inl f)))) (h1 : h[q1]? = some (.inl (1, n1, .inr (.inl g)))) (a1 : ¬ sp < 0) (a2 : ¬ dp < 0) (a3 : ¬ m0 < 0) (a4 : sp.toNatClampNeg + m0.toNatClampNeg ≤ n0) (a5 : dp.toNatClampNeg + m0.toNatClampNeg ≤ n1) (hh : h.set q1 (.inl (1, n1, .inr (.inl (va_cpy f g sp.toNatClampNeg dp.toNatClampNeg m0.toNatClampNeg)))) = h') (k : RunQ X d M (pc + 3) lv (st) h' rv Q) : RunQ X d M (pc) lv (.int m0 :: .int dp :: .ref q1 :: .int sp :: .ref q0 :: st) h rv Q := by
  intro p l e R s m args below meth c cells slots Z ad D cs A H locs ls C w hl
  obtain ⟨hx, hb, hml, hown, hts, hN, hR, hcs, hK, hE, hA, hend⟩ := id C
  subst hh
  subst hst
  have e9 := wc_set cs ad h q1 (.inl (1, n1, .inr (.inl (va_cpy f g sp.toNatClampNeg dp.toNatClampNeg m0.toNatClampNeg))))
  have hw9 : nativeFrameWords "java/lang/System" "arraycopy" 5 ≤ 19 := by decide
  refine va_copyl hx hb (hml.trans hl.1.symm) hown (hts _ hw) (hts _ cpN) (hts _ cpS) (hts _ cpI) hK w.1 w.2.1 w.2.2 q0 q1 1 1 (wc_at h0) (wc_at h1) rfl rfl rfl a1 a2 a3 a4 a5 (fun _ _ => rfl) (by omega) (by show 0 + (nativeFrameWords "java/lang/System" "arraycopy" 5 + 11) ≤ R.locals; omega) hd (fun H1 locs1 hP1 hD1 hS1 => ?_)
  refine k p l e R s m args below meth c cells slots Z ad D cs A H1 locs1 ls C ⟨?_, ?_, hS1⟩ hl
  · rw [← e9]; exact hP1
  · rw [← e9]; exact hD1
/-- a number cut to a sheet's width -/
def cutZ (b : Int32) (v : Int64) : Int64 := if b = nI 8 then v.toInt32.toInt8.toInt32.toInt64 else if b = nI 16 then v.toInt32.toInt16.toInt32.toInt64 else v
abbrev hS (Z : SHT) : AH := [zO Z 1, zN Z]
theorem S_isMissing {Z : SHT} : Sp 0 mX2_isMissing [.ref 0] (hS Z) (some (.int (bI (decide (Z.1 = 0))))) (hS Z) := by
  refine Sp.of [some (.ref 0)] mrX2_isMissing.1 rfl (Nat.le_of_ble_eq_true rfl) rfl (fun X => ?_)
  refine r_aload_n dX2_isMissing_0 rfl ?_
  refine r_getfield dX2_isMissing_1 gfX2_15 rfl rfl ?_
  refine r_if_ne 11 dX2_isMissing_4 (by decide) (fun c4 => ?_) (fun c4 => ?_)
  · refine r_iconst (v := nI 0) dX2_isMissing_11 (by decide) ?_
    refine r_iret dX2_isMissing_12 rfl (by first | exact bI_nar _ | rfl) ?_ ?_
    · first | exact ret_t (decide_eq_true c4) | exact ret_f (decide_eq_false c4)
    · exact HE.rf
  · refine r_iconst (v := nI 1) dX2_isMissing_7 (by decide) ?_
    refine r_goto 12 dX2_isMissing_8 (by decide) ?_
    refine r_iret dX2_isMissing_12 rfl (by first | exact bI_nar _ | rfl) ?_ ?_
    · first | exact ret_t (decide_eq_true c4) | exact ret_f (decide_eq_false c4)
    · exact HE.rf
theorem S_cut {Z : SHT} {v : Int64} : Sp 0 mX2_cut [.ref 0, .long v] (hS Z) (some (.long (cutZ Z.1 v))) (hS Z) := by
  refine Sp.of [some (.ref 0), some (.long v), none] mrX2_cut.1 rfl (Nat.le_of_ble_eq_true rfl) rfl (fun X => ?_)
  refine r_aload_n dX2_cut_0 rfl ?_
  refine r_getfield dX2_cut_1 gfX2_15 rfl rfl ?_
  by_cases c4_8 : Z.1 = nI 8
  · refine r_lsw dX2_cut_4 (by decide) ⟨28, 32, (by rw [c4_8]; decide), by decide, ?_⟩
    refine r_lload_n dX2_cut_32 rfl ?_
    refine r_l2i dX2_cut_33 ?_
    refine r_i2b dX2_cut_34 ?_
    refine r_i2l dX2_cut_35 ?_
    refine r_lret dX2_cut_36 rfl ?_ ?_
    · first | (rw [cutZ, if_pos c4_8]; done) | (rw [cutZ, if_neg c4_8, if_pos c4_16]; done) | (rw [cutZ, if_neg c4_8, if_neg c4_16]; done)
    · exact HE.rf
  · by_cases c4_16 : Z.1 = nI 16
    · refine r_lsw dX2_cut_4 (by decide) ⟨33, 37, (by rw [c4_16]; decide), by decide, ?_⟩
      refine r_lload_n dX2_cut_37 rfl ?_
      refine r_l2i dX2_cut_38 ?_
      refine r_i2s dX2_cut_39 ?_
      refine r_i2l dX2_cut_40 ?_
      refine r_lret dX2_cut_41 rfl ?_ ?_
      · first | (rw [cutZ, if_pos c4_8]; done) | (rw [cutZ, if_neg c4_8, if_pos c4_16]; done) | (rw [cutZ, if_neg c4_8, if_neg c4_16]; done)
      · exact HE.rf
    · refine r_lsw dX2_cut_4 (by decide) ⟨38, 42, lsw_d (by intro q hq; simp only [List.mem_cons, List.not_mem_nil, or_false] at hq; rcases hq with rfl | rfl <;> first | exact toI_nq c4_8 (by decide) | exact toI_nq c4_16 (by decide)), by decide, ?_⟩
      refine r_lload_n dX2_cut_42 rfl ?_
      refine r_lret dX2_cut_43 rfl ?_ ?_
      · first | (rw [cutZ, if_pos c4_8]; done) | (rw [cutZ, if_neg c4_8, if_pos c4_16]; done) | (rw [cutZ, if_neg c4_8, if_neg c4_16]; done)
      · exact HE.rf
theorem S_put {Z : SHT} {z i : Nat} {v : Int64} (hz : Z.2.1 = nI z) (h4 : z ≤ 40) (hi : i < z) : Sp 1 mX2_put [.ref 0, .int (nI i), .long v] (hS Z) none (hS (Z.1, Z.2.1, vp_updL Z.2.2 i (cutZ Z.1 v))) := by
  refine Sp.of [some (.ref 0), some (.int (nI i)), some (.long v), none] mrX2_put.1 rfl (Nat.le_of_ble_eq_true rfl) rfl (fun X => ?_)
  refine r_iload_n dX2_put_0 rfl ?_
  refine r_if_lt 23 dX2_put_1 (by decide) (fun c1 => ?_) (fun c1 => ?_)
  · exact absurd c1 (nI_pos (by omega))
  · refine r_iload_n dX2_put_4 rfl ?_
    refine r_aload_n dX2_put_5 rfl ?_
    refine r_getfield dX2_put_6 gfX2_19 rfl rfl ?_
    refine r_icmp_ge 23 dX2_put_9 (by decide) (fun c9 => ?_) (fun c9 => ?_)
    · exact absurd c9 (by rw [hz]; exact nI_ge hi (by omega))
    · refine r_aload_n dX2_put_12 rfl ?_
      refine r_getfield dX2_put_13 gfX2_9 rfl rfl ?_
      refine r_iload_n dX2_put_16 rfl ?_
      refine r_aload_n dX2_put_17 rfl ?_
      refine r_lload_n dX2_put_18 rfl ?_
      refine r_v1r S_cut (Nat.le_of_ble_eq_true rfl) mrX2_cut lkX2_22 rfl rfl rfl dX2_put_19 (Nat.le_of_ble_eq_true rfl) ?_
      refine r_lastN (h' := [_, _]) dX2_put_22 rfl (by omega) (Nat.le_of_ble_eq_true rfl) rfl ?_
      refine r_vret dX2_put_23 rfl ?_ ?_
      · rfl
      · exact HE.rf
theorem S_renew {Z : SHT} {b m : Int32} : Sp 0 mX2_renew [.ref 0, .int b, .int m] (hS Z) none (hS (b, (if b = 0 then 0 else m), fun _ => 0)) := by
  refine Sp.of [some (.ref 0), some (.int b), some (.int m), none] mrX2_renew.1 rfl (Nat.le_of_ble_eq_true rfl) rfl (fun X => ?_)
  have L : ∀ (sz : Int32) (k i : Nat), i + k = 40 → Run X 0 mX2_renew 20 [some (.ref 0), some (.int b), some (.int m), some (.int (nI i))] [] (hS (b, sz, fun j => if j < i then 0 else Z.2.2 j)) none (hS (b, sz, fun _ => 0)) := by
    intro sz k
    induction k with
    | zero =>
      intro i hi
      obtain rfl : i = 40 := by omega
      refine r_iload_n dX2_renew_20 rfl ?_
      refine r_bipush (v := nI 40) dX2_renew_21 (by decide) ?_
      refine r_icmp_ge 39 dX2_renew_23 (by decide) (fun c23 => ?_) (fun c23 => ?_)
      · refine r_vret dX2_renew_39 rfl ?_ ?_
        · rfl
        · exact ⟨CE.rf, CE.longs (fun i hi => if_pos hi), trivial⟩
      · exact absurd (nI_le (Nat.le_refl _) (by omega)) c23
    | succ k ih =>
      intro i hi
      refine r_iload_n dX2_renew_20 rfl ?_
      refine r_bipush (v := nI 40) dX2_renew_21 (by decide) ?_
      refine r_icmp_ge 39 dX2_renew_23 (by decide) (fun c23 => ?_) (fun c23 => ?_)
      · exact absurd c23 (nI_ge (by omega) (by omega))
      · refine r_aload_n dX2_renew_26 rfl ?_
        refine r_getfield dX2_renew_27 gfX2_9 rfl rfl ?_
        refine r_iload_n dX2_renew_30 rfl ?_
        refine r_lconst (v := 0) dX2_renew_31 (by decide) ?_
        refine r_lastN (h' := [_, _]) dX2_renew_32 rfl (by omega) (Nat.le_of_ble_eq_true rfl) rfl ?_
        refine r_iinc (lv' := [_, _, _, _]) dX2_renew_33 (by decide) rfl (by first | exact inc1 _ | exact inc1_ _) rfl ?_
        refine r_goto 20 dX2_renew_36 (by decide) ?_
        have e9 : vp_updL (fun j => if j < i then 0 else Z.2.2 j) i 0 = fun j => if j < i + 1 then 0 else Z.2.2 j := by funext j; simp only [vp_updL]; split <;> split <;> (try split) <;> first | rfl | omega
        rw [e9]
        exact ih (i + 1) (by omega)
  refine r_aload_n dX2_renew_0 rfl ?_
  refine r_iload_n dX2_renew_1 rfl ?_
  refine r_putfield (fs' := [_, _, _]) (h' := [_, _]) dX2_renew_2 pfX2_15 rfl (Nat.le_of_ble_eq_true rfl) (fun _ => rfl) rfl rfl rfl rfl ?_
  refine r_aload_n dX2_renew_5 rfl ?_
  refine r_iload_n dX2_renew_6 rfl ?_
  refine r_if_ne 14 dX2_renew_7 (by decide) (fun c7 => ?_) (fun c7 => ?_)
  · refine r_iload_n dX2_renew_14 rfl ?_
    refine r_putfield (fs' := [_, _, _]) (h' := [_, _]) dX2_renew_15 pfX2_19 rfl (Nat.le_of_ble_eq_true rfl) (fun _ => rfl) rfl rfl rfl rfl ?_
    refine r_iconst (v := nI 0) dX2_renew_18 (by decide) ?_
    refine r_istore_n (lv' := [_, _, _, _]) dX2_renew_19 (by decide) rfl ?_
    first
    | (rw [if_pos c7]; exact L (nI 0) 40 0 (by omega))
    | (rw [if_neg c7]; exact L m 40 0 (by omega))
  · refine r_iconst (v := nI 0) dX2_renew_10 (by decide) ?_
    refine r_goto 15 dX2_renew_11 (by decide) ?_
    refine r_putfield (fs' := [_, _, _]) (h' := [_, _]) dX2_renew_15 pfX2_19 rfl (Nat.le_of_ble_eq_true rfl) (fun _ => rfl) rfl rfl rfl rfl ?_
    refine r_iconst (v := nI 0) dX2_renew_18 (by decide) ?_
    refine r_istore_n (lv' := [_, _, _, _]) dX2_renew_19 (by decide) rfl ?_
    first
    | (rw [if_pos c7]; exact L (nI 0) 40 0 (by omega))
    | (rw [if_neg c7]; exact L m 40 0 (by omega))
def spn (z : Nat) (f n : Int32) : Bool := decide (0 ≤ f) && (decide (0 ≤ n) && decide (f.toInt + n.toInt ≤ z))
theorem S_spans {Z : SHT} {z : Nat} {f n : Int32} (hz : Z.2.1 = nI z) (h4 : z ≤ 40) : Sp 0 mX2_spans [.ref 0, .int f, .int n] (hS Z) (some (.int (bI (spn z f n)))) (hS Z) := by
  refine Sp.of [some (.ref 0), some (.int f), some (.int n)] mrX2_spans.1 rfl (Nat.le_of_ble_eq_true rfl) rfl (fun X => ?_)
  have ez : (nI z).toInt = z := nI_toInt (by omega)
  have p0 : ∀ x : Int32, ¬ x < 0 → 0 ≤ x.toInt := fun x hx => by have := Int32.le_iff_toInt_le.mp (Int32.not_lt.mp hx); simpa using this
  have p1 : ¬ n < 0 → ¬ nI z < n → (nI z - n).toInt = z - n.toInt := fun a b => by
    have := p0 n a
    have := Int32.le_iff_toInt_le.mp (Int32.not_lt.mp b)
    rw [ez] at this
    rw [subI (by omega) (by omega), ez]
  refine r_iload_n dX2_spans_0 rfl ?_
  refine r_if_lt 30 dX2_spans_1 (by decide) (fun c1 => ?_) (fun c1 => ?_)
  · refine r_iconst (v := nI 0) dX2_spans_30 (by decide) ?_
    refine r_iret dX2_spans_31 rfl (by first | exact bI_nar _ | rfl) ?_ ?_
    · first
      | exact ret_f (by rw [spn, decide_eq_false (Int32.not_le.mpr c1)]; rfl)
      | exact ret_f (by rw [spn, decide_eq_false (p := 0 ≤ n) (Int32.not_le.mpr c5), Bool.false_and, Bool.and_false])
      | (rw [hz] at c13; exact ret_f (by have := Int32.lt_iff_toInt_lt.mp c13; have := p0 f c1; rw [spn, decide_eq_false (p := f.toInt + n.toInt ≤ z) (by omega), Bool.and_false, Bool.and_false]))
      | (rw [hz] at c13 c23; exact ret_f (by have := Int32.lt_iff_toInt_lt.mp c23; rw [p1 c5 c13] at this; rw [spn, decide_eq_false (p := f.toInt + n.toInt ≤ z) (by omega), Bool.and_false, Bool.and_false]))
      | (rw [hz] at c13 c23; exact ret_t (by have := Int32.le_iff_toInt_le.mp (Int32.not_lt.mp c23); rw [p1 c5 c13] at this; rw [spn, decide_eq_true (p := f.toInt + n.toInt ≤ z) (by omega), decide_eq_true (Int32.not_lt.mp c1), decide_eq_true (Int32.not_lt.mp c5)]; rfl))
    · exact HE.rf
  · refine r_iload_n dX2_spans_4 rfl ?_
    refine r_if_lt 30 dX2_spans_5 (by decide) (fun c5 => ?_) (fun c5 => ?_)
    · refine r_iconst (v := nI 0) dX2_spans_30 (by decide) ?_
      refine r_iret dX2_spans_31 rfl (by first | exact bI_nar _ | rfl) ?_ ?_
      · first
        | exact ret_f (by rw [spn, decide_eq_false (Int32.not_le.mpr c1)]; rfl)
        | exact ret_f (by rw [spn, decide_eq_false (p := 0 ≤ n) (Int32.not_le.mpr c5), Bool.false_and, Bool.and_false])
        | (rw [hz] at c13; exact ret_f (by have := Int32.lt_iff_toInt_lt.mp c13; have := p0 f c1; rw [spn, decide_eq_false (p := f.toInt + n.toInt ≤ z) (by omega), Bool.and_false, Bool.and_false]))
        | (rw [hz] at c13 c23; exact ret_f (by have := Int32.lt_iff_toInt_lt.mp c23; rw [p1 c5 c13] at this; rw [spn, decide_eq_false (p := f.toInt + n.toInt ≤ z) (by omega), Bool.and_false, Bool.and_false]))
        | (rw [hz] at c13 c23; exact ret_t (by have := Int32.le_iff_toInt_le.mp (Int32.not_lt.mp c23); rw [p1 c5 c13] at this; rw [spn, decide_eq_true (p := f.toInt + n.toInt ≤ z) (by omega), decide_eq_true (Int32.not_lt.mp c1), decide_eq_true (Int32.not_lt.mp c5)]; rfl))
      · exact HE.rf
    · refine r_iload_n dX2_spans_8 rfl ?_
      refine r_aload_n dX2_spans_9 rfl ?_
      refine r_getfield dX2_spans_10 gfX2_19 rfl rfl ?_
      refine r_icmp_gt 30 dX2_spans_13 (by decide) (fun c13 => ?_) (fun c13 => ?_)
      · refine r_iconst (v := nI 0) dX2_spans_30 (by decide) ?_
        refine r_iret dX2_spans_31 rfl (by first | exact bI_nar _ | rfl) ?_ ?_
        · first
          | exact ret_f (by rw [spn, decide_eq_false (Int32.not_le.mpr c1)]; rfl)
          | exact ret_f (by rw [spn, decide_eq_false (p := 0 ≤ n) (Int32.not_le.mpr c5), Bool.false_and, Bool.and_false])
          | (rw [hz] at c13; exact ret_f (by have := Int32.lt_iff_toInt_lt.mp c13; have := p0 f c1; rw [spn, decide_eq_false (p := f.toInt + n.toInt ≤ z) (by omega), Bool.and_false, Bool.and_false]))
          | (rw [hz] at c13 c23; exact ret_f (by have := Int32.lt_iff_toInt_lt.mp c23; rw [p1 c5 c13] at this; rw [spn, decide_eq_false (p := f.toInt + n.toInt ≤ z) (by omega), Bool.and_false, Bool.and_false]))
          | (rw [hz] at c13 c23; exact ret_t (by have := Int32.le_iff_toInt_le.mp (Int32.not_lt.mp c23); rw [p1 c5 c13] at this; rw [spn, decide_eq_true (p := f.toInt + n.toInt ≤ z) (by omega), decide_eq_true (Int32.not_lt.mp c1), decide_eq_true (Int32.not_lt.mp c5)]; rfl))
        · exact HE.rf
      · refine r_iload_n dX2_spans_16 rfl ?_
        refine r_aload_n dX2_spans_17 rfl ?_
        refine r_getfield dX2_spans_18 gfX2_19 rfl rfl ?_
        refine r_iload_n dX2_spans_21 rfl ?_
        refine r_isub dX2_spans_22 ?_
        refine r_icmp_gt 30 dX2_spans_23 (by decide) (fun c23 => ?_) (fun c23 => ?_)
        · refine r_iconst (v := nI 0) dX2_spans_30 (by decide) ?_
          refine r_iret dX2_spans_31 rfl (by first | exact bI_nar _ | rfl) ?_ ?_
          · first
            | exact ret_f (by rw [spn, decide_eq_false (Int32.not_le.mpr c1)]; rfl)
            | exact ret_f (by rw [spn, decide_eq_false (p := 0 ≤ n) (Int32.not_le.mpr c5), Bool.false_and, Bool.and_false])
            | (rw [hz] at c13; exact ret_f (by have := Int32.lt_iff_toInt_lt.mp c13; have := p0 f c1; rw [spn, decide_eq_false (p := f.toInt + n.toInt ≤ z) (by omega), Bool.and_false, Bool.and_false]))
            | (rw [hz] at c13 c23; exact ret_f (by have := Int32.lt_iff_toInt_lt.mp c23; rw [p1 c5 c13] at this; rw [spn, decide_eq_false (p := f.toInt + n.toInt ≤ z) (by omega), Bool.and_false, Bool.and_false]))
            | (rw [hz] at c13 c23; exact ret_t (by have := Int32.le_iff_toInt_le.mp (Int32.not_lt.mp c23); rw [p1 c5 c13] at this; rw [spn, decide_eq_true (p := f.toInt + n.toInt ≤ z) (by omega), decide_eq_true (Int32.not_lt.mp c1), decide_eq_true (Int32.not_lt.mp c5)]; rfl))
          · exact HE.rf
        · refine r_iconst (v := nI 1) dX2_spans_26 (by decide) ?_
          refine r_goto 31 dX2_spans_27 (by decide) ?_
          refine r_iret dX2_spans_31 rfl (by first | exact bI_nar _ | rfl) ?_ ?_
          · first
            | exact ret_f (by rw [spn, decide_eq_false (Int32.not_le.mpr c1)]; rfl)
            | exact ret_f (by rw [spn, decide_eq_false (p := 0 ≤ n) (Int32.not_le.mpr c5), Bool.false_and, Bool.and_false])
            | (rw [hz] at c13; exact ret_f (by have := Int32.lt_iff_toInt_lt.mp c13; have := p0 f c1; rw [spn, decide_eq_false (p := f.toInt + n.toInt ≤ z) (by omega), Bool.and_false, Bool.and_false]))
            | (rw [hz] at c13 c23; exact ret_f (by have := Int32.lt_iff_toInt_lt.mp c23; rw [p1 c5 c13] at this; rw [spn, decide_eq_false (p := f.toInt + n.toInt ≤ z) (by omega), Bool.and_false, Bool.and_false]))
            | (rw [hz] at c13 c23; exact ret_t (by have := Int32.le_iff_toInt_le.mp (Int32.not_lt.mp c23); rw [p1 c5 c13] at this; rw [spn, decide_eq_true (p := f.toInt + n.toInt ≤ z) (by omega), decide_eq_true (Int32.not_lt.mp c1), decide_eq_true (Int32.not_lt.mp c5)]; rfl))
          · exact HE.rf
def updZ (Z : Nat → SHT) (i : Nat) (v : SHT) : Nat → SHT := fun j => if j = i then v else Z j
theorem Z_tell {R K : RS} {kp : Bool} {tc : Nat → Int32} {n : Nat} {T : Nat → Nat} {Z : Nat → SHT} {A : RS} {f1 f2 f3 tok : Int32} {s b : Nat} {nu : Int32} {fd : Int32} (w : Nat) (hw : w < 7) (hf : (-1000000001) - fd = nI w) : Sp 1 mX4_tell [.ref 0, .int fd] (hX R K kp tc n T Z A f1 f2 f3 tok s b nu) (some (.int fd)) (hX R K kp (upd tc w (tc w + nI 1)) n T Z A f1 f2 f3 tok s b nu) := (X_tell w hw hf).pre rfl (Nat.le_of_ble_eq_true rfl)
theorem Z_lookAhead {R K : RS} {kp : Bool} {tc : Nat → Int32} {n : Nat} {T : Nat → Nat} {Z : Nat → SHT} {A : RS} {f1 f2 f3 tok : Int32} {s b : Nat} {nu : Int32} : Sp 1 mX4_lookAhead [.ref 0] (hX R K kp tc n T Z A f1 f2 f3 tok s b nu) none (hX R K kp tc n T Z R f1 f2 f3 tok s b nu) := X_lookAhead.pre rfl (Nat.le_of_ble_eq_true rfl)
theorem Z_has {R K : RS} {kp : Bool} {tc : Nat → Int32} {n : Nat} {T : Nat → Nat} {Z : Nat → SHT} {A : RS} {f1 f2 f3 tok : Int32} {s b : Nat} {nu : Int32} {x : Int32} : Sp 0 mX1_has [.ref 1, .int x] (hX R K kp tc n T Z A f1 f2 f3 tok s b nu) (some (.int (bI (hasB (cnt R) x)))) (hX R K kp tc n T Z A f1 f2 f3 tok s b nu) := ((C_has (A := A) (K := K) (f1 := f1) (f2 := f2) (f3 := f3) (kp := kp) (tc := tc)).pre rfl (Nat.le_of_ble_eq_true rfl)).pre rfl (Nat.le_of_ble_eq_true rfl)
theorem Z_goStep6 {R K : RS} {kp : Bool} {tc : Nat → Int32} {n : Nat} {T : Nat → Nat} {Z : Nat → SHT} {A : RS} {f1 f2 f3 tok : Int32} {s b : Nat} {nu : Int32} (hn : cnt A ≤ 8) : Sp 3 mX1_goStep [.ref 6] (hX R K kp tc n T Z A f1 f2 f3 tok s b nu) none (hX R K kp tc n T Z (stp A) f1 (stpF A) f3 tok s b nu) := ((C_goStep6 (R := R) (K := K) (f1 := f1) (f2 := f2) (f3 := f3) (kp := kp) (tc := tc) hn).pre rfl (Nat.le_of_ble_eq_true rfl)).pre rfl (Nat.le_of_ble_eq_true rfl)
theorem Z_isMissing0 {R K : RS} {kp : Bool} {tc : Nat → Int32} {n : Nat} {T : Nat → Nat} {Z : Nat → SHT} {A : RS} {f1 f2 f3 tok : Int32} {s b : Nat} {nu : Int32} : Sp 0 mX2_isMissing [.ref 21] (hX R K kp tc n T Z A f1 f2 f3 tok s b nu) (some (.int (bI (decide ((Z 0).1 = 0))))) (hX R K kp tc n T Z A f1 f2 f3 tok s b nu) := (S_isMissing (Z := Z 0)).frame [21, 22] rfl (by decide) rfl rfl rfl rfl
theorem Z_put0 {R K : RS} {kp : Bool} {tc : Nat → Int32} {n : Nat} {T : Nat → Nat} {Z : Nat → SHT} {A : RS} {f1 f2 f3 tok : Int32} {s b : Nat} {nu : Int32} {z j : Nat} {v : Int64} (hz : (Z 0).2.1 = nI z) (h4 : z ≤ 40) (hi : j < z) : Sp 1 mX2_put [.ref 21, .int (nI j), .long v] (hX R K kp tc n T Z A f1 f2 f3 tok s b nu) none (hX R K kp tc n T (updZ Z 0 ((Z 0).1, (Z 0).2.1, vp_updL (Z 0).2.2 j (cutZ (Z 0).1 v))) A f1 f2 f3 tok s b nu) := (S_put (Z := Z 0) hz h4 hi).frame [21, 22] rfl (by decide) rfl rfl rfl rfl
theorem Z_renew0 {R K : RS} {kp : Bool} {tc : Nat → Int32} {n : Nat} {T : Nat → Nat} {Z : Nat → SHT} {A : RS} {f1 f2 f3 tok : Int32} {s b : Nat} {nu : Int32} {w m : Int32} : Sp 0 mX2_renew [.ref 21, .int w, .int m] (hX R K kp tc n T Z A f1 f2 f3 tok s b nu) none (hX R K kp tc n T (updZ Z 0 (w, (if w = 0 then 0 else m), fun _ => 0)) A f1 f2 f3 tok s b nu) := (S_renew (Z := Z 0)).frame [21, 22] rfl (by decide) rfl rfl rfl rfl
theorem Z_spans0 {R K : RS} {kp : Bool} {tc : Nat → Int32} {n : Nat} {T : Nat → Nat} {Z : Nat → SHT} {A : RS} {f1 f2 f3 tok : Int32} {s b : Nat} {nu : Int32} {z : Nat} {f m : Int32} (hz : (Z 0).2.1 = nI z) (h4 : z ≤ 40) : Sp 0 mX2_spans [.ref 21, .int f, .int m] (hX R K kp tc n T Z A f1 f2 f3 tok s b nu) (some (.int (bI (spn z f m)))) (hX R K kp tc n T Z A f1 f2 f3 tok s b nu) := (S_spans (Z := Z 0) hz h4).frame [21, 22] rfl (by decide) rfl rfl rfl rfl
theorem Z_isMissing1 {R K : RS} {kp : Bool} {tc : Nat → Int32} {n : Nat} {T : Nat → Nat} {Z : Nat → SHT} {A : RS} {f1 f2 f3 tok : Int32} {s b : Nat} {nu : Int32} : Sp 0 mX2_isMissing [.ref 23] (hX R K kp tc n T Z A f1 f2 f3 tok s b nu) (some (.int (bI (decide ((Z 1).1 = 0))))) (hX R K kp tc n T Z A f1 f2 f3 tok s b nu) := (S_isMissing (Z := Z 1)).frame [23, 24] rfl (by decide) rfl rfl rfl rfl
theorem Z_put1 {R K : RS} {kp : Bool} {tc : Nat → Int32} {n : Nat} {T : Nat → Nat} {Z : Nat → SHT} {A : RS} {f1 f2 f3 tok : Int32} {s b : Nat} {nu : Int32} {z j : Nat} {v : Int64} (hz : (Z 1).2.1 = nI z) (h4 : z ≤ 40) (hi : j < z) : Sp 1 mX2_put [.ref 23, .int (nI j), .long v] (hX R K kp tc n T Z A f1 f2 f3 tok s b nu) none (hX R K kp tc n T (updZ Z 1 ((Z 1).1, (Z 1).2.1, vp_updL (Z 1).2.2 j (cutZ (Z 1).1 v))) A f1 f2 f3 tok s b nu) := (S_put (Z := Z 1) hz h4 hi).frame [23, 24] rfl (by decide) rfl rfl rfl rfl
theorem Z_renew1 {R K : RS} {kp : Bool} {tc : Nat → Int32} {n : Nat} {T : Nat → Nat} {Z : Nat → SHT} {A : RS} {f1 f2 f3 tok : Int32} {s b : Nat} {nu : Int32} {w m : Int32} : Sp 0 mX2_renew [.ref 23, .int w, .int m] (hX R K kp tc n T Z A f1 f2 f3 tok s b nu) none (hX R K kp tc n T (updZ Z 1 (w, (if w = 0 then 0 else m), fun _ => 0)) A f1 f2 f3 tok s b nu) := (S_renew (Z := Z 1)).frame [23, 24] rfl (by decide) rfl rfl rfl rfl
theorem Z_spans1 {R K : RS} {kp : Bool} {tc : Nat → Int32} {n : Nat} {T : Nat → Nat} {Z : Nat → SHT} {A : RS} {f1 f2 f3 tok : Int32} {s b : Nat} {nu : Int32} {z : Nat} {f m : Int32} (hz : (Z 1).2.1 = nI z) (h4 : z ≤ 40) : Sp 0 mX2_spans [.ref 23, .int f, .int m] (hX R K kp tc n T Z A f1 f2 f3 tok s b nu) (some (.int (bI (spn z f m)))) (hX R K kp tc n T Z A f1 f2 f3 tok s b nu) := (S_spans (Z := Z 1) hz h4).frame [23, 24] rfl (by decide) rfl rfl rfl rfl
theorem Z_isMissing2 {R K : RS} {kp : Bool} {tc : Nat → Int32} {n : Nat} {T : Nat → Nat} {Z : Nat → SHT} {A : RS} {f1 f2 f3 tok : Int32} {s b : Nat} {nu : Int32} : Sp 0 mX2_isMissing [.ref 25] (hX R K kp tc n T Z A f1 f2 f3 tok s b nu) (some (.int (bI (decide ((Z 2).1 = 0))))) (hX R K kp tc n T Z A f1 f2 f3 tok s b nu) := (S_isMissing (Z := Z 2)).frame [25, 26] rfl (by decide) rfl rfl rfl rfl
theorem Z_put2 {R K : RS} {kp : Bool} {tc : Nat → Int32} {n : Nat} {T : Nat → Nat} {Z : Nat → SHT} {A : RS} {f1 f2 f3 tok : Int32} {s b : Nat} {nu : Int32} {z j : Nat} {v : Int64} (hz : (Z 2).2.1 = nI z) (h4 : z ≤ 40) (hi : j < z) : Sp 1 mX2_put [.ref 25, .int (nI j), .long v] (hX R K kp tc n T Z A f1 f2 f3 tok s b nu) none (hX R K kp tc n T (updZ Z 2 ((Z 2).1, (Z 2).2.1, vp_updL (Z 2).2.2 j (cutZ (Z 2).1 v))) A f1 f2 f3 tok s b nu) := (S_put (Z := Z 2) hz h4 hi).frame [25, 26] rfl (by decide) rfl rfl rfl rfl
theorem Z_renew2 {R K : RS} {kp : Bool} {tc : Nat → Int32} {n : Nat} {T : Nat → Nat} {Z : Nat → SHT} {A : RS} {f1 f2 f3 tok : Int32} {s b : Nat} {nu : Int32} {w m : Int32} : Sp 0 mX2_renew [.ref 25, .int w, .int m] (hX R K kp tc n T Z A f1 f2 f3 tok s b nu) none (hX R K kp tc n T (updZ Z 2 (w, (if w = 0 then 0 else m), fun _ => 0)) A f1 f2 f3 tok s b nu) := (S_renew (Z := Z 2)).frame [25, 26] rfl (by decide) rfl rfl rfl rfl
theorem Z_spans2 {R K : RS} {kp : Bool} {tc : Nat → Int32} {n : Nat} {T : Nat → Nat} {Z : Nat → SHT} {A : RS} {f1 f2 f3 tok : Int32} {s b : Nat} {nu : Int32} {z : Nat} {f m : Int32} (hz : (Z 2).2.1 = nI z) (h4 : z ≤ 40) : Sp 0 mX2_spans [.ref 25, .int f, .int m] (hX R K kp tc n T Z A f1 f2 f3 tok s b nu) (some (.int (bI (spn z f m)))) (hX R K kp tc n T Z A f1 f2 f3 tok s b nu) := (S_spans (Z := Z 2) hz h4).frame [25, 26] rfl (by decide) rfl rfl rfl rfl
theorem Z_isMissing3 {R K : RS} {kp : Bool} {tc : Nat → Int32} {n : Nat} {T : Nat → Nat} {Z : Nat → SHT} {A : RS} {f1 f2 f3 tok : Int32} {s b : Nat} {nu : Int32} : Sp 0 mX2_isMissing [.ref 27] (hX R K kp tc n T Z A f1 f2 f3 tok s b nu) (some (.int (bI (decide ((Z 3).1 = 0))))) (hX R K kp tc n T Z A f1 f2 f3 tok s b nu) := (S_isMissing (Z := Z 3)).frame [27, 28] rfl (by decide) rfl rfl rfl rfl
theorem Z_put3 {R K : RS} {kp : Bool} {tc : Nat → Int32} {n : Nat} {T : Nat → Nat} {Z : Nat → SHT} {A : RS} {f1 f2 f3 tok : Int32} {s b : Nat} {nu : Int32} {z j : Nat} {v : Int64} (hz : (Z 3).2.1 = nI z) (h4 : z ≤ 40) (hi : j < z) : Sp 1 mX2_put [.ref 27, .int (nI j), .long v] (hX R K kp tc n T Z A f1 f2 f3 tok s b nu) none (hX R K kp tc n T (updZ Z 3 ((Z 3).1, (Z 3).2.1, vp_updL (Z 3).2.2 j (cutZ (Z 3).1 v))) A f1 f2 f3 tok s b nu) := (S_put (Z := Z 3) hz h4 hi).frame [27, 28] rfl (by decide) rfl rfl rfl rfl
theorem Z_renew3 {R K : RS} {kp : Bool} {tc : Nat → Int32} {n : Nat} {T : Nat → Nat} {Z : Nat → SHT} {A : RS} {f1 f2 f3 tok : Int32} {s b : Nat} {nu : Int32} {w m : Int32} : Sp 0 mX2_renew [.ref 27, .int w, .int m] (hX R K kp tc n T Z A f1 f2 f3 tok s b nu) none (hX R K kp tc n T (updZ Z 3 (w, (if w = 0 then 0 else m), fun _ => 0)) A f1 f2 f3 tok s b nu) := (S_renew (Z := Z 3)).frame [27, 28] rfl (by decide) rfl rfl rfl rfl
theorem Z_spans3 {R K : RS} {kp : Bool} {tc : Nat → Int32} {n : Nat} {T : Nat → Nat} {Z : Nat → SHT} {A : RS} {f1 f2 f3 tok : Int32} {s b : Nat} {nu : Int32} {z : Nat} {f m : Int32} (hz : (Z 3).2.1 = nI z) (h4 : z ≤ 40) : Sp 0 mX2_spans [.ref 27, .int f, .int m] (hX R K kp tc n T Z A f1 f2 f3 tok s b nu) (some (.int (bI (spn z f m)))) (hX R K kp tc n T Z A f1 f2 f3 tok s b nu) := (S_spans (Z := Z 3) hz h4).frame [27, 28] rfl (by decide) rfl rfl rfl rfl
def o_sheet (L : GS) (x w m : Int32) : Int32 × GS := match inR x (nI 0) (nI 3) with
  | false => bndL L 0
  | true => match isW w with
    | false => bndL L 0
    | true => if m < 0 then bndL L 6 else if nI 40 < m then bndL L 0 else ((if w = 0 then 0 else m), L.1, L.2.1, updZ L.2.2 (tn x) (w, (if w = 0 then 0 else m), fun _ => 0))
def wfZ (Z : Nat → SHT) : Prop := ∀ i, i < 4 → ∃ z, z ≤ 40 ∧ (Z i).2.1 = nI z
theorem X_sheet {R K : RS} {kp : Bool} {tc : Nat → Int32} {n : Nat} {T : Nat → Nat} {Z : Nat → SHT} {A : RS} {f1 f2 f3 tok : Int32} {s b : Nat} {nu : Int32} {x w m : Int32} : SpQ 11 mX4_sheet [.ref 0, .int x, .int w, .int m] (hX R K kp tc n T Z A f1 f2 f3 tok s b nu) (some (.int (o_sheet ((R, K, kp, tc), (n, T), Z) x w m).1)) (qX (o_sheet ((R, K, kp, tc), (n, T), Z) x w m).2) := by
  refine SpQ.of [some (.ref 0), some (.int x), some (.int w), some (.int m)] mrX4_sheet.1 (fun _ q => qX_len q) (Nat.le_of_ble_eq_true rfl) rfl (fun X => ?_)
  have G : ∀ i, i < 4 → RunQ X 11 mX4_sheet 45 [some (.ref 0), some (.int (nI i)), some (.int w), some (.int m)] [] (hX R K kp tc n T Z A f1 f2 f3 tok s b nu) (some (.int (if w = 0 then 0 else m))) (qX ((R, K, kp, tc), (n, T), updZ Z i (w, (if w = 0 then 0 else m), fun _ => 0))) := by
    intro i hi
    rcases (show i = 0 ∨ i = 1 ∨ i = 2 ∨ i = 3 by omega) with rfl | rfl | rfl | rfl
    · refine r_aload_n dX4_sheet_45 rfl ?_
      refine r_getfield dX4_sheet_46 gfX4_31 rfl rfl ?_
      refine r_iload_n dX4_sheet_49 rfl ?_
      refine r_aaldN dX4_sheet_50 rfl (by first | decide | omega) (Nat.le_of_ble_eq_true rfl) rfl ?_
      refine r_iload_n dX4_sheet_51 rfl ?_
      refine r_iload_n dX4_sheet_52 rfl ?_
      refine r_v2n Z_renew0 (Nat.le_of_ble_eq_true rfl) mrX2_renew lkX4_188 rfl rfl rfl dX4_sheet_53 (Nat.le_of_ble_eq_true rfl) ?_
      refine r_aload_n dX4_sheet_56 rfl ?_
      refine r_getfield dX4_sheet_57 gfX4_31 rfl rfl ?_
      refine r_iload_n dX4_sheet_60 rfl ?_
      refine r_aaldN dX4_sheet_61 rfl (by first | decide | omega) (Nat.le_of_ble_eq_true rfl) rfl ?_
      refine r_getfield dX4_sheet_62 gfX4_191 rfl rfl ?_
      refine r_iret dX4_sheet_65 rfl rfl ?_ ?_
      · rfl
      · exact ⟨A, f1, f2, f3, tok, s, b, nu, HE.rf⟩
    · refine r_aload_n dX4_sheet_45 rfl ?_
      refine r_getfield dX4_sheet_46 gfX4_31 rfl rfl ?_
      refine r_iload_n dX4_sheet_49 rfl ?_
      refine r_aaldN dX4_sheet_50 rfl (by first | decide | omega) (Nat.le_of_ble_eq_true rfl) rfl ?_
      refine r_iload_n dX4_sheet_51 rfl ?_
      refine r_iload_n dX4_sheet_52 rfl ?_
      refine r_v2n Z_renew1 (Nat.le_of_ble_eq_true rfl) mrX2_renew lkX4_188 rfl rfl rfl dX4_sheet_53 (Nat.le_of_ble_eq_true rfl) ?_
      refine r_aload_n dX4_sheet_56 rfl ?_
      refine r_getfield dX4_sheet_57 gfX4_31 rfl rfl ?_
      refine r_iload_n dX4_sheet_60 rfl ?_
      refine r_aaldN dX4_sheet_61 rfl (by first | decide | omega) (Nat.le_of_ble_eq_true rfl) rfl ?_
      refine r_getfield dX4_sheet_62 gfX4_191 rfl rfl ?_
      refine r_iret dX4_sheet_65 rfl rfl ?_ ?_
      · rfl
      · exact ⟨A, f1, f2, f3, tok, s, b, nu, HE.rf⟩
    · refine r_aload_n dX4_sheet_45 rfl ?_
      refine r_getfield dX4_sheet_46 gfX4_31 rfl rfl ?_
      refine r_iload_n dX4_sheet_49 rfl ?_
      refine r_aaldN dX4_sheet_50 rfl (by first | decide | omega) (Nat.le_of_ble_eq_true rfl) rfl ?_
      refine r_iload_n dX4_sheet_51 rfl ?_
      refine r_iload_n dX4_sheet_52 rfl ?_
      refine r_v2n Z_renew2 (Nat.le_of_ble_eq_true rfl) mrX2_renew lkX4_188 rfl rfl rfl dX4_sheet_53 (Nat.le_of_ble_eq_true rfl) ?_
      refine r_aload_n dX4_sheet_56 rfl ?_
      refine r_getfield dX4_sheet_57 gfX4_31 rfl rfl ?_
      refine r_iload_n dX4_sheet_60 rfl ?_
      refine r_aaldN dX4_sheet_61 rfl (by first | decide | omega) (Nat.le_of_ble_eq_true rfl) rfl ?_
      refine r_getfield dX4_sheet_62 gfX4_191 rfl rfl ?_
      refine r_iret dX4_sheet_65 rfl rfl ?_ ?_
      · rfl
      · exact ⟨A, f1, f2, f3, tok, s, b, nu, HE.rf⟩
    · refine r_aload_n dX4_sheet_45 rfl ?_
      refine r_getfield dX4_sheet_46 gfX4_31 rfl rfl ?_
      refine r_iload_n dX4_sheet_49 rfl ?_
      refine r_aaldN dX4_sheet_50 rfl (by first | decide | omega) (Nat.le_of_ble_eq_true rfl) rfl ?_
      refine r_iload_n dX4_sheet_51 rfl ?_
      refine r_iload_n dX4_sheet_52 rfl ?_
      refine r_v2n Z_renew3 (Nat.le_of_ble_eq_true rfl) mrX2_renew lkX4_188 rfl rfl rfl dX4_sheet_53 (Nat.le_of_ble_eq_true rfl) ?_
      refine r_aload_n dX4_sheet_56 rfl ?_
      refine r_getfield dX4_sheet_57 gfX4_31 rfl rfl ?_
      refine r_iload_n dX4_sheet_60 rfl ?_
      refine r_aaldN dX4_sheet_61 rfl (by first | decide | omega) (Nat.le_of_ble_eq_true rfl) rfl ?_
      refine r_getfield dX4_sheet_62 gfX4_191 rfl rfl ?_
      refine r_iret dX4_sheet_65 rfl rfl ?_ ?_
      · rfl
      · exact ⟨A, f1, f2, f3, tok, s, b, nu, HE.rf⟩
  refine r_iload_n dX4_sheet_0 rfl ?_
  refine r_s1r S_X4_isSheet (Nat.le_of_ble_eq_true rfl) mrX4_isSheet lkX4_181 dX4_sheet_1 (Nat.le_of_ble_eq_true rfl) ?_
  refine r_if_eqB 14 dX4_sheet_4 (by decide) (fun c4 => ?_) (fun c4 => ?_)
  · refine r_aload_n dX4_sheet_14 rfl ?_
    refine r_ldc kX4_45 dX4_sheet_15 ?_
    refine r_v1r (Z_tell 0 (by decide) (by decide)) (Nat.le_of_ble_eq_true rfl) mrX4_tell lkX4_46 rfl rfl rfl dX4_sheet_17 (Nat.le_of_ble_eq_true rfl) ?_
    refine r_iret dX4_sheet_20 rfl rfl ?_ ?_
    · first | (rw [o_sheet, c4]; rfl) | (rw [o_sheet, c4, c11]; rfl)
    · first | (rw [o_sheet, c4]; exact ⟨A, f1, f2, f3, tok, s, b, nu, HE.rf⟩) | (rw [o_sheet, c4, c11]; exact ⟨A, f1, f2, f3, tok, s, b, nu, HE.rf⟩)
  · refine r_iload_n dX4_sheet_7 rfl ?_
    refine r_s1r S_X4_isWidth (Nat.le_of_ble_eq_true rfl) mrX4_isWidth lkX4_184 dX4_sheet_8 (Nat.le_of_ble_eq_true rfl) ?_
    refine r_if_neB 21 dX4_sheet_11 (by decide) (fun c11 => ?_) (fun c11 => ?_)
    · refine r_iload_n dX4_sheet_21 rfl ?_
      refine r_if_ge 32 dX4_sheet_22 (by decide) (fun c22 => ?_) (fun c22 => ?_)
      · refine r_iload_n dX4_sheet_32 rfl ?_
        refine r_bipush (v := nI 40) dX4_sheet_33 (by decide) ?_
        refine r_icmp_le 45 dX4_sheet_35 (by decide) (fun c35 => ?_) (fun c35 => ?_)
        · obtain ⟨i, -, hi, rfl⟩ := inR_of c4 (by decide) (by decide)
          have ei : tn (nI i) = i := nI_clamp (by omega)
          rw [o_sheet, c4, c11]
          dsimp only
          rw [if_neg (Int32.not_lt.mpr c22), if_neg (Int32.not_lt.mpr c35), ei]
          exact G i (by omega)
        · refine r_aload_n dX4_sheet_38 rfl ?_
          refine r_ldc kX4_45 dX4_sheet_39 ?_
          refine r_v1r (Z_tell 0 (by decide) (by decide)) (Nat.le_of_ble_eq_true rfl) mrX4_tell lkX4_46 rfl rfl rfl dX4_sheet_41 (Nat.le_of_ble_eq_true rfl) ?_
          refine r_iret dX4_sheet_44 rfl rfl ?_ ?_
          · rw [o_sheet, c4, c11]
            dsimp only
            rw [if_neg (Int32.not_lt.mpr c22), if_pos (Int32.not_le.mp c35)]; rfl
          · rw [o_sheet, c4, c11]
            dsimp only
            rw [if_neg (Int32.not_lt.mpr c22), if_pos (Int32.not_le.mp c35)]
            exact ⟨A, f1, f2, f3, tok, s, b, nu, HE.rf⟩
      · refine r_aload_n dX4_sheet_25 rfl ?_
        refine r_ldc kX4_187 dX4_sheet_26 ?_
        refine r_v1r (Z_tell 6 (by decide) (by decide)) (Nat.le_of_ble_eq_true rfl) mrX4_tell lkX4_46 rfl rfl rfl dX4_sheet_28 (Nat.le_of_ble_eq_true rfl) ?_
        refine r_iret dX4_sheet_31 rfl rfl ?_ ?_
        · rw [o_sheet, c4, c11]
          dsimp only
          rw [if_pos (Int32.not_le.mp c22)]; rfl
        · rw [o_sheet, c4, c11]
          dsimp only
          rw [if_pos (Int32.not_le.mp c22)]
          exact ⟨A, f1, f2, f3, tok, s, b, nu, HE.rf⟩
    · refine r_aload_n dX4_sheet_14 rfl ?_
      refine r_ldc kX4_45 dX4_sheet_15 ?_
      refine r_v1r (Z_tell 0 (by decide) (by decide)) (Nat.le_of_ble_eq_true rfl) mrX4_tell lkX4_46 rfl rfl rfl dX4_sheet_17 (Nat.le_of_ble_eq_true rfl) ?_
      refine r_iret dX4_sheet_20 rfl rfl ?_ ?_
      · first | (rw [o_sheet, c4]; rfl) | (rw [o_sheet, c4, c11]; rfl)
      · first | (rw [o_sheet, c4]; exact ⟨A, f1, f2, f3, tok, s, b, nu, HE.rf⟩) | (rw [o_sheet, c4, c11]; exact ⟨A, f1, f2, f3, tok, s, b, nu, HE.rf⟩)
def o_write (L : GS) (x y : Int32) (v : Int64) : Int64 × GS := match inR x (nI 0) (nI 3) with
  | false => ((bndL L 0).1.toInt64, (bndL L 0).2)
  | true => if (L.2.2 (tn x)).1 = 0 then ((bndL L 5).1.toInt64, (bndL L 5).2) else match inR y (nI 0) ((L.2.2 (tn x)).2.1 - nI 1) with
    | false => ((bndL L 0).1.toInt64, (bndL L 0).2)
    | true => ((L.2.2 (tn x)).2.2 (tn y), L.1, L.2.1, updZ L.2.2 (tn x) ((L.2.2 (tn x)).1, (L.2.2 (tn x)).2.1, vp_updL (L.2.2 (tn x)).2.2 (tn y) (cutZ (L.2.2 (tn x)).1 v)))
theorem inR_sz {y : Int32} {z : Nat} (hz : z ≤ 40) (h : inR y (nI 0) (nI z - nI 1) = true) : ∃ j, j < z ∧ y = nI j := by
  cases z with
  | zero =>
    simp only [inR, Bool.and_eq_true, decide_eq_true_eq] at h
    exact absurd (Int32.le_trans h.1 h.2) (by decide)
  | succ z =>
    rw [pk_sub (by omega)] at h
    obtain ⟨j, -, h2, e⟩ := inR_of h (by decide) (by omega)
    exact ⟨j, by omega, e⟩
theorem X_write {R K : RS} {kp : Bool} {tc : Nat → Int32} {n : Nat} {T : Nat → Nat} {Z : Nat → SHT} {A : RS} {f1 f2 f3 tok : Int32} {s b : Nat} {nu : Int32} {x y : Int32} {v : Int64} (hZ : wfZ Z) : SpQ 11 mX4_write [.ref 0, .int x, .int y, .long v] (hX R K kp tc n T Z A f1 f2 f3 tok s b nu) (some (.long (o_write ((R, K, kp, tc), (n, T), Z) x y v).1)) (qX (o_write ((R, K, kp, tc), (n, T), Z) x y v).2) := by
  refine SpQ.of [some (.ref 0), some (.int x), some (.int y), some (.long v), none, none, none, none] mrX4_write.1 (fun _ q => qX_len q) (Nat.le_of_ble_eq_true rfl) rfl (fun X => ?_)
  have G : ∀ i, i < 4 → inR (nI i) (nI 0) (nI 3) = true → RunQ X 11 mX4_write 15 [some (.ref 0), some (.int (nI i)), some (.int y), some (.long v), none, none, none, none] [] (hX R K kp tc n T Z A f1 f2 f3 tok s b nu) (some (.long (o_write ((R, K, kp, tc), (n, T), Z) (nI i) y v).1)) (qX (o_write ((R, K, kp, tc), (n, T), Z) (nI i) y v).2) := by
    intro i hi c4
    obtain ⟨z, hz, ez⟩ := hZ i hi
    have e0 : ∀ i, i < 4 → tn (nI i) = i := fun i hi => nI_clamp (by omega)
    rw [o_write, c4]
    dsimp only
    rw [e0 i hi]
    rcases (show i = 0 ∨ i = 1 ∨ i = 2 ∨ i = 3 by omega) with rfl | rfl | rfl | rfl
    · refine r_aload_n dX4_write_15 rfl ?_
      refine r_getfield dX4_write_16 gfX4_31 rfl rfl ?_
      refine r_iload_n dX4_write_19 rfl ?_
      refine r_aaldN dX4_write_20 rfl (by first | decide | omega) (Nat.le_of_ble_eq_true rfl) rfl ?_
      refine r_astore (lv' := [_, _, _, _, _, _, _, _]) dX4_write_21 (by decide) rfl ?_
      refine r_aload dX4_write_23 rfl ?_
      refine r_v0r Z_isMissing0 (Nat.le_of_ble_eq_true rfl) mrX2_isMissing lkX4_194 rfl rfl rfl dX4_write_25 (Nat.le_of_ble_eq_true rfl) ?_
      refine r_if_eqB 39 dX4_write_28 (by decide) (fun c28 => ?_) (fun c28 => ?_)
      · refine r_iload_n dX4_write_39 rfl ?_
        refine r_iconst (v := nI 0) dX4_write_40 (by decide) ?_
        refine r_aload dX4_write_41 rfl ?_
        refine r_getfield dX4_write_43 gfX4_191 rfl rfl ?_
        refine r_iconst (v := nI 1) dX4_write_46 (by decide) ?_
        refine r_isub dX4_write_47 ?_
        refine r_s3r S_X4_within (Nat.le_of_ble_eq_true rfl) mrX4_within lkX4_41 dX4_write_48 (Nat.le_of_ble_eq_true rfl) ?_
        refine r_if_neB 62 dX4_write_51 (by decide) (fun c51 => ?_) (fun c51 => ?_)
        · have c51' := c51
          rw [ez] at c51
          obtain ⟨j, hj, rfl⟩ := inR_sz hz c51
          have ej : tn (nI j) = j := nI_clamp (by omega)
          refine r_aload dX4_write_62 rfl ?_
          refine r_getfield dX4_write_64 gfX4_198 rfl rfl ?_
          refine r_iload_n dX4_write_67 rfl ?_
          refine r_laldN dX4_write_68 rfl (by omega) (Nat.le_of_ble_eq_true rfl) rfl ?_
          refine r_lstore (lv' := [_, _, _, _, _, _, _, _]) dX4_write_69 (by decide) rfl ?_
          refine r_aload dX4_write_71 rfl ?_
          refine r_iload_n dX4_write_73 rfl ?_
          refine r_lload_n dX4_write_74 rfl ?_
          refine r_v2n (Z_put0 ez hz hj) (Nat.le_of_ble_eq_true rfl) mrX2_put lkX4_202 rfl rfl rfl dX4_write_75 (Nat.le_of_ble_eq_true rfl) ?_
          refine r_lload dX4_write_78 rfl ?_
          refine r_lret dX4_write_80 rfl ?_ ?_
          · rw [if_neg (of_decide_eq_false c28), c51', ej]
          · rw [if_neg (of_decide_eq_false c28), c51', ej]
            exact ⟨A, f1, f2, f3, tok, s, b, nu, HE.rf⟩
        · refine r_aload_n dX4_write_54 rfl ?_
          refine r_ldc kX4_45 dX4_write_55 ?_
          refine r_v1r (Z_tell 0 (by decide) (by decide)) (Nat.le_of_ble_eq_true rfl) mrX4_tell lkX4_46 rfl rfl rfl dX4_write_57 (Nat.le_of_ble_eq_true rfl) ?_
          refine r_i2l dX4_write_60 ?_
          refine r_lret dX4_write_61 rfl ?_ ?_
          · rw [if_neg (of_decide_eq_false c28), c51]; rfl
          · rw [if_neg (of_decide_eq_false c28), c51]
            exact ⟨A, f1, f2, f3, tok, s, b, nu, HE.rf⟩
      · refine r_aload_n dX4_write_31 rfl ?_
        refine r_ldc kX4_197 dX4_write_32 ?_
        refine r_v1r (Z_tell 5 (by decide) (by decide)) (Nat.le_of_ble_eq_true rfl) mrX4_tell lkX4_46 rfl rfl rfl dX4_write_34 (Nat.le_of_ble_eq_true rfl) ?_
        refine r_i2l dX4_write_37 ?_
        refine r_lret dX4_write_38 rfl ?_ ?_
        · rw [if_pos (of_decide_eq_true c28)]; rfl
        · rw [if_pos (of_decide_eq_true c28)]
          exact ⟨A, f1, f2, f3, tok, s, b, nu, HE.rf⟩
    · refine r_aload_n dX4_write_15 rfl ?_
      refine r_getfield dX4_write_16 gfX4_31 rfl rfl ?_
      refine r_iload_n dX4_write_19 rfl ?_
      refine r_aaldN dX4_write_20 rfl (by first | decide | omega) (Nat.le_of_ble_eq_true rfl) rfl ?_
      refine r_astore (lv' := [_, _, _, _, _, _, _, _]) dX4_write_21 (by decide) rfl ?_
      refine r_aload dX4_write_23 rfl ?_
      refine r_v0r Z_isMissing1 (Nat.le_of_ble_eq_true rfl) mrX2_isMissing lkX4_194 rfl rfl rfl dX4_write_25 (Nat.le_of_ble_eq_true rfl) ?_
      refine r_if_eqB 39 dX4_write_28 (by decide) (fun c28 => ?_) (fun c28 => ?_)
      · refine r_iload_n dX4_write_39 rfl ?_
        refine r_iconst (v := nI 0) dX4_write_40 (by decide) ?_
        refine r_aload dX4_write_41 rfl ?_
        refine r_getfield dX4_write_43 gfX4_191 rfl rfl ?_
        refine r_iconst (v := nI 1) dX4_write_46 (by decide) ?_
        refine r_isub dX4_write_47 ?_
        refine r_s3r S_X4_within (Nat.le_of_ble_eq_true rfl) mrX4_within lkX4_41 dX4_write_48 (Nat.le_of_ble_eq_true rfl) ?_
        refine r_if_neB 62 dX4_write_51 (by decide) (fun c51 => ?_) (fun c51 => ?_)
        · have c51' := c51
          rw [ez] at c51
          obtain ⟨j, hj, rfl⟩ := inR_sz hz c51
          have ej : tn (nI j) = j := nI_clamp (by omega)
          refine r_aload dX4_write_62 rfl ?_
          refine r_getfield dX4_write_64 gfX4_198 rfl rfl ?_
          refine r_iload_n dX4_write_67 rfl ?_
          refine r_laldN dX4_write_68 rfl (by omega) (Nat.le_of_ble_eq_true rfl) rfl ?_
          refine r_lstore (lv' := [_, _, _, _, _, _, _, _]) dX4_write_69 (by decide) rfl ?_
          refine r_aload dX4_write_71 rfl ?_
          refine r_iload_n dX4_write_73 rfl ?_
          refine r_lload_n dX4_write_74 rfl ?_
          refine r_v2n (Z_put1 ez hz hj) (Nat.le_of_ble_eq_true rfl) mrX2_put lkX4_202 rfl rfl rfl dX4_write_75 (Nat.le_of_ble_eq_true rfl) ?_
          refine r_lload dX4_write_78 rfl ?_
          refine r_lret dX4_write_80 rfl ?_ ?_
          · rw [if_neg (of_decide_eq_false c28), c51', ej]
          · rw [if_neg (of_decide_eq_false c28), c51', ej]
            exact ⟨A, f1, f2, f3, tok, s, b, nu, HE.rf⟩
        · refine r_aload_n dX4_write_54 rfl ?_
          refine r_ldc kX4_45 dX4_write_55 ?_
          refine r_v1r (Z_tell 0 (by decide) (by decide)) (Nat.le_of_ble_eq_true rfl) mrX4_tell lkX4_46 rfl rfl rfl dX4_write_57 (Nat.le_of_ble_eq_true rfl) ?_
          refine r_i2l dX4_write_60 ?_
          refine r_lret dX4_write_61 rfl ?_ ?_
          · rw [if_neg (of_decide_eq_false c28), c51]; rfl
          · rw [if_neg (of_decide_eq_false c28), c51]
            exact ⟨A, f1, f2, f3, tok, s, b, nu, HE.rf⟩
      · refine r_aload_n dX4_write_31 rfl ?_
        refine r_ldc kX4_197 dX4_write_32 ?_
        refine r_v1r (Z_tell 5 (by decide) (by decide)) (Nat.le_of_ble_eq_true rfl) mrX4_tell lkX4_46 rfl rfl rfl dX4_write_34 (Nat.le_of_ble_eq_true rfl) ?_
        refine r_i2l dX4_write_37 ?_
        refine r_lret dX4_write_38 rfl ?_ ?_
        · rw [if_pos (of_decide_eq_true c28)]; rfl
        · rw [if_pos (of_decide_eq_true c28)]
          exact ⟨A, f1, f2, f3, tok, s, b, nu, HE.rf⟩
    · refine r_aload_n dX4_write_15 rfl ?_
      refine r_getfield dX4_write_16 gfX4_31 rfl rfl ?_
      refine r_iload_n dX4_write_19 rfl ?_
      refine r_aaldN dX4_write_20 rfl (by first | decide | omega) (Nat.le_of_ble_eq_true rfl) rfl ?_
      refine r_astore (lv' := [_, _, _, _, _, _, _, _]) dX4_write_21 (by decide) rfl ?_
      refine r_aload dX4_write_23 rfl ?_
      refine r_v0r Z_isMissing2 (Nat.le_of_ble_eq_true rfl) mrX2_isMissing lkX4_194 rfl rfl rfl dX4_write_25 (Nat.le_of_ble_eq_true rfl) ?_
      refine r_if_eqB 39 dX4_write_28 (by decide) (fun c28 => ?_) (fun c28 => ?_)
      · refine r_iload_n dX4_write_39 rfl ?_
        refine r_iconst (v := nI 0) dX4_write_40 (by decide) ?_
        refine r_aload dX4_write_41 rfl ?_
        refine r_getfield dX4_write_43 gfX4_191 rfl rfl ?_
        refine r_iconst (v := nI 1) dX4_write_46 (by decide) ?_
        refine r_isub dX4_write_47 ?_
        refine r_s3r S_X4_within (Nat.le_of_ble_eq_true rfl) mrX4_within lkX4_41 dX4_write_48 (Nat.le_of_ble_eq_true rfl) ?_
        refine r_if_neB 62 dX4_write_51 (by decide) (fun c51 => ?_) (fun c51 => ?_)
        · have c51' := c51
          rw [ez] at c51
          obtain ⟨j, hj, rfl⟩ := inR_sz hz c51
          have ej : tn (nI j) = j := nI_clamp (by omega)
          refine r_aload dX4_write_62 rfl ?_
          refine r_getfield dX4_write_64 gfX4_198 rfl rfl ?_
          refine r_iload_n dX4_write_67 rfl ?_
          refine r_laldN dX4_write_68 rfl (by omega) (Nat.le_of_ble_eq_true rfl) rfl ?_
          refine r_lstore (lv' := [_, _, _, _, _, _, _, _]) dX4_write_69 (by decide) rfl ?_
          refine r_aload dX4_write_71 rfl ?_
          refine r_iload_n dX4_write_73 rfl ?_
          refine r_lload_n dX4_write_74 rfl ?_
          refine r_v2n (Z_put2 ez hz hj) (Nat.le_of_ble_eq_true rfl) mrX2_put lkX4_202 rfl rfl rfl dX4_write_75 (Nat.le_of_ble_eq_true rfl) ?_
          refine r_lload dX4_write_78 rfl ?_
          refine r_lret dX4_write_80 rfl ?_ ?_
          · rw [if_neg (of_decide_eq_false c28), c51', ej]
          · rw [if_neg (of_decide_eq_false c28), c51', ej]
            exact ⟨A, f1, f2, f3, tok, s, b, nu, HE.rf⟩
        · refine r_aload_n dX4_write_54 rfl ?_
          refine r_ldc kX4_45 dX4_write_55 ?_
          refine r_v1r (Z_tell 0 (by decide) (by decide)) (Nat.le_of_ble_eq_true rfl) mrX4_tell lkX4_46 rfl rfl rfl dX4_write_57 (Nat.le_of_ble_eq_true rfl) ?_
          refine r_i2l dX4_write_60 ?_
          refine r_lret dX4_write_61 rfl ?_ ?_
          · rw [if_neg (of_decide_eq_false c28), c51]; rfl
          · rw [if_neg (of_decide_eq_false c28), c51]
            exact ⟨A, f1, f2, f3, tok, s, b, nu, HE.rf⟩
      · refine r_aload_n dX4_write_31 rfl ?_
        refine r_ldc kX4_197 dX4_write_32 ?_
        refine r_v1r (Z_tell 5 (by decide) (by decide)) (Nat.le_of_ble_eq_true rfl) mrX4_tell lkX4_46 rfl rfl rfl dX4_write_34 (Nat.le_of_ble_eq_true rfl) ?_
        refine r_i2l dX4_write_37 ?_
        refine r_lret dX4_write_38 rfl ?_ ?_
        · rw [if_pos (of_decide_eq_true c28)]; rfl
        · rw [if_pos (of_decide_eq_true c28)]
          exact ⟨A, f1, f2, f3, tok, s, b, nu, HE.rf⟩
    · refine r_aload_n dX4_write_15 rfl ?_
      refine r_getfield dX4_write_16 gfX4_31 rfl rfl ?_
      refine r_iload_n dX4_write_19 rfl ?_
      refine r_aaldN dX4_write_20 rfl (by first | decide | omega) (Nat.le_of_ble_eq_true rfl) rfl ?_
      refine r_astore (lv' := [_, _, _, _, _, _, _, _]) dX4_write_21 (by decide) rfl ?_
      refine r_aload dX4_write_23 rfl ?_
      refine r_v0r Z_isMissing3 (Nat.le_of_ble_eq_true rfl) mrX2_isMissing lkX4_194 rfl rfl rfl dX4_write_25 (Nat.le_of_ble_eq_true rfl) ?_
      refine r_if_eqB 39 dX4_write_28 (by decide) (fun c28 => ?_) (fun c28 => ?_)
      · refine r_iload_n dX4_write_39 rfl ?_
        refine r_iconst (v := nI 0) dX4_write_40 (by decide) ?_
        refine r_aload dX4_write_41 rfl ?_
        refine r_getfield dX4_write_43 gfX4_191 rfl rfl ?_
        refine r_iconst (v := nI 1) dX4_write_46 (by decide) ?_
        refine r_isub dX4_write_47 ?_
        refine r_s3r S_X4_within (Nat.le_of_ble_eq_true rfl) mrX4_within lkX4_41 dX4_write_48 (Nat.le_of_ble_eq_true rfl) ?_
        refine r_if_neB 62 dX4_write_51 (by decide) (fun c51 => ?_) (fun c51 => ?_)
        · have c51' := c51
          rw [ez] at c51
          obtain ⟨j, hj, rfl⟩ := inR_sz hz c51
          have ej : tn (nI j) = j := nI_clamp (by omega)
          refine r_aload dX4_write_62 rfl ?_
          refine r_getfield dX4_write_64 gfX4_198 rfl rfl ?_
          refine r_iload_n dX4_write_67 rfl ?_
          refine r_laldN dX4_write_68 rfl (by omega) (Nat.le_of_ble_eq_true rfl) rfl ?_
          refine r_lstore (lv' := [_, _, _, _, _, _, _, _]) dX4_write_69 (by decide) rfl ?_
          refine r_aload dX4_write_71 rfl ?_
          refine r_iload_n dX4_write_73 rfl ?_
          refine r_lload_n dX4_write_74 rfl ?_
          refine r_v2n (Z_put3 ez hz hj) (Nat.le_of_ble_eq_true rfl) mrX2_put lkX4_202 rfl rfl rfl dX4_write_75 (Nat.le_of_ble_eq_true rfl) ?_
          refine r_lload dX4_write_78 rfl ?_
          refine r_lret dX4_write_80 rfl ?_ ?_
          · rw [if_neg (of_decide_eq_false c28), c51', ej]
          · rw [if_neg (of_decide_eq_false c28), c51', ej]
            exact ⟨A, f1, f2, f3, tok, s, b, nu, HE.rf⟩
        · refine r_aload_n dX4_write_54 rfl ?_
          refine r_ldc kX4_45 dX4_write_55 ?_
          refine r_v1r (Z_tell 0 (by decide) (by decide)) (Nat.le_of_ble_eq_true rfl) mrX4_tell lkX4_46 rfl rfl rfl dX4_write_57 (Nat.le_of_ble_eq_true rfl) ?_
          refine r_i2l dX4_write_60 ?_
          refine r_lret dX4_write_61 rfl ?_ ?_
          · rw [if_neg (of_decide_eq_false c28), c51]; rfl
          · rw [if_neg (of_decide_eq_false c28), c51]
            exact ⟨A, f1, f2, f3, tok, s, b, nu, HE.rf⟩
      · refine r_aload_n dX4_write_31 rfl ?_
        refine r_ldc kX4_197 dX4_write_32 ?_
        refine r_v1r (Z_tell 5 (by decide) (by decide)) (Nat.le_of_ble_eq_true rfl) mrX4_tell lkX4_46 rfl rfl rfl dX4_write_34 (Nat.le_of_ble_eq_true rfl) ?_
        refine r_i2l dX4_write_37 ?_
        refine r_lret dX4_write_38 rfl ?_ ?_
        · rw [if_pos (of_decide_eq_true c28)]; rfl
        · rw [if_pos (of_decide_eq_true c28)]
          exact ⟨A, f1, f2, f3, tok, s, b, nu, HE.rf⟩
  refine r_iload_n dX4_write_0 rfl ?_
  refine r_s1r S_X4_isSheet (Nat.le_of_ble_eq_true rfl) mrX4_isSheet lkX4_181 dX4_write_1 (Nat.le_of_ble_eq_true rfl) ?_
  refine r_if_neB 15 dX4_write_4 (by decide) (fun c4 => ?_) (fun c4 => ?_)
  · obtain ⟨i, -, hi, rfl⟩ := inR_of c4 (by decide) (by decide)
    exact G i (by omega) c4
  · refine r_aload_n dX4_write_7 rfl ?_
    refine r_ldc kX4_45 dX4_write_8 ?_
    refine r_v1r (Z_tell 0 (by decide) (by decide)) (Nat.le_of_ble_eq_true rfl) mrX4_tell lkX4_46 rfl rfl rfl dX4_write_10 (Nat.le_of_ble_eq_true rfl) ?_
    refine r_i2l dX4_write_13 ?_
    refine r_lret dX4_write_14 rfl ?_ ?_
    · rw [o_write, c4]; rfl
    · rw [o_write, c4]
      exact ⟨A, f1, f2, f3, tok, s, b, nu, HE.rf⟩

