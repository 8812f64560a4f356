/-! the Row: its state, and what its methods do -/
/-- step, roots, lantern, bright, count; kinds, heard, stumbled, nerves -/
abbrev RS : Type := (Int32 × Int32 × Int32 × Int32 × Nat) × (Nat → Int32) × (Nat → Int32) × (Nat → Int32) × (Nat → Int32)
abbrev hRc (t r l b : Int32) (n : Nat) (K Hd St Nv : Nat → Int32) (fl : Int32) : AH := [.inr (1, [.int t, .int r, .int l, .int b, .int (nI n), .ref 1, .ref 2, .ref 3, .ref 4, .int fl]), .inl (0, 8, .inl K), .inl (0, 8, .inl Hd), .inl (0, 8, .inl St), .inl (0, 8, .inl Nv)]
def hasB (n : Nat) (x : Int32) : Bool := decide (0 ≤ x) && decide (x < nI n)
theorem hasB_t {n : Nat} {x : Int32} (h1 : ¬ x < 0) (h2 : ¬ nI n ≤ x) : hasB n x = true := by simp [hasB, Int32.not_lt.mp h1, Int32.not_le.mp h2]
theorem hasB_f1 {n : Nat} {x : Int32} (h1 : x < 0) : hasB n x = false := by simp [hasB, Int32.not_le.mpr h1]
theorem hasB_f2 {n : Nat} {x : Int32} (h1 : nI n ≤ x) : hasB n x = false := by simp [hasB, Int32.not_lt.mpr h1]
theorem hasB_of {n : Nat} {x : Int32} (h : hasB n x = true) (hn : n < 2 ^ 31) : ∃ p, p < n ∧ x = nI p := by
  simp only [hasB, Bool.and_eq_true, decide_eq_true_eq] at h
  have h3 : ¬ x < 0 := Int32.not_lt.mpr h.1
  obtain ⟨j, hj, rfl⟩ := nI_of h3
  exact ⟨j, (nI_ltI hj hn).mp h.2, rfl⟩
theorem hasB_n {n p : Nat} (h : p < n) (hn : n < 2 ^ 31) : hasB n (nI p) = true := hasB_t (nI_pos (by omega)) (nI_ge h hn)
theorem S_X1_has {t r l b : Int32} {n : Nat} {K Hd St Nv : Nat → Int32} {fl x : Int32} : Sp 0 mX1_has [.ref 0, .int x] (hRc t r l b n K Hd St Nv fl) (some (.int (bI (hasB n x)))) (hRc t r l b n K Hd St Nv fl) := by
  refine Sp.of [some (.ref 0), some (.int x)] mrX1_has.1 rfl (Nat.le_of_ble_eq_true rfl) rfl (fun X => ?_)
  refine r_iload_n dX1_has_0 rfl ?_
  refine r_if_lt 16 dX1_has_1 (by decide) (fun c1 => ?_) (fun c1 => ?_)
  · refine r_iconst (v := nI 0) dX1_has_16 (by decide) ?_
    refine r_iret dX1_has_17 rfl (by first | exact bI_nar _ | rfl) ?_ ?_
    · first | exact ret_t (hasB_t c1 c9) | exact ret_f (hasB_f1 c1) | exact ret_f (hasB_f2 c9)
    · exact HE.rf
  · refine r_iload_n dX1_has_4 rfl ?_
    refine r_aload_n dX1_has_5 rfl ?_
    refine r_getfield dX1_has_6 gfX1_38 rfl rfl ?_
    refine r_icmp_ge 16 dX1_has_9 (by decide) (fun c9 => ?_) (fun c9 => ?_)
    · refine r_iconst (v := nI 0) dX1_has_16 (by decide) ?_
      refine r_iret dX1_has_17 rfl (by first | exact bI_nar _ | rfl) ?_ ?_
      · first | exact ret_t (hasB_t c1 c9) | exact ret_f (hasB_f1 c1) | exact ret_f (hasB_f2 c9)
      · exact HE.rf
    · refine r_iconst (v := nI 1) dX1_has_12 (by decide) ?_
      refine r_goto 17 dX1_has_13 (by decide) ?_
      refine r_iret dX1_has_17 rfl (by first | exact bI_nar _ | rfl) ?_ ?_
      · first | exact ret_t (hasB_t c1 c9) | exact ret_f (hasB_f1 c1) | exact ret_f (hasB_f2 c9)
      · exact HE.rf
theorem S_X1_isFull {t r l b : Int32} {n : Nat} {K Hd St Nv : Nat → Int32} {fl : Int32} : Sp 0 mX1_isFull [.ref 0] (hRc t r l b n K Hd St Nv fl) (some (.int (bI (decide (nI 8 ≤ nI n))))) (hRc t r l b n K Hd St Nv fl) := by
  refine Sp.of [some (.ref 0)] mrX1_isFull.1 rfl (Nat.le_of_ble_eq_true rfl) rfl (fun X => ?_)
  refine r_aload_n dX1_isFull_0 rfl ?_
  refine r_getfield dX1_isFull_1 gfX1_38 rfl rfl ?_
  refine r_bipush (v := nI 8) dX1_isFull_4 (by decide) ?_
  refine r_icmp_lt 13 dX1_isFull_6 (by decide) (fun c6 => ?_) (fun c6 => ?_)
  · refine r_iconst (v := nI 0) dX1_isFull_13 (by decide) ?_
    refine r_iret dX1_isFull_14 rfl (by first | exact bI_nar _ | rfl) ?_ ?_
    · first | exact ret_t (decide_eq_true (Int32.not_lt.mp c6)) | exact ret_f (decide_eq_false (Int32.not_le.mpr c6))
    · exact HE.rf
  · refine r_iconst (v := nI 1) dX1_isFull_9 (by decide) ?_
    refine r_goto 14 dX1_isFull_10 (by decide) ?_
    refine r_iret dX1_isFull_14 rfl (by first | exact bI_nar _ | rfl) ?_ ?_
    · first | exact ret_t (decide_eq_true (Int32.not_lt.mp c6)) | exact ret_f (decide_eq_false (Int32.not_le.mpr c6))
    · exact HE.rf
theorem S_X1_add {t r l b : Int32} {n : Nat} {K Hd St Nv : Nat → Int32} {fl k : Int32} (hn : n < 8) : Sp 1 mX1_add [.ref 0, .int k] (hRc t r l b n K Hd St Nv fl) none (hRc t r l b (n + 1) (upd K n k) (upd Hd n (nI 0)) (upd St n (nI 0)) (upd Nv n (nI 50)) fl) := by
  refine Sp.of [some (.ref 0), some (.int k)] mrX1_add.1 rfl (Nat.le_of_ble_eq_true rfl) rfl (fun X => ?_)
  refine r_aload_n dX1_add_0 rfl ?_
  refine r_v0r S_X1_isFull (Nat.le_of_ble_eq_true rfl) mrX1_isFull lkX1_41 rfl rfl rfl dX1_add_1 (Nat.le_of_ble_eq_true rfl) ?_
  refine r_if_eqB 8 dX1_add_4 (by decide) (fun c4 => ?_) (fun c4 => ?_)
  · refine r_aload_n dX1_add_8 rfl ?_
    refine r_getfield dX1_add_9 gfX1_19 rfl rfl ?_
    refine r_aload_n dX1_add_12 rfl ?_
    refine r_getfield dX1_add_13 gfX1_38 rfl rfl ?_
    refine r_iload_n dX1_add_16 rfl ?_
    refine r_iastN (h' := [_, _, _, _, _]) dX1_add_17 rfl (by first | decide | omega) (Nat.le_of_ble_eq_true rfl) rfl ?_
    refine r_aload_n dX1_add_18 rfl ?_
    refine r_getfield dX1_add_19 gfX1_23 rfl rfl ?_
    refine r_aload_n dX1_add_22 rfl ?_
    refine r_getfield dX1_add_23 gfX1_38 rfl rfl ?_
    refine r_iconst (v := nI 0) dX1_add_26 (by decide) ?_
    refine r_iastN (h' := [_, _, _, _, _]) dX1_add_27 rfl (by first | decide | omega) (Nat.le_of_ble_eq_true rfl) rfl ?_
    refine r_aload_n dX1_add_28 rfl ?_
    refine r_getfield dX1_add_29 gfX1_26 rfl rfl ?_
    refine r_aload_n dX1_add_32 rfl ?_
    refine r_getfield dX1_add_33 gfX1_38 rfl rfl ?_
    refine r_iconst (v := nI 0) dX1_add_36 (by decide) ?_
    refine r_iastN (h' := [_, _, _, _, _]) dX1_add_37 rfl (by first | decide | omega) (Nat.le_of_ble_eq_true rfl) rfl ?_
    refine r_aload_n dX1_add_38 rfl ?_
    refine r_getfield dX1_add_39 gfX1_29 rfl rfl ?_
    refine r_aload_n dX1_add_42 rfl ?_
    refine r_getfield dX1_add_43 gfX1_38 rfl rfl ?_
    refine r_bipush (v := nI 50) dX1_add_46 (by decide) ?_
    refine r_iastN (h' := [_, _, _, _, _]) dX1_add_48 rfl (by first | decide | omega) (Nat.le_of_ble_eq_true rfl) rfl ?_
    refine r_aload_n dX1_add_49 rfl ?_
    refine r_dup dX1_add_50 rfl ?_
    refine r_getfield dX1_add_51 gfX1_38 rfl rfl ?_
    refine r_iconst (v := nI 1) dX1_add_54 (by decide) ?_
    refine r_iadd dX1_add_55 ?_
    refine r_putfield (fs' := [_, _, _, _, _, _, _, _, _, _]) (h' := [_, _, _, _, _]) dX1_add_56 pfX1_38 rfl (Nat.le_of_ble_eq_true rfl) (fun _ => rfl) rfl rfl rfl rfl ?_
    refine r_vret dX1_add_59 rfl ?_ ?_
    · rfl
    · rw [nI_add]
      exact HE.rf
  · exact absurd (of_decide_eq_true c4) (nI_ge (by omega) (by omega))
def swp (f : Nat → Int32) (p o : Nat) : Nat → Int32 := upd (upd f p (f o)) o (f p)
theorem S_X1_exchangeIn {p o : Nat} {f : Nat → Int32} (hp : p < 8) (ho : o < 8) : Sp 0 mX1_exchangeIn [.ref 0, .int (nI p), .int (nI o)] [.inl (0, 8, .inl f)] none [.inl (0, 8, .inl (swp f p o))] := by
  refine Sp.of [some (.ref 0), some (.int (nI p)), some (.int (nI o)), none] mrX1_exchangeIn.1 rfl (Nat.le_of_ble_eq_true rfl) rfl (fun X => ?_)
  refine r_aload_n dX1_exchangeIn_0 rfl ?_
  refine r_iload_n dX1_exchangeIn_1 rfl ?_
  refine r_ialdN dX1_exchangeIn_2 rfl (by first | decide | omega) (Nat.le_of_ble_eq_true rfl) rfl ?_
  refine r_istore_n (lv' := [_, _, _, _]) dX1_exchangeIn_3 (by decide) rfl ?_
  refine r_aload_n dX1_exchangeIn_4 rfl ?_
  refine r_iload_n dX1_exchangeIn_5 rfl ?_
  refine r_aload_n dX1_exchangeIn_6 rfl ?_
  refine r_iload_n dX1_exchangeIn_7 rfl ?_
  refine r_ialdN dX1_exchangeIn_8 rfl (by first | decide | omega) (Nat.le_of_ble_eq_true rfl) rfl ?_
  refine r_iastN (h' := [_]) dX1_exchangeIn_9 rfl (by first | decide | omega) (Nat.le_of_ble_eq_true rfl) rfl ?_
  refine r_aload_n dX1_exchangeIn_10 rfl ?_
  refine r_iload_n dX1_exchangeIn_11 rfl ?_
  refine r_iload_n dX1_exchangeIn_12 rfl ?_
  refine r_iastN (h' := [_]) dX1_exchangeIn_13 rfl (by first | decide | omega) (Nat.le_of_ble_eq_true rfl) rfl ?_
  refine r_vret dX1_exchangeIn_14 rfl ?_ ?_
  · rfl
  · exact HE.rf
theorem hn31 {n : Nat} (h : n ≤ 8) : n < 2 ^ 31 := by omega
theorem S_X1_exchange {t r l b : Int32} {n p o : Nat} {K Hd St Nv : Nat → Int32} {fl : Int32} (hn : n ≤ 8) (hp : p < n) (ho : o < n) : Sp 1 mX1_exchange [.ref 0, .int (nI p), .int (nI o)] (hRc t r l b n K Hd St Nv fl) none (hRc t r l b n (swp K p o) (swp Hd p o) (swp St p o) (swp Nv p o) fl) := by
  refine Sp.of [some (.ref 0), some (.int (nI p)), some (.int (nI o))] mrX1_exchange.1 rfl (Nat.le_of_ble_eq_true rfl) rfl (fun X => ?_)
  refine r_aload_n dX1_exchange_0 rfl ?_
  refine r_iload_n dX1_exchange_1 rfl ?_
  refine r_v1r S_X1_has (Nat.le_of_ble_eq_true rfl) mrX1_has lkX1_45 rfl rfl rfl dX1_exchange_2 (Nat.le_of_ble_eq_true rfl) ?_
  refine r_if_eqB 16 dX1_exchange_5 (by decide) (fun c5 => ?_) (fun c5 => ?_)
  · exact absurd c5 (by rw [hasB_n hp (hn31 hn)]; decide)
  · refine r_aload_n dX1_exchange_8 rfl ?_
    refine r_iload_n dX1_exchange_9 rfl ?_
    refine r_v1r S_X1_has (Nat.le_of_ble_eq_true rfl) mrX1_has lkX1_45 rfl rfl rfl dX1_exchange_10 (Nat.le_of_ble_eq_true rfl) ?_
    refine r_if_neB 17 dX1_exchange_13 (by decide) (fun c13 => ?_) (fun c13 => ?_)
    · refine r_aload_n dX1_exchange_17 rfl ?_
      refine r_getfield dX1_exchange_18 gfX1_19 rfl rfl ?_
      refine r_iload_n dX1_exchange_21 rfl ?_
      refine r_iload_n dX1_exchange_22 rfl ?_
      refine r_s3n ((S_X1_exchangeIn (p := p) (o := o) (by omega) (by omega)).frame [1] rfl (by decide) rfl rfl rfl rfl) (Nat.le_of_ble_eq_true rfl) mrX1_exchangeIn lkX1_49 dX1_exchange_23 (Nat.le_of_ble_eq_true rfl) ?_
      refine r_aload_n dX1_exchange_26 rfl ?_
      refine r_getfield dX1_exchange_27 gfX1_23 rfl rfl ?_
      refine r_iload_n dX1_exchange_30 rfl ?_
      refine r_iload_n dX1_exchange_31 rfl ?_
      refine r_s3n ((S_X1_exchangeIn (p := p) (o := o) (by omega) (by omega)).frame [2] rfl (by decide) rfl rfl rfl rfl) (Nat.le_of_ble_eq_true rfl) mrX1_exchangeIn lkX1_49 dX1_exchange_32 (Nat.le_of_ble_eq_true rfl) ?_
      refine r_aload_n dX1_exchange_35 rfl ?_
      refine r_getfield dX1_exchange_36 gfX1_26 rfl rfl ?_
      refine r_iload_n dX1_exchange_39 rfl ?_
      refine r_iload_n dX1_exchange_40 rfl ?_
      refine r_s3n ((S_X1_exchangeIn (p := p) (o := o) (by omega) (by omega)).frame [3] rfl (by decide) rfl rfl rfl rfl) (Nat.le_of_ble_eq_true rfl) mrX1_exchangeIn lkX1_49 dX1_exchange_41 (Nat.le_of_ble_eq_true rfl) ?_
      refine r_aload_n dX1_exchange_44 rfl ?_
      refine r_getfield dX1_exchange_45 gfX1_29 rfl rfl ?_
      refine r_iload_n dX1_exchange_48 rfl ?_
      refine r_iload_n dX1_exchange_49 rfl ?_
      refine r_s3n ((S_X1_exchangeIn (p := p) (o := o) (by omega) (by omega)).frame [4] rfl (by decide) rfl rfl rfl rfl) (Nat.le_of_ble_eq_true rfl) mrX1_exchangeIn lkX1_49 dX1_exchange_50 (Nat.le_of_ble_eq_true rfl) ?_
      refine r_vret dX1_exchange_53 rfl ?_ ?_
      · rfl
      · exact HE.rf
    · exact absurd c13 (by rw [hasB_n ho (hn31 hn)]; decide)
def setR (r : Int32) (x : Int32) (there : Bool) : Int32 := match there with
  | true => r ||| (nI 1 <<< (x &&& 31))
  | false => r &&& ((nI 1 <<< (x &&& 31)) ^^^ (-1))
theorem S_X1_setRoot {t r l b : Int32} {n : Nat} {K Hd St Nv : Nat → Int32} {fl x : Int32} {there : Bool} : Sp 0 mX1_setRoot [.ref 0, .int x, .int (bI there)] (hRc t r l b n K Hd St Nv fl) none (hRc t (setR r x there) l b n K Hd St Nv fl) := by
  refine Sp.of [some (.ref 0), some (.int x), some (.int (bI there))] mrX1_setRoot.1 rfl (Nat.le_of_ble_eq_true rfl) rfl (fun X => ?_)
  refine r_iload_n dX1_setRoot_0 rfl ?_
  refine r_if_eqB 19 dX1_setRoot_1 (by decide) (fun c1 => ?_) (fun c1 => ?_)
  · refine r_aload_n dX1_setRoot_19 rfl ?_
    refine r_dup dX1_setRoot_20 rfl ?_
    refine r_getfield dX1_setRoot_21 gfX1_10 rfl rfl ?_
    refine r_iconst (v := nI 1) dX1_setRoot_24 (by decide) ?_
    refine r_iload_n dX1_setRoot_25 rfl ?_
    refine r_ishl dX1_setRoot_26 ?_
    refine r_iconst (v := (-1)) dX1_setRoot_27 (by decide) ?_
    refine r_ixor dX1_setRoot_28 ?_
    refine r_iand dX1_setRoot_29 ?_
    refine r_putfield (fs' := [_, _, _, _, _, _, _, _, _, _]) (h' := [_, _, _, _, _]) dX1_setRoot_30 pfX1_10 rfl (Nat.le_of_ble_eq_true rfl) (fun _ => rfl) rfl rfl rfl rfl ?_
    refine r_vret dX1_setRoot_33 rfl ?_ ?_
    · rfl
    · subst c1
      exact HE.rf
  · refine r_aload_n dX1_setRoot_4 rfl ?_
    refine r_dup dX1_setRoot_5 rfl ?_
    refine r_getfield dX1_setRoot_6 gfX1_10 rfl rfl ?_
    refine r_iconst (v := nI 1) dX1_setRoot_9 (by decide) ?_
    refine r_iload_n dX1_setRoot_10 rfl ?_
    refine r_ishl dX1_setRoot_11 ?_
    refine r_ior dX1_setRoot_12 ?_
    refine r_putfield (fs' := [_, _, _, _, _, _, _, _, _, _]) (h' := [_, _, _, _, _]) dX1_setRoot_13 pfX1_10 rfl (Nat.le_of_ble_eq_true rfl) (fun _ => rfl) rfl rfl rfl rfl ?_
    refine r_goto 33 dX1_setRoot_16 (by decide) ?_
    refine r_vret dX1_setRoot_33 rfl ?_ ?_
    · rfl
    · subst c1
      exact HE.rf
def pcO (t x : Int32) : Int32 := fmod (t - x) (nI 30)
theorem S_X1_paceOf {t r l b : Int32} {n : Nat} {K Hd St Nv : Nat → Int32} {fl x : Int32} : Sp 1 mX1_paceOf [.ref 0, .int x] (hRc t r l b n K Hd St Nv fl) (some (.int (pcO t x))) (hRc t r l b n K Hd St Nv fl) := by
  refine Sp.of [some (.ref 0), some (.int x)] mrX1_paceOf.1 rfl (Nat.le_of_ble_eq_true rfl) rfl (fun X => ?_)
  refine r_aload_n dX1_paceOf_0 rfl ?_
  refine r_getfield dX1_paceOf_1 gfX1_32 rfl rfl ?_
  refine r_iload_n dX1_paceOf_4 rfl ?_
  refine r_isub dX1_paceOf_5 ?_
  refine r_bipush (v := nI 30) dX1_paceOf_6 (by decide) ?_
  refine r_s2r (S_J9_floorMod_7cf53 (by decide)) (Nat.le_of_ble_eq_true rfl) mrJ9_floorMod_7cf53 lkX1_53 dX1_paceOf_8 (Nat.le_of_ble_eq_true rfl) ?_
  refine r_iret dX1_paceOf_11 rfl rfl ?_ ?_
  · rfl
  · exact HE.rf
/-- the set of the places below n at which f holds -/
def setOf (f : Nat → Bool) : Nat → Int32
  | 0 => nI 0
  | i + 1 => match f i with
    | true => setOf f i ||| (nI 1 <<< (nI i &&& 31))
    | false => setOf f i
theorem setOf_t {f : Nat → Bool} {i : Nat} (h : f i = true) : setOf f (i + 1) = setOf f i ||| (nI 1 <<< (nI i &&& 31)) := by rw [setOf, h]
theorem setOf_f {f : Nat → Bool} {i : Nat} (h : f i = false) : setOf f (i + 1) = setOf f i := by rw [setOf, h]
def atR (t r : Int32) (p : Nat) : Bool := isIn r (pcO t (nI p))
theorem S_X1_atRootSet {t r l b : Int32} {n : Nat} {K Hd St Nv : Nat → Int32} {fl : Int32} (hn : n ≤ 8) : Sp 2 mX1_atRootSet [.ref 0] (hRc t r l b n K Hd St Nv fl) (some (.int (setOf (atR t r) n))) (hRc t r l b n K Hd St Nv fl) := by
  refine Sp.of [some (.ref 0), none, none] mrX1_atRootSet.1 rfl (Nat.le_of_ble_eq_true rfl) rfl (fun X => ?_)
  have L : ∀ (k i : Nat), i + k = n → Run X 2 mX1_atRootSet 4 [some (.ref 0), some (.int (setOf (atR t r) i)), some (.int (nI i))] [] (hRc t r l b n K Hd St Nv fl) (some (.int (setOf (atR t r) n))) (hRc t r l b n K Hd St Nv fl) := by
    intro k
    induction k with
    | zero =>
      intro i hi
      obtain rfl : i = n := by omega
      refine r_iload_n dX1_atRootSet_4 rfl ?_
      refine r_aload_n dX1_atRootSet_5 rfl ?_
      refine r_getfield dX1_atRootSet_6 gfX1_38 rfl rfl ?_
      refine r_icmp_ge 39 dX1_atRootSet_9 (by decide) (fun c9 => ?_) (fun c9 => ?_)
      · refine r_iload_n dX1_atRootSet_39 rfl ?_
        refine r_iret dX1_atRootSet_40 rfl rfl ?_ ?_
        · rfl
        · exact HE.rf
      · exact absurd (nI_le (Nat.le_refl _) (by omega)) c9
    | succ k ih =>
      intro i hi
      refine r_iload_n dX1_atRootSet_4 rfl ?_
      refine r_aload_n dX1_atRootSet_5 rfl ?_
      refine r_getfield dX1_atRootSet_6 gfX1_38 rfl rfl ?_
      refine r_icmp_ge 39 dX1_atRootSet_9 (by decide) (fun c9 => ?_) (fun c9 => ?_)
      · exact absurd c9 (nI_ge (by omega) (by omega))
      · refine r_aload_n dX1_atRootSet_12 rfl ?_
        refine r_getfield dX1_atRootSet_13 gfX1_10 rfl rfl ?_
        refine r_aload_n dX1_atRootSet_16 rfl ?_
        refine r_iload_n dX1_atRootSet_17 rfl ?_
        refine r_v1r S_X1_paceOf (Nat.le_of_ble_eq_true rfl) mrX1_paceOf lkX1_63 rfl rfl rfl dX1_atRootSet_18 (Nat.le_of_ble_eq_true rfl) ?_
        refine r_s2r S_X4_isIn (Nat.le_of_ble_eq_true rfl) mrX4_isIn lkX1_66 dX1_atRootSet_21 (Nat.le_of_ble_eq_true rfl) ?_
        refine r_if_eqB 33 dX1_atRootSet_24 (by decide) (fun c24 => ?_) (fun c24 => ?_)
        · refine r_iinc (lv' := [_, _, _]) dX1_atRootSet_33 (by decide) rfl (by first | exact inc1 _ | exact inc1_ _) rfl ?_
          refine r_goto 4 dX1_atRootSet_36 (by decide) ?_
          have e := ih (i + 1) (by omega)
          first | (rw [setOf_t (f := atR t r) c24] at e; exact e) | (rw [setOf_f (f := atR t r) c24] at e; exact e)
        · refine r_iload_n dX1_atRootSet_27 rfl ?_
          refine r_iconst (v := nI 1) dX1_atRootSet_28 (by decide) ?_
          refine r_iload_n dX1_atRootSet_29 rfl ?_
          refine r_ishl dX1_atRootSet_30 ?_
          refine r_ior dX1_atRootSet_31 ?_
          refine r_istore_n (lv' := [_, _, _]) dX1_atRootSet_32 (by decide) rfl ?_
          refine r_iinc (lv' := [_, _, _]) dX1_atRootSet_33 (by decide) rfl (by first | exact inc1 _ | exact inc1_ _) rfl ?_
          refine r_goto 4 dX1_atRootSet_36 (by decide) ?_
          have e := ih (i + 1) (by omega)
          first | (rw [setOf_t (f := atR t r) c24] at e; exact e) | (rw [setOf_f (f := atR t r) c24] at e; exact e)
  refine r_iconst (v := nI 0) dX1_atRootSet_0 (by decide) ?_
  refine r_istore_n (lv' := [_, _, _]) dX1_atRootSet_1 (by decide) rfl ?_
  refine r_iconst (v := nI 0) dX1_atRootSet_2 (by decide) ?_
  refine r_istore_n (lv' := [_, _, _]) dX1_atRootSet_3 (by decide) rfl ?_
  exact L n 0 (by omega)

