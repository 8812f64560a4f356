/-! the Row: its state, and what its methods do -/
/-- step, roots, lantern, bright, count; kinds, heard, stumbled, nerves -/
abbrev RS : Type := (Int32 × Int32 × Int32 × Int32 × Nat) × (Nat → Int32) × (Nat → Int32) × (Nat → Int32) × (Nat → Int32)
abbrev hRc (t r l b : Int32) (n : Nat) (K Hd St Nv : Nat → Int32) (fl : Int32) : AH := [.inr (1, [.int t, .int r, .int l, .int b, .int (nI n), .ref 1, .ref 2, .ref 3, .ref 4, .int fl]), .inl (0, 8, .inl K), .inl (0, 8, .inl Hd), .inl (0, 8, .inl St), .inl (0, 8, .inl Nv)]
def hasB (n : Nat) (x : Int32) : Bool := decide (0 ≤ x) && decide (x < nI n)
theorem hasB_t {n : Nat} {x : Int32} (h1 : ¬ x < 0) (h2 : ¬ nI n ≤ x) : hasB n x = true := by simp [hasB, Int32.not_lt.mp h1, Int32.not_le.mp h2]
theorem hasB_f1 {n : Nat} {x : Int32} (h1 : x < 0) : hasB n x = false := by simp [hasB, Int32.not_le.mpr h1]
theorem hasB_f2 {n : Nat} {x : Int32} (h1 : nI n ≤ x) : hasB n x = false := by simp [hasB, Int32.not_lt.mpr h1]
theorem hasB_of {n : Nat} {x : Int32} (h : hasB n x = true) (hn : n < 2 ^ 31) : ∃ p, p < n ∧ x = nI p := by
  simp only [hasB, Bool.and_eq_true, decide_eq_true_eq] at h
  have h3 : ¬ x < 0 := Int32.not_lt.mpr h.1
  obtain ⟨j, hj, rfl⟩ := nI_of h3
  exact ⟨j, (nI_ltI hj hn).mp h.2, rfl⟩
theorem hasB_n {n p : Nat} (h : p < n) (hn : n < 2 ^ 31) : hasB n (nI p) = true := hasB_t (nI_pos (by omega)) (nI_ge h hn)
theorem S_X1_has {t r l b : Int32} {n : Nat} {K Hd St Nv : Nat → Int32} {fl x : Int32} : Sp 0 mX1_has [.ref 0, .int x] (hRc t r l b n K Hd St Nv fl) (some (.int (bI (hasB n x)))) (hRc t r l b n K Hd St Nv fl) := by
  refine Sp.of [some (.ref 0), some (.int x)] mrX1_has.1 rfl (Nat.le_of_ble_eq_true rfl) rfl (fun X => ?_)
  refine r_iload_n dX1_has_0 rfl ?_
  refine r_if_lt 16 dX1_has_1 (by decide) (fun c1 => ?_) (fun c1 => ?_)
  · refine r_iconst (v := nI 0) dX1_has_16 (by decide) ?_
    refine r_iret dX1_has_17 rfl (by first | exact bI_nar _ | rfl) ?_ ?_
    · first | exact ret_t (hasB_t c1 c9) | exact ret_f (hasB_f1 c1) | exact ret_f (hasB_f2 c9)
    · exact HE.rf
  · refine r_iload_n dX1_has_4 rfl ?_
    refine r_aload_n dX1_has_5 rfl ?_
    refine r_getfield dX1_has_6 gfX1_38 rfl rfl ?_
    refine r_icmp_ge 16 dX1_has_9 (by decide) (fun c9 => ?_) (fun c9 => ?_)
    · refine r_iconst (v := nI 0) dX1_has_16 (by decide) ?_
      refine r_iret dX1_has_17 rfl (by first | exact bI_nar _ | rfl) ?_ ?_
      · first | exact ret_t (hasB_t c1 c9) | exact ret_f (hasB_f1 c1) | exact ret_f (hasB_f2 c9)
      · exact HE.rf
    · refine r_iconst (v := nI 1) dX1_has_12 (by decide) ?_
      refine r_goto 17 dX1_has_13 (by decide) ?_
      refine r_iret dX1_has_17 rfl (by first | exact bI_nar _ | rfl) ?_ ?_
      · first | exact ret_t (hasB_t c1 c9) | exact ret_f (hasB_f1 c1) | exact ret_f (hasB_f2 c9)
      · exact HE.rf
theorem S_X1_isFull {t r l b : Int32} {n : Nat} {K Hd St Nv : Nat → Int32} {fl : Int32} : Sp 0 mX1_isFull [.ref 0] (hRc t r l b n K Hd St Nv fl) (some (.int (bI (decide (nI 8 ≤ nI n))))) (hRc t r l b n K Hd St Nv fl) := by
  refine Sp.of [some (.ref 0)] mrX1_isFull.1 rfl (Nat.le_of_ble_eq_true rfl) rfl (fun X => ?_)
  refine r_aload_n dX1_isFull_0 rfl ?_
  refine r_getfield dX1_isFull_1 gfX1_38 rfl rfl ?_
  refine r_bipush (v := nI 8) dX1_isFull_4 (by decide) ?_
  refine r_icmp_lt 13 dX1_isFull_6 (by decide) (fun c6 => ?_) (fun c6 => ?_)
  · refine r_iconst (v := nI 0) dX1_isFull_13 (by decide) ?_
    refine r_iret dX1_isFull_14 rfl (by first | exact bI_nar _ | rfl) ?_ ?_
    · first | exact ret_t (decide_eq_true (Int32.not_lt.mp c6)) | exact ret_f (decide_eq_false (Int32.not_le.mpr c6))
    · exact HE.rf
  · refine r_iconst (v := nI 1) dX1_isFull_9 (by decide) ?_
    refine r_goto 14 dX1_isFull_10 (by decide) ?_
    refine r_iret dX1_isFull_14 rfl (by first | exact bI_nar _ | rfl) ?_ ?_
    · first | exact ret_t (decide_eq_true (Int32.not_lt.mp c6)) | exact ret_f (decide_eq_false (Int32.not_le.mpr c6))
    · exact HE.rf
theorem S_X1_add {t r l b : Int32} {n : Nat} {K Hd St Nv : Nat → Int32} {fl k : Int32} (hn : n < 8) : Sp 1 mX1_add [.ref 0, .int k] (hRc t r l b n K Hd St Nv fl) none (hRc t r l b (n + 1) (upd K n k) (upd Hd n (nI 0)) (upd St n (nI 0)) (upd Nv n (nI 50)) fl) := by
  refine Sp.of [some (.ref 0), some (.int k)] mrX1_add.1 rfl (Nat.le_of_ble_eq_true rfl) rfl (fun X => ?_)
  refine r_aload_n dX1_add_0 rfl ?_
  refine r_v0r S_X1_isFull (Nat.le_of_ble_eq_true rfl) mrX1_isFull lkX1_41 rfl rfl rfl dX1_add_1 (Nat.le_of_ble_eq_true rfl) ?_
  refine r_if_eqB 8 dX1_add_4 (by decide) (fun c4 => ?_) (fun c4 => ?_)
  · refine r_aload_n dX1_add_8 rfl ?_
    refine r_getfield dX1_add_9 gfX1_19 rfl rfl ?_
    refine r_aload_n dX1_add_12 rfl ?_
    refine r_getfield dX1_add_13 gfX1_38 rfl rfl ?_
    refine r_iload_n dX1_add_16 rfl ?_
    refine r_iastN (h' := [_, _, _, _, _]) dX1_add_17 rfl (by first | decide | omega) (Nat.le_of_ble_eq_true rfl) rfl ?_
    refine r_aload_n dX1_add_18 rfl ?_
    refine r_getfield dX1_add_19 gfX1_23 rfl rfl ?_
    refine r_aload_n dX1_add_22 rfl ?_
    refine r_getfield dX1_add_23 gfX1_38 rfl rfl ?_
    refine r_iconst (v := nI 0) dX1_add_26 (by decide) ?_
    refine r_iastN (h' := [_, _, _, _, _]) dX1_add_27 rfl (by first | decide | omega) (Nat.le_of_ble_eq_true rfl) rfl ?_
    refine r_aload_n dX1_add_28 rfl ?_
    refine r_getfield dX1_add_29 gfX1_26 rfl rfl ?_
    refine r_aload_n dX1_add_32 rfl ?_
    refine r_getfield dX1_add_33 gfX1_38 rfl rfl ?_
    refine r_iconst (v := nI 0) dX1_add_36 (by decide) ?_
    refine r_iastN (h' := [_, _, _, _, _]) dX1_add_37 rfl (by first | decide | omega) (Nat.le_of_ble_eq_true rfl) rfl ?_
    refine r_aload_n dX1_add_38 rfl ?_
    refine r_getfield dX1_add_39 gfX1_29 rfl rfl ?_
    refine r_aload_n dX1_add_42 rfl ?_
    refine r_getfield dX1_add_43 gfX1_38 rfl rfl ?_
    refine r_bipush (v := nI 50) dX1_add_46 (by decide) ?_
    refine r_iastN (h' := [_, _, _, _, _]) dX1_add_48 rfl (by first | decide | omega) (Nat.le_of_ble_eq_true rfl) rfl ?_
    refine r_aload_n dX1_add_49 rfl ?_
    refine r_dup dX1_add_50 rfl ?_
    refine r_getfield dX1_add_51 gfX1_38 rfl rfl ?_
    refine r_iconst (v := nI 1) dX1_add_54 (by decide) ?_
    refine r_iadd dX1_add_55 ?_
    refine r_putfield (fs' := [_, _, _, _, _, _, _, _, _, _]) (h' := [_, _, _, _, _]) dX1_add_56 pfX1_38 rfl (Nat.le_of_ble_eq_true rfl) (fun _ => rfl) rfl rfl rfl rfl ?_
    refine r_vret dX1_add_59 rfl ?_ ?_
    · rfl
    · rw [nI_add]
      exact HE.rf
  · exact absurd (of_decide_eq_true c4) (nI_ge (by omega) (by omega))
def swp (f : Nat → Int32) (p o : Nat) : Nat → Int32 := upd (upd f p (f o)) o (f p)
theorem S_X1_exchangeIn {p o : Nat} {f : Nat → Int32} (hp : p < 8) (ho : o < 8) : Sp 0 mX1_exchangeIn [.ref 0, .int (nI p), .int (nI o)] [.inl (0, 8, .inl f)] none [.inl (0, 8, .inl (swp f p o))] := by
  refine Sp.of [some (.ref 0), some (.int (nI p)), some (.int (nI o)), none] mrX1_exchangeIn.1 rfl (Nat.le_of_ble_eq_true rfl) rfl (fun X => ?_)
  refine r_aload_n dX1_exchangeIn_0 rfl ?_
  refine r_iload_n dX1_exchangeIn_1 rfl ?_
  refine r_ialdN dX1_exchangeIn_2 rfl (by first | decide | omega) (Nat.le_of_ble_eq_true rfl) rfl ?_
  refine r_istore_n (lv' := [_, _, _, _]) dX1_exchangeIn_3 (by decide) rfl ?_
  refine r_aload_n dX1_exchangeIn_4 rfl ?_
  refine r_iload_n dX1_exchangeIn_5 rfl ?_
  refine r_aload_n dX1_exchangeIn_6 rfl ?_
  refine r_iload_n dX1_exchangeIn_7 rfl ?_
  refine r_ialdN dX1_exchangeIn_8 rfl (by first | decide | omega) (Nat.le_of_ble_eq_true rfl) rfl ?_
  refine r_iastN (h' := [_]) dX1_exchangeIn_9 rfl (by first | decide | omega) (Nat.le_of_ble_eq_true rfl) rfl ?_
  refine r_aload_n dX1_exchangeIn_10 rfl ?_
  refine r_iload_n dX1_exchangeIn_11 rfl ?_
  refine r_iload_n dX1_exchangeIn_12 rfl ?_
  refine r_iastN (h' := [_]) dX1_exchangeIn_13 rfl (by first | decide | omega) (Nat.le_of_ble_eq_true rfl) rfl ?_
  refine r_vret dX1_exchangeIn_14 rfl ?_ ?_
  · rfl
  · exact HE.rf
theorem hn31 {n : Nat} (h : n ≤ 8) : n < 2 ^ 31 := by omega
theorem S_X1_exchange {t r l b : Int32} {n p o : Nat} {K Hd St Nv : Nat → Int32} {fl : Int32} (hn : n ≤ 8) (hp : p < n) (ho : o < n) : Sp 1 mX1_exchange [.ref 0, .int (nI p), .int (nI o)] (hRc t r l b n K Hd St Nv fl) none (hRc t r l b n (swp K p o) (swp Hd p o) (swp St p o) (swp Nv p o) fl) := by
  refine Sp.of [some (.ref 0), some (.int (nI p)), some (.int (nI o))] mrX1_exchange.1 rfl (Nat.le_of_ble_eq_true rfl) rfl (fun X => ?_)
  refine r_aload_n dX1_exchange_0 rfl ?_
  refine r_iload_n dX1_exchange_1 rfl ?_
  refine r_v1r S_X1_has (Nat.le_of_ble_eq_true rfl) mrX1_has lkX1_45 rfl rfl rfl dX1_exchange_2 (Nat.le_of_ble_eq_true rfl) ?_
  refine r_if_eqB 16 dX1_exchange_5 (by decide) (fun c5 => ?_) (fun c5 => ?_)
  · exact absurd c5 (by rw [hasB_n hp (hn31 hn)]; decide)
  · refine r_aload_n dX1_exchange_8 rfl ?_
    refine r_iload_n dX1_exchange_9 rfl ?_
    refine r_v1r S_X1_has (Nat.le_of_ble_eq_true rfl) mrX1_has lkX1_45 rfl rfl rfl dX1_exchange_10 (Nat.le_of_ble_eq_true rfl) ?_
    refine r_if_neB 17 dX1_exchange_13 (by decide) (fun c13 => ?_) (fun c13 => ?_)
    · refine r_aload_n dX1_exchange_17 rfl ?_
      refine r_getfield dX1_exchange_18 gfX1_19 rfl rfl ?_
      refine r_iload_n dX1_exchange_21 rfl ?_
      refine r_iload_n dX1_exchange_22 rfl ?_
      refine r_s3n ((S_X1_exchangeIn (p := p) (o := o) (by omega) (by omega)).frame [1] rfl (by decide) rfl rfl rfl rfl) (Nat.le_of_ble_eq_true rfl) mrX1_exchangeIn lkX1_49 dX1_exchange_23 (Nat.le_of_ble_eq_true rfl) ?_
      refine r_aload_n dX1_exchange_26 rfl ?_
      refine r_getfield dX1_exchange_27 gfX1_23 rfl rfl ?_
      refine r_iload_n dX1_exchange_30 rfl ?_
      refine r_iload_n dX1_exchange_31 rfl ?_
      refine r_s3n ((S_X1_exchangeIn (p := p) (o := o) (by omega) (by omega)).frame [2] rfl (by decide) rfl rfl rfl rfl) (Nat.le_of_ble_eq_true rfl) mrX1_exchangeIn lkX1_49 dX1_exchange_32 (Nat.le_of_ble_eq_true rfl) ?_
      refine r_aload_n dX1_exchange_35 rfl ?_
      refine r_getfield dX1_exchange_36 gfX1_26 rfl rfl ?_
      refine r_iload_n dX1_exchange_39 rfl ?_
      refine r_iload_n dX1_exchange_40 rfl ?_
      refine r_s3n ((S_X1_exchangeIn (p := p) (o := o) (by omega) (by omega)).frame [3] rfl (by decide) rfl rfl rfl rfl) (Nat.le_of_ble_eq_true rfl) mrX1_exchangeIn lkX1_49 dX1_exchange_41 (Nat.le_of_ble_eq_true rfl) ?_
      refine r_aload_n dX1_exchange_44 rfl ?_
      refine r_getfield dX1_exchange_45 gfX1_29 rfl rfl ?_
      refine r_iload_n dX1_exchange_48 rfl ?_
      refine r_iload_n dX1_exchange_49 rfl ?_
      refine r_s3n ((S_X1_exchangeIn (p := p) (o := o) (by omega) (by omega)).frame [4] rfl (by decide) rfl rfl rfl rfl) (Nat.le_of_ble_eq_true rfl) mrX1_exchangeIn lkX1_49 dX1_exchange_50 (Nat.le_of_ble_eq_true rfl) ?_
      refine r_vret dX1_exchange_53 rfl ?_ ?_
      · rfl
      · exact HE.rf
    · exact absurd c13 (by rw [hasB_n ho (hn31 hn)]; decide)
def setR (r : Int32) (x : Int32) (there : Bool) : Int32 := match there with
  | true => r ||| (nI 1 <<< (x &&& 31))
  | false => r &&& ((nI 1 <<< (x &&& 31)) ^^^ (-1))
theorem S_X1_setRoot {t r l b : Int32} {n : Nat} {K Hd St Nv : Nat → Int32} {fl x : Int32} {there : Bool} : Sp 0 mX1_setRoot [.ref 0, .int x, .int (bI there)] (hRc t r l b n K Hd St Nv fl) none (hRc t (setR r x there) l b n K Hd St Nv fl) := by
  refine Sp.of [some (.ref 0), some (.int x), some (.int (bI there))] mrX1_setRoot.1 rfl (Nat.le_of_ble_eq_true rfl) rfl (fun X => ?_)
  refine r_iload_n dX1_setRoot_0 rfl ?_
  refine r_if_eqB 19 dX1_setRoot_1 (by decide) (fun c1 => ?_) (fun c1 => ?_)
  · refine r_aload_n dX1_setRoot_19 rfl ?_
    refine r_dup dX1_setRoot_20 rfl ?_
    refine r_getfield dX1_setRoot_21 gfX1_10 rfl rfl ?_
    refine r_iconst (v := nI 1) dX1_setRoot_24 (by decide) ?_
    refine r_iload_n dX1_setRoot_25 rfl ?_
    refine r_ishl dX1_setRoot_26 ?_
    refine r_iconst (v := (-1)) dX1_setRoot_27 (by decide) ?_
    refine r_ixor dX1_setRoot_28 ?_
    refine r_iand dX1_setRoot_29 ?_
    refine r_putfield (fs' := [_, _, _, _, _, _, _, _, _, _]) (h' := [_, _, _, _, _]) dX1_setRoot_30 pfX1_10 rfl (Nat.le_of_ble_eq_true rfl) (fun _ => rfl) rfl rfl rfl rfl ?_
    refine r_vret dX1_setRoot_33 rfl ?_ ?_
    · rfl
    · subst c1
      exact HE.rf
  · refine r_aload_n dX1_setRoot_4 rfl ?_
    refine r_dup dX1_setRoot_5 rfl ?_
    refine r_getfield dX1_setRoot_6 gfX1_10 rfl rfl ?_
    refine r_iconst (v := nI 1) dX1_setRoot_9 (by decide) ?_
    refine r_iload_n dX1_setRoot_10 rfl ?_
    refine r_ishl dX1_setRoot_11 ?_
    refine r_ior dX1_setRoot_12 ?_
    refine r_putfield (fs' := [_, _, _, _, _, _, _, _, _, _]) (h' := [_, _, _, _, _]) dX1_setRoot_13 pfX1_10 rfl (Nat.le_of_ble_eq_true rfl) (fun _ => rfl) rfl rfl rfl rfl ?_
    refine r_goto 33 dX1_setRoot_16 (by decide) ?_
    refine r_vret dX1_setRoot_33 rfl ?_ ?_
    · rfl
    · subst c1
      exact HE.rf
def pcO (t x : Int32) : Int32 := fmod (t - x) (nI 30)
theorem S_X1_paceOf {t r l b : Int32} {n : Nat} {K Hd St Nv : Nat → Int32} {fl x : Int32} : Sp 1 mX1_paceOf [.ref 0, .int x] (hRc t r l b n K Hd St Nv fl) (some (.int (pcO t x))) (hRc t r l b n K Hd St Nv fl) := by
  refine Sp.of [some (.ref 0), some (.int x)] mrX1_paceOf.1 rfl (Nat.le_of_ble_eq_true rfl) rfl (fun X => ?_)
  refine r_aload_n dX1_paceOf_0 rfl ?_
  refine r_getfield dX1_paceOf_1 gfX1_32 rfl rfl ?_
  refine r_iload_n dX1_paceOf_4 rfl ?_
  refine r_isub dX1_paceOf_5 ?_
  refine r_bipush (v := nI 30) dX1_paceOf_6 (by decide) ?_
  refine r_s2r (S_J9_floorMod_7cf53 (by decide)) (Nat.le_of_ble_eq_true rfl) mrJ9_floorMod_7cf53 lkX1_53 dX1_paceOf_8 (Nat.le_of_ble_eq_true rfl) ?_
  refine r_iret dX1_paceOf_11 rfl rfl ?_ ?_
  · rfl
  · exact HE.rf
/-- the set of the places below n at which f holds -/
def setOf (f : Nat → Bool) : Nat → Int32
  | 0 => nI 0
  | i + 1 => match f i with
    | true => setOf f i ||| (nI 1 <<< (nI i &&& 31))
    | false => setOf f i
theorem setOf_t {f : Nat → Bool} {i : Nat} (h : f i = true) : setOf f (i + 1) = setOf f i ||| (nI 1 <<< (nI i &&& 31)) := by rw [setOf, h]
theorem setOf_f {f : Nat → Bool} {i : Nat} (h : f i = false) : setOf f (i + 1) = setOf f i := by rw [setOf, h]
def atR (t r : Int32) (p : Nat) : Bool := isIn r (pcO t (nI p))
theorem S_X1_atRootSet {t r l b : Int32} {n : Nat} {K Hd St Nv : Nat → Int32} {fl : Int32} (hn : n ≤ 8) : Sp 2 mX1_atRootSet [.ref 0] (hRc t r l b n K Hd St Nv fl) (some (.int (setOf (atR t r) n))) (hRc t r l b n K Hd St Nv fl) := by
  refine Sp.of [some (.ref 0), none, none] mrX1_atRootSet.1 rfl (Nat.le_of_ble_eq_true rfl) rfl (fun X => ?_)
  have L : ∀ (k i : Nat), i + k = n → Run X 2 mX1_atRootSet 4 [some (.ref 0), some (.int (setOf (atR t r) i)), some (.int (nI i))] [] (hRc t r l b n K Hd St Nv fl) (some (.int (setOf (atR t r) n))) (hRc t r l b n K Hd St Nv fl) := by
    intro k
    induction k with
    | zero =>
      intro i hi
      obtain rfl : i = n := by omega
      refine r_iload_n dX1_atRootSet_4 rfl ?_
      refine r_aload_n dX1_atRootSet_5 rfl ?_
      refine r_getfield dX1_atRootSet_6 gfX1_38 rfl rfl ?_
      refine r_icmp_ge 39 dX1_atRootSet_9 (by decide) (fun c9 => ?_) (fun c9 => ?_)
      · refine r_iload_n dX1_atRootSet_39 rfl ?_
        refine r_iret dX1_atRootSet_40 rfl rfl ?_ ?_
        · rfl
        · exact HE.rf
      · exact absurd (nI_le (Nat.le_refl _) (by omega)) c9
    | succ k ih =>
      intro i hi
      refine r_iload_n dX1_atRootSet_4 rfl ?_
      refine r_aload_n dX1_atRootSet_5 rfl ?_
      refine r_getfield dX1_atRootSet_6 gfX1_38 rfl rfl ?_
      refine r_icmp_ge 39 dX1_atRootSet_9 (by decide) (fun c9 => ?_) (fun c9 => ?_)
      · exact absurd c9 (nI_ge (by omega) (by omega))
      · refine r_aload_n dX1_atRootSet_12 rfl ?_
        refine r_getfield dX1_atRootSet_13 gfX1_10 rfl rfl ?_
        refine r_aload_n dX1_atRootSet_16 rfl ?_
        refine r_iload_n dX1_atRootSet_17 rfl ?_
        refine r_v1r S_X1_paceOf (Nat.le_of_ble_eq_true rfl) mrX1_paceOf lkX1_63 rfl rfl rfl dX1_atRootSet_18 (Nat.le_of_ble_eq_true rfl) ?_
        refine r_s2r S_X4_isIn (Nat.le_of_ble_eq_true rfl) mrX4_isIn lkX1_66 dX1_atRootSet_21 (Nat.le_of_ble_eq_true rfl) ?_
        refine r_if_eqB 33 dX1_atRootSet_24 (by decide) (fun c24 => ?_) (fun c24 => ?_)
        · refine r_iinc (lv' := [_, _, _]) dX1_atRootSet_33 (by decide) rfl (by first | exact inc1 _ | exact inc1_ _) rfl ?_
          refine r_goto 4 dX1_atRootSet_36 (by decide) ?_
          have e := ih (i + 1) (by omega)
          first | (rw [setOf_t (f := atR t r) c24] at e; exact e) | (rw [setOf_f (f := atR t r) c24] at e; exact e)
        · refine r_iload_n dX1_atRootSet_27 rfl ?_
          refine r_iconst (v := nI 1) dX1_atRootSet_28 (by decide) ?_
          refine r_iload_n dX1_atRootSet_29 rfl ?_
          refine r_ishl dX1_atRootSet_30 ?_
          refine r_ior dX1_atRootSet_31 ?_
          refine r_istore_n (lv' := [_, _, _]) dX1_atRootSet_32 (by decide) rfl ?_
          refine r_iinc (lv' := [_, _, _]) dX1_atRootSet_33 (by decide) rfl (by first | exact inc1 _ | exact inc1_ _) rfl ?_
          refine r_goto 4 dX1_atRootSet_36 (by decide) ?_
          have e := ih (i + 1) (by omega)
          first | (rw [setOf_t (f := atR t r) c24] at e; exact e) | (rw [setOf_f (f := atR t r) c24] at e; exact e)
  refine r_iconst (v := nI 0) dX1_atRootSet_0 (by decide) ?_
  refine r_istore_n (lv' := [_, _, _]) dX1_atRootSet_1 (by decide) rfl ?_
  refine r_iconst (v := nI 0) dX1_atRootSet_2 (by decide) ?_
  refine r_istore_n (lv' := [_, _, _]) dX1_atRootSet_3 (by decide) rfl ?_
  exact L n 0 (by omega)
/-- the reach of the light j places behind the one behind the lantern's place a -/
def rck (b : Int32) (K : Nat → Int32) (a : Nat) : Nat → Int32
  | 0 => b
  | j + 1 => rck b K a j - shd (K (a + 1 + j))
def litF (b : Int32) (K : Nat → Int32) (a p : Nat) : Bool := if p ≤ a then decide (nI a - nI p ≤ b) else decide (nI p - nI a ≤ rck b K a (p - (a + 1)))
theorem litF_lo {b : Int32} {K : Nat → Int32} {a p : Nat} (h : p ≤ a) : litF b K a p = decide (nI a - nI p ≤ b) := by rw [litF, if_pos h]
theorem litF_hi {b : Int32} {K : Nat → Int32} {a j : Nat} : litF b K a (a + 1 + j) = decide (nI (a + 1 + j) - nI a ≤ rck b K a j) := by rw [litF, if_neg (by omega), show a + 1 + j - (a + 1) = j by omega]
/-- who is in LIGHT, by places -/
def lit (l b : Int32) (n : Nat) (K : Nat → Int32) (p : Nat) : Bool := hasB n l && litF b K l.toNatClampNeg p
def litS (l b : Int32) (n : Nat) (K : Nat → Int32) : Int32 := match hasB n l with
  | true => setOf (litF b K l.toNatClampNeg) n
  | false => nI 0
theorem S_X1_litSet {t r l b : Int32} {n : Nat} {K Hd St Nv : Nat → Int32} {fl : Int32} (hn : n ≤ 8) : Sp 1 mX1_litSet [.ref 0] (hRc t r l b n K Hd St Nv fl) (some (.int (litS l b n K))) (hRc t r l b n K Hd St Nv fl) := by
  refine Sp.of [some (.ref 0), none, none, none] mrX1_litSet.1 rfl (Nat.le_of_ble_eq_true rfl) rfl (fun X => ?_)
  by_cases hl : hasB n l = true
  · obtain ⟨a, ha, rfl⟩ := hasB_of hl (hn31 hn)
    have el : litS (nI a) b n K = setOf (litF b K a) n := by rw [litS, hl, nI_clamp (by omega)]
    rw [el]
    have L2 : ∀ (k j : Nat), a + 1 + j + k = n → Run X 1 mX1_litSet 62 [some (.ref 0), some (.int (setOf (litF b K a) (a + 1 + j))), some (.int (rck b K a j)), some (.int (nI (a + 1 + j)))] [] (hRc t r (nI a) b n K Hd St Nv fl) (some (.int (setOf (litF b K a) n))) (hRc t r (nI a) b n K Hd St Nv fl) := by
      intro k
      induction k with
      | zero =>
        intro j hj
        obtain rfl : a + 1 + j = n := by omega
        refine r_iload_n dX1_litSet_62 rfl ?_
        refine r_aload_n dX1_litSet_63 rfl ?_
        refine r_getfield dX1_litSet_64 gfX1_38 rfl rfl ?_
        refine r_icmp_ge 104 dX1_litSet_67 (by decide) (fun c67 => ?_) (fun c67 => ?_)
        · refine r_iload_n dX1_litSet_104 rfl ?_
          refine r_iret dX1_litSet_105 rfl rfl ?_ ?_
          · rfl
          · exact HE.rf
        · exact absurd (nI_le (Nat.le_refl _) (by omega)) c67
      | succ k ih =>
        intro j hj
        refine r_iload_n dX1_litSet_62 rfl ?_
        refine r_aload_n dX1_litSet_63 rfl ?_
        refine r_getfield dX1_litSet_64 gfX1_38 rfl rfl ?_
        refine r_icmp_ge 104 dX1_litSet_67 (by decide) (fun c67 => ?_) (fun c67 => ?_)
        · exact absurd c67 (nI_ge (by omega) (by omega))
        · refine r_iload_n dX1_litSet_70 rfl ?_
          refine r_aload_n dX1_litSet_71 rfl ?_
          refine r_getfield dX1_litSet_72 gfX1_35 rfl rfl ?_
          refine r_isub dX1_litSet_75 ?_
          refine r_iload_n dX1_litSet_76 rfl ?_
          refine r_icmp_gt 86 dX1_litSet_77 (by decide) (fun c77 => ?_) (fun c77 => ?_)
          · refine r_iload_n dX1_litSet_86 rfl ?_
            refine r_aload_n dX1_litSet_87 rfl ?_
            refine r_getfield dX1_litSet_88 gfX1_19 rfl rfl ?_
            refine r_iload_n dX1_litSet_91 rfl ?_
            refine r_ialdN dX1_litSet_92 rfl (by first | decide | omega) (Nat.le_of_ble_eq_true rfl) rfl ?_
            refine r_s1r S_X4_shadeOf (Nat.le_of_ble_eq_true rfl) mrX4_shadeOf lkX1_59 dX1_litSet_93 (Nat.le_of_ble_eq_true rfl) ?_
            refine r_isub dX1_litSet_96 ?_
            refine r_istore_n (lv' := [_, _, _, _]) dX1_litSet_97 (by decide) rfl ?_
            refine r_iinc (lv' := [_, _, _, _]) dX1_litSet_98 (by decide) rfl (by first | exact inc1 _ | exact inc1_ _) rfl ?_
            refine r_goto 62 dX1_litSet_101 (by decide) ?_
            have e := ih (j + 1) (by omega)
            rw [show a + 1 + (j + 1) = a + 1 + j + 1 by omega] at e
            first | (rw [setOf_t (f := litF b K a) (by rw [litF_hi]; exact decide_eq_true (Int32.not_lt.mp c77))] at e; exact e) | (rw [setOf_f (f := litF b K a) (by rw [litF_hi]; exact decide_eq_false (Int32.not_le.mpr c77))] at e; exact e)
          · refine r_iload_n dX1_litSet_80 rfl ?_
            refine r_iconst (v := nI 1) dX1_litSet_81 (by decide) ?_
            refine r_iload_n dX1_litSet_82 rfl ?_
            refine r_ishl dX1_litSet_83 ?_
            refine r_ior dX1_litSet_84 ?_
            refine r_istore_n (lv' := [_, _, _, _]) dX1_litSet_85 (by decide) rfl ?_
            refine r_iload_n dX1_litSet_86 rfl ?_
            refine r_aload_n dX1_litSet_87 rfl ?_
            refine r_getfield dX1_litSet_88 gfX1_19 rfl rfl ?_
            refine r_iload_n dX1_litSet_91 rfl ?_
            refine r_ialdN dX1_litSet_92 rfl (by first | decide | omega) (Nat.le_of_ble_eq_true rfl) rfl ?_
            refine r_s1r S_X4_shadeOf (Nat.le_of_ble_eq_true rfl) mrX4_shadeOf lkX1_59 dX1_litSet_93 (Nat.le_of_ble_eq_true rfl) ?_
            refine r_isub dX1_litSet_96 ?_
            refine r_istore_n (lv' := [_, _, _, _]) dX1_litSet_97 (by decide) rfl ?_
            refine r_iinc (lv' := [_, _, _, _]) dX1_litSet_98 (by decide) rfl (by first | exact inc1 _ | exact inc1_ _) rfl ?_
            refine r_goto 62 dX1_litSet_101 (by decide) ?_
            have e := ih (j + 1) (by omega)
            rw [show a + 1 + (j + 1) = a + 1 + j + 1 by omega] at e
            first | (rw [setOf_t (f := litF b K a) (by rw [litF_hi]; exact decide_eq_true (Int32.not_lt.mp c77))] at e; exact e) | (rw [setOf_f (f := litF b K a) (by rw [litF_hi]; exact decide_eq_false (Int32.not_le.mpr c77))] at e; exact e)
    have L1 : ∀ (k i : Nat), i + k = a + 1 → Run X 1 mX1_litSet 17 [some (.ref 0), some (.int (setOf (litF b K a) i)), some (.int (nI i)), none] [] (hRc t r (nI a) b n K Hd St Nv fl) (some (.int (setOf (litF b K a) n))) (hRc t r (nI a) b n K Hd St Nv fl) := by
      intro k
      induction k with
      | zero =>
        intro i hi
        obtain rfl : i = a + 1 := by omega
        refine r_iload_n dX1_litSet_17 rfl ?_
        refine r_aload_n dX1_litSet_18 rfl ?_
        refine r_getfield dX1_litSet_19 gfX1_35 rfl rfl ?_
        refine r_icmp_gt 50 dX1_litSet_22 (by decide) (fun c22 => ?_) (fun c22 => ?_)
        · refine r_aload_n dX1_litSet_50 rfl ?_
          refine r_getfield dX1_litSet_51 gfX1_16 rfl rfl ?_
          refine r_istore_n (lv' := [_, _, _, _]) dX1_litSet_54 (by decide) rfl ?_
          refine r_aload_n dX1_litSet_55 rfl ?_
          refine r_getfield dX1_litSet_56 gfX1_35 rfl rfl ?_
          refine r_iconst (v := nI 1) dX1_litSet_59 (by decide) ?_
          refine r_iadd dX1_litSet_60 ?_
          refine r_istore_n (lv' := [_, _, _, _]) dX1_litSet_61 (by decide) rfl ?_
          rw [nI_add]
          exact L2 (n - (a + 1)) 0 (by omega)
        · exact absurd (nI_lt (Nat.lt_succ_self a) (by omega)) c22
      | succ k ih =>
        intro i hi
        refine r_iload_n dX1_litSet_17 rfl ?_
        refine r_aload_n dX1_litSet_18 rfl ?_
        refine r_getfield dX1_litSet_19 gfX1_35 rfl rfl ?_
        refine r_icmp_gt 50 dX1_litSet_22 (by decide) (fun c22 => ?_) (fun c22 => ?_)
        · exact absurd c22 (nI_nlt (by omega) (by omega))
        · refine r_aload_n dX1_litSet_25 rfl ?_
          refine r_getfield dX1_litSet_26 gfX1_35 rfl rfl ?_
          refine r_iload_n dX1_litSet_29 rfl ?_
          refine r_isub dX1_litSet_30 ?_
          refine r_aload_n dX1_litSet_31 rfl ?_
          refine r_getfield dX1_litSet_32 gfX1_16 rfl rfl ?_
          refine r_icmp_gt 44 dX1_litSet_35 (by decide) (fun c35 => ?_) (fun c35 => ?_)
          · refine r_iinc (lv' := [_, _, _, _]) dX1_litSet_44 (by decide) rfl (by first | exact inc1 _ | exact inc1_ _) rfl ?_
            refine r_goto 17 dX1_litSet_47 (by decide) ?_
            have e := ih (i + 1) (by omega)
            first | (rw [setOf_t (f := litF b K a) (by rw [litF_lo (by omega)]; exact decide_eq_true (Int32.not_lt.mp c35))] at e; exact e) | (rw [setOf_f (f := litF b K a) (by rw [litF_lo (by omega)]; exact decide_eq_false (Int32.not_le.mpr c35))] at e; exact e)
          · refine r_iload_n dX1_litSet_38 rfl ?_
            refine r_iconst (v := nI 1) dX1_litSet_39 (by decide) ?_
            refine r_iload_n dX1_litSet_40 rfl ?_
            refine r_ishl dX1_litSet_41 ?_
            refine r_ior dX1_litSet_42 ?_
            refine r_istore_n (lv' := [_, _, _, _]) dX1_litSet_43 (by decide) rfl ?_
            refine r_iinc (lv' := [_, _, _, _]) dX1_litSet_44 (by decide) rfl (by first | exact inc1 _ | exact inc1_ _) rfl ?_
            refine r_goto 17 dX1_litSet_47 (by decide) ?_
            have e := ih (i + 1) (by omega)
            first | (rw [setOf_t (f := litF b K a) (by rw [litF_lo (by omega)]; exact decide_eq_true (Int32.not_lt.mp c35))] at e; exact e) | (rw [setOf_f (f := litF b K a) (by rw [litF_lo (by omega)]; exact decide_eq_false (Int32.not_le.mpr c35))] at e; exact e)
    refine r_aload_n dX1_litSet_0 rfl ?_
    refine r_aload_n dX1_litSet_1 rfl ?_
    refine r_getfield dX1_litSet_2 gfX1_35 rfl rfl ?_
    refine r_v1r S_X1_has (Nat.le_of_ble_eq_true rfl) mrX1_has lkX1_45 rfl rfl rfl dX1_litSet_5 (Nat.le_of_ble_eq_true rfl) ?_
    refine r_if_neB 13 dX1_litSet_8 (by decide) (fun c8 => ?_) (fun c8 => ?_)
    · refine r_iconst (v := nI 0) dX1_litSet_13 (by decide) ?_
      refine r_istore_n (lv' := [_, _, _, _]) dX1_litSet_14 (by decide) rfl ?_
      refine r_iconst (v := nI 0) dX1_litSet_15 (by decide) ?_
      refine r_istore_n (lv' := [_, _, _, _]) dX1_litSet_16 (by decide) rfl ?_
      exact L1 (a + 1) 0 (by omega)
    · exact absurd c8 (by rw [hl]; decide)
  · have hl2 : hasB n l = false := by simpa using hl
    refine r_aload_n dX1_litSet_0 rfl ?_
    refine r_aload_n dX1_litSet_1 rfl ?_
    refine r_getfield dX1_litSet_2 gfX1_35 rfl rfl ?_
    refine r_v1r S_X1_has (Nat.le_of_ble_eq_true rfl) mrX1_has lkX1_45 rfl rfl rfl dX1_litSet_5 (Nat.le_of_ble_eq_true rfl) ?_
    refine r_if_neB 13 dX1_litSet_8 (by decide) (fun c8 => ?_) (fun c8 => ?_)
    · exact absurd c8 hl
    · refine r_iconst (v := nI 0) dX1_litSet_11 (by decide) ?_
      refine r_iret dX1_litSet_12 rfl rfl ?_ ?_
      · rw [litS, c8]
      · exact HE.rf
def hrdS (Hd : Nat → Int32) : Nat → Int32
  | 0 => nI 0
  | i + 1 => hrdS Hd i ||| (Hd i <<< (nI i &&& 31))
theorem S_X1_heardSet {t r l b : Int32} {n : Nat} {K Hd St Nv : Nat → Int32} {fl : Int32} (hn : n ≤ 8) : Sp 0 mX1_heardSet [.ref 0] (hRc t r l b n K Hd St Nv fl) (some (.int (hrdS Hd n))) (hRc t r l b n K Hd St Nv fl) := by
  refine Sp.of [some (.ref 0), none, none] mrX1_heardSet.1 rfl (Nat.le_of_ble_eq_true rfl) rfl (fun X => ?_)
  have L : ∀ (k i : Nat), i + k = n → Run X 0 mX1_heardSet 4 [some (.ref 0), some (.int (hrdS Hd i)), some (.int (nI i))] [] (hRc t r l b n K Hd St Nv fl) (some (.int (hrdS Hd n))) (hRc t r l b n K Hd St Nv fl) := by
    intro k
    induction k with
    | zero =>
      intro i hi
      obtain rfl : i = n := by omega
      refine r_iload_n dX1_heardSet_4 rfl ?_
      refine r_aload_n dX1_heardSet_5 rfl ?_
      refine r_getfield dX1_heardSet_6 gfX1_38 rfl rfl ?_
      refine r_icmp_ge 29 dX1_heardSet_9 (by decide) (fun c9 => ?_) (fun c9 => ?_)
      · refine r_iload_n dX1_heardSet_29 rfl ?_
        refine r_iret dX1_heardSet_30 rfl rfl ?_ ?_
        · rfl
        · exact HE.rf
      · exact absurd (nI_le (Nat.le_refl _) (by omega)) c9
    | succ k ih =>
      intro i hi
      refine r_iload_n dX1_heardSet_4 rfl ?_
      refine r_aload_n dX1_heardSet_5 rfl ?_
      refine r_getfield dX1_heardSet_6 gfX1_38 rfl rfl ?_
      refine r_icmp_ge 29 dX1_heardSet_9 (by decide) (fun c9 => ?_) (fun c9 => ?_)
      · exact absurd c9 (nI_ge (by omega) (by omega))
      · refine r_iload_n dX1_heardSet_12 rfl ?_
        refine r_aload_n dX1_heardSet_13 rfl ?_
        refine r_getfield dX1_heardSet_14 gfX1_23 rfl rfl ?_
        refine r_iload_n dX1_heardSet_17 rfl ?_
        refine r_ialdN dX1_heardSet_18 rfl (by first | decide | omega) (Nat.le_of_ble_eq_true rfl) rfl ?_
        refine r_iload_n dX1_heardSet_19 rfl ?_
        refine r_ishl dX1_heardSet_20 ?_
        refine r_ior dX1_heardSet_21 ?_
        refine r_istore_n (lv' := [_, _, _]) dX1_heardSet_22 (by decide) rfl ?_
        refine r_iinc (lv' := [_, _, _]) dX1_heardSet_23 (by decide) rfl (by first | exact inc1 _ | exact inc1_ _) rfl ?_
        refine r_goto 4 dX1_heardSet_26 (by decide) ?_
        exact ih (i + 1) (by omega)
  refine r_iconst (v := nI 0) dX1_heardSet_0 (by decide) ?_
  refine r_istore_n (lv' := [_, _, _]) dX1_heardSet_1 (by decide) rfl ?_
  refine r_iconst (v := nI 0) dX1_heardSet_2 (by decide) ?_
  refine r_istore_n (lv' := [_, _, _]) dX1_heardSet_3 (by decide) rfl ?_
  exact L n 0 (by omega)
/-- the sum of f below n -/
def sumF (f : Nat → Int32) : Nat → Int32
  | 0 => nI 0
  | i + 1 => sumF f i + f i
theorem S_X1_allStumbled {t r l b : Int32} {n : Nat} {K Hd St Nv : Nat → Int32} {fl : Int32} (hn : n ≤ 8) : Sp 0 mX1_allStumbled [.ref 0] (hRc t r l b n K Hd St Nv fl) (some (.int (sumF St n))) (hRc t r l b n K Hd St Nv fl) := by
  refine Sp.of [some (.ref 0), none, none] mrX1_allStumbled.1 rfl (Nat.le_of_ble_eq_true rfl) rfl (fun X => ?_)
  have L : ∀ (k i : Nat), i + k = n → Run X 0 mX1_allStumbled 4 [some (.ref 0), some (.int (sumF St i)), some (.int (nI i))] [] (hRc t r l b n K Hd St Nv fl) (some (.int (sumF St n))) (hRc t r l b n K Hd St Nv fl) := by
    intro k
    induction k with
    | zero =>
      intro i hi
      obtain rfl : i = n := by omega
      refine r_iload_n dX1_allStumbled_4 rfl ?_
      refine r_aload_n dX1_allStumbled_5 rfl ?_
      refine r_getfield dX1_allStumbled_6 gfX1_38 rfl rfl ?_
      refine r_icmp_ge 27 dX1_allStumbled_9 (by decide) (fun c9 => ?_) (fun c9 => ?_)
      · refine r_iload_n dX1_allStumbled_27 rfl ?_
        refine r_iret dX1_allStumbled_28 rfl rfl ?_ ?_
        · rfl
        · exact HE.rf
      · exact absurd (nI_le (Nat.le_refl _) (by omega)) c9
    | succ k ih =>
      intro i hi
      refine r_iload_n dX1_allStumbled_4 rfl ?_
      refine r_aload_n dX1_allStumbled_5 rfl ?_
      refine r_getfield dX1_allStumbled_6 gfX1_38 rfl rfl ?_
      refine r_icmp_ge 27 dX1_allStumbled_9 (by decide) (fun c9 => ?_) (fun c9 => ?_)
      · exact absurd c9 (nI_ge (by omega) (by omega))
      · refine r_iload_n dX1_allStumbled_12 rfl ?_
        refine r_aload_n dX1_allStumbled_13 rfl ?_
        refine r_getfield dX1_allStumbled_14 gfX1_26 rfl rfl ?_
        refine r_iload_n dX1_allStumbled_17 rfl ?_
        refine r_ialdN dX1_allStumbled_18 rfl (by first | decide | omega) (Nat.le_of_ble_eq_true rfl) rfl ?_
        refine r_iadd dX1_allStumbled_19 ?_
        refine r_istore_n (lv' := [_, _, _]) dX1_allStumbled_20 (by decide) rfl ?_
        refine r_iinc (lv' := [_, _, _]) dX1_allStumbled_21 (by decide) rfl (by first | exact inc1 _ | exact inc1_ _) rfl ?_
        refine r_goto 4 dX1_allStumbled_24 (by decide) ?_
        exact ih (i + 1) (by omega)
  refine r_iconst (v := nI 0) dX1_allStumbled_0 (by decide) ?_
  refine r_istore_n (lv' := [_, _, _]) dX1_allStumbled_1 (by decide) rfl ?_
  refine r_iconst (v := nI 0) dX1_allStumbled_2 (by decide) ?_
  refine r_istore_n (lv' := [_, _, _]) dX1_allStumbled_3 (by decide) rfl ?_
  exact L n 0 (by omega)
theorem S_X1_allNerve {t r l b : Int32} {n : Nat} {K Hd St Nv : Nat → Int32} {fl : Int32} (hn : n ≤ 8) : Sp 0 mX1_allNerve [.ref 0] (hRc t r l b n K Hd St Nv fl) (some (.int (sumF Nv n))) (hRc t r l b n K Hd St Nv fl) := by
  refine Sp.of [some (.ref 0), none, none] mrX1_allNerve.1 rfl (Nat.le_of_ble_eq_true rfl) rfl (fun X => ?_)
  have L : ∀ (k i : Nat), i + k = n → Run X 0 mX1_allNerve 4 [some (.ref 0), some (.int (sumF Nv i)), some (.int (nI i))] [] (hRc t r l b n K Hd St Nv fl) (some (.int (sumF Nv n))) (hRc t r l b n K Hd St Nv fl) := by
    intro k
    induction k with
    | zero =>
      intro i hi
      obtain rfl : i = n := by omega
      refine r_iload_n dX1_allNerve_4 rfl ?_
      refine r_aload_n dX1_allNerve_5 rfl ?_
      refine r_getfield dX1_allNerve_6 gfX1_38 rfl rfl ?_
      refine r_icmp_ge 27 dX1_allNerve_9 (by decide) (fun c9 => ?_) (fun c9 => ?_)
      · refine r_iload_n dX1_allNerve_27 rfl ?_
        refine r_iret dX1_allNerve_28 rfl rfl ?_ ?_
        · rfl
        · exact HE.rf
      · exact absurd (nI_le (Nat.le_refl _) (by omega)) c9
    | succ k ih =>
      intro i hi
      refine r_iload_n dX1_allNerve_4 rfl ?_
      refine r_aload_n dX1_allNerve_5 rfl ?_
      refine r_getfield dX1_allNerve_6 gfX1_38 rfl rfl ?_
      refine r_icmp_ge 27 dX1_allNerve_9 (by decide) (fun c9 => ?_) (fun c9 => ?_)
      · exact absurd c9 (nI_ge (by omega) (by omega))
      · refine r_iload_n dX1_allNerve_12 rfl ?_
        refine r_aload_n dX1_allNerve_13 rfl ?_
        refine r_getfield dX1_allNerve_14 gfX1_29 rfl rfl ?_
        refine r_iload_n dX1_allNerve_17 rfl ?_
        refine r_ialdN dX1_allNerve_18 rfl (by first | decide | omega) (Nat.le_of_ble_eq_true rfl) rfl ?_
        refine r_iadd dX1_allNerve_19 ?_
        refine r_istore_n (lv' := [_, _, _]) dX1_allNerve_20 (by decide) rfl ?_
        refine r_iinc (lv' := [_, _, _]) dX1_allNerve_21 (by decide) rfl (by first | exact inc1 _ | exact inc1_ _) rfl ?_
        refine r_goto 4 dX1_allNerve_24 (by decide) ?_
        exact ih (i + 1) (by omega)
  refine r_iconst (v := nI 0) dX1_allNerve_0 (by decide) ?_
  refine r_istore_n (lv' := [_, _, _]) dX1_allNerve_1 (by decide) rfl ?_
  refine r_iconst (v := nI 0) dX1_allNerve_2 (by decide) ?_
  refine r_istore_n (lv' := [_, _, _]) dX1_allNerve_3 (by decide) rfl ?_
  exact L n 0 (by omega)
/-- whether one of a kind sees, x being its place, inL whether it is in LIGHT -/
def nearB (l x : Int32) : Bool := decide (¬ nI 2 < (if 0 ≤ x - l then x - l else -(x - l)))
def seesF (t l k x : Int32) (inL : Bool) : Bool := if k = nI 1 then inL && nearB l x else if k = nI 3 then true else if k = nI 4 then (inL && nearB l x) && decide (¬ l = x) else if k = nI 5 then inL && decide (¬ t - t / nI 3 * nI 3 = nI 2) else inL
theorem seesF_1 {t l x : Int32} {inL : Bool} : seesF t l (nI 1) x inL = (inL && nearB l x) := by rw [seesF, if_pos rfl]
theorem seesF_2 {t l x : Int32} {inL : Bool} : seesF t l (nI 2) x inL = inL := by rw [seesF, if_neg (by decide), if_neg (by decide), if_neg (by decide), if_neg (by decide)]
theorem seesF_3 {t l x : Int32} {inL : Bool} : seesF t l (nI 3) x inL = true := by rw [seesF, if_neg (by decide), if_pos rfl]
theorem seesF_4 {t l x : Int32} {inL : Bool} : seesF t l (nI 4) x inL = ((inL && nearB l x) && decide (¬ l = x)) := by rw [seesF, if_neg (by decide), if_neg (by decide), if_pos rfl]
theorem seesF_5 {t l x : Int32} {inL : Bool} : seesF t l (nI 5) x inL = (inL && decide (¬ t - t / nI 3 * nI 3 = nI 2)) := by rw [seesF, if_neg (by decide), if_neg (by decide), if_neg (by decide), if_pos rfl]
theorem S_X1_sees {t r l b : Int32} {n p : Nat} {K Hd St Nv : Nat → Int32} {fl : Int32} {inL : Bool} (hp : p < 8) : Sp 1 mX1_sees [.ref 0, .int (nI p), .int (bI inL)] (hRc t r l b n K Hd St Nv fl) (some (.int (bI (seesF t l (K p) (nI p) inL)))) (hRc t r l b n K Hd St Nv fl) := by
  refine Sp.of [some (.ref 0), some (.int (nI p)), some (.int (bI inL)), none] mrX1_sees.1 rfl (Nat.le_of_ble_eq_true rfl) rfl (fun X => ?_)
  have J : ∀ v : Int32, v = bI (inL && nearB l (nI p)) → Run X 1 mX1_sees 22 [some (.ref 0), some (.int (nI p)), some (.int (bI inL)), none] [.int v] (hRc t r l b n K Hd St Nv fl) (some (.int (bI (seesF t l (K p) (nI p) inL)))) (hRc t r l b n K Hd St Nv fl) := by
    intro v hv
    subst hv
    refine r_istore_n (lv' := [_, _, _, _]) dX1_sees_22 (by decide) rfl ?_
    refine r_aload_n dX1_sees_23 rfl ?_
    refine r_getfield dX1_sees_24 gfX1_19 rfl rfl ?_
    refine r_iload_n dX1_sees_27 rfl ?_
    refine r_ialdN dX1_sees_28 rfl (by first | decide | omega) (Nat.le_of_ble_eq_true rfl) rfl ?_
    refine r_tsw 106 dX1_sees_29 (by decide) (fun v29 h29 g29 e29 => ?_) (fun e29 => ?_)
    · rcases (show v29 = 1 ∨ v29 = 2 ∨ v29 = 3 ∨ v29 = 4 ∨ v29 = 5 by omega) with rfl | rfl | rfl | rfl | rfl
      · refine ⟨35, 64, by decide, by decide, ?_⟩
        have c29 := toI_eq 1 e29 (by decide)
        refine r_iload_n dX1_sees_64 rfl ?_
        refine r_iret dX1_sees_65 rfl (by first | exact bI_nar _ | rfl) ?_ ?_
        · rw [c29, seesF_1]
        · exact HE.rf
      · refine ⟨77, 106, by decide, by decide, ?_⟩
        have c29 := toI_eq 2 e29 (by decide)
        refine r_iload_n dX1_sees_106 rfl ?_
        refine r_iret dX1_sees_107 rfl (by first | exact bI_nar _ | rfl) ?_ ?_
        · first | (rw [c29, seesF_2]; done) | (rw [seesF, if_neg c29_1, if_neg c29_3, if_neg c29_4, if_neg c29_5])
        · exact HE.rf
      · refine ⟨37, 66, by decide, by decide, ?_⟩
        have c29 := toI_eq 3 e29 (by decide)
        refine r_iconst (v := nI 1) dX1_sees_66 (by decide) ?_
        refine r_iret dX1_sees_67 rfl (by first | exact bI_nar _ | rfl) ?_ ?_
        · exact ret_t (by rw [c29, seesF_3])
        · exact HE.rf
      · refine ⟨39, 68, by decide, by decide, ?_⟩
        have c29 := toI_eq 4 e29 (by decide)
        refine r_iload_n dX1_sees_68 rfl ?_
        refine r_if_eqB 84 dX1_sees_69 (by decide) (fun c69 => ?_) (fun c69 => ?_)
        · refine r_iconst (v := nI 0) dX1_sees_84 (by decide) ?_
          refine r_iret dX1_sees_85 rfl (by first | exact bI_nar _ | rfl) ?_ ?_
          · first | exact ret_t (by rw [c29, seesF_4, c69, decide_eq_true c77]; rfl) | exact ret_f (by rw [c29, seesF_4, c69]; rfl) | exact ret_f (by rw [c29, seesF_4, decide_eq_false (fun z => z c77), Bool.and_false])
          · exact HE.rf
        · refine r_aload_n dX1_sees_72 rfl ?_
          refine r_getfield dX1_sees_73 gfX1_35 rfl rfl ?_
          refine r_iload_n dX1_sees_76 rfl ?_
          refine r_icmp_eq 84 dX1_sees_77 (by decide) (fun c77 => ?_) (fun c77 => ?_)
          · refine r_iconst (v := nI 0) dX1_sees_84 (by decide) ?_
            refine r_iret dX1_sees_85 rfl (by first | exact bI_nar _ | rfl) ?_ ?_
            · first | exact ret_t (by rw [c29, seesF_4, c69, decide_eq_true c77]; rfl) | exact ret_f (by rw [c29, seesF_4, c69]; rfl) | exact ret_f (by rw [c29, seesF_4, decide_eq_false (fun z => z c77), Bool.and_false])
            · exact HE.rf
          · refine r_iconst (v := nI 1) dX1_sees_80 (by decide) ?_
            refine r_goto 85 dX1_sees_81 (by decide) ?_
            refine r_iret dX1_sees_85 rfl (by first | exact bI_nar _ | rfl) ?_ ?_
            · first | exact ret_t (by rw [c29, seesF_4, c69, decide_eq_true c77]; rfl) | exact ret_f (by rw [c29, seesF_4, c69]; rfl) | exact ret_f (by rw [c29, seesF_4, decide_eq_false (fun z => z c77), Bool.and_false])
            · exact HE.rf
      · refine ⟨57, 86, by decide, by decide, ?_⟩
        have c29 := toI_eq 5 e29 (by decide)
        refine r_iload_n dX1_sees_86 rfl ?_
        refine r_if_eqB 104 dX1_sees_87 (by decide) (fun c87 => ?_) (fun c87 => ?_)
        · refine r_iconst (v := nI 0) dX1_sees_104 (by decide) ?_
          refine r_iret dX1_sees_105 rfl (by first | exact bI_nar _ | rfl) ?_ ?_
          · first | exact ret_t (by rw [c29, seesF_5, c87, decide_eq_true c97]; rfl) | exact ret_f (by rw [c29, seesF_5, c87]; rfl) | exact ret_f (by rw [c29, seesF_5, decide_eq_false (fun z => z c97), Bool.and_false])
          · exact HE.rf
        · refine r_aload_n dX1_sees_90 rfl ?_
          refine r_getfield dX1_sees_91 gfX1_32 rfl rfl ?_
          refine r_iconst (v := nI 3) dX1_sees_94 (by decide) ?_
          refine r_irem dX1_sees_95 (by decide) ?_
          refine r_iconst (v := nI 2) dX1_sees_96 (by decide) ?_
          refine r_icmp_eq 104 dX1_sees_97 (by decide) (fun c97 => ?_) (fun c97 => ?_)
          · refine r_iconst (v := nI 0) dX1_sees_104 (by decide) ?_
            refine r_iret dX1_sees_105 rfl (by first | exact bI_nar _ | rfl) ?_ ?_
            · first | exact ret_t (by rw [c29, seesF_5, c87, decide_eq_true c97]; rfl) | exact ret_f (by rw [c29, seesF_5, c87]; rfl) | exact ret_f (by rw [c29, seesF_5, decide_eq_false (fun z => z c97), Bool.and_false])
            · exact HE.rf
          · refine r_iconst (v := nI 1) dX1_sees_100 (by decide) ?_
            refine r_goto 105 dX1_sees_101 (by decide) ?_
            refine r_iret dX1_sees_105 rfl (by first | exact bI_nar _ | rfl) ?_ ?_
            · first | exact ret_t (by rw [c29, seesF_5, c87, decide_eq_true c97]; rfl) | exact ret_f (by rw [c29, seesF_5, c87]; rfl) | exact ret_f (by rw [c29, seesF_5, decide_eq_false (fun z => z c97), Bool.and_false])
            · exact HE.rf
    · have c29_1 := toI_ne 1 e29 (by decide)
      have c29_2 := toI_ne 2 e29 (by decide)
      have c29_3 := toI_ne 3 e29 (by decide)
      have c29_4 := toI_ne 4 e29 (by decide)
      have c29_5 := toI_ne 5 e29 (by decide)
      refine r_iload_n dX1_sees_106 rfl ?_
      refine r_iret dX1_sees_107 rfl (by first | exact bI_nar _ | rfl) ?_ ?_
      · first | (rw [c29, seesF_2]; done) | (rw [seesF, if_neg c29_1, if_neg c29_3, if_neg c29_4, if_neg c29_5])
      · exact HE.rf
  refine r_iload_n dX1_sees_0 rfl ?_
  refine r_if_eqB 21 dX1_sees_1 (by decide) (fun c1 => ?_) (fun c1 => ?_)
  · refine r_iconst (v := nI 0) dX1_sees_21 (by decide) ?_
    first | exact J _ (by rw [c1]; rfl) | exact J _ (by rw [c1, Bool.true_and, nearB, decide_eq_true c14]; rfl) | exact J _ (by rw [c1, Bool.true_and, nearB, decide_eq_false (fun z => z c14)]; rfl)
  · refine r_iload_n dX1_sees_4 rfl ?_
    refine r_aload_n dX1_sees_5 rfl ?_
    refine r_getfield dX1_sees_6 gfX1_35 rfl rfl ?_
    refine r_isub dX1_sees_9 ?_
    refine r_s1r S_J9_abs_0f7a4 (Nat.le_of_ble_eq_true rfl) mrJ9_abs_0f7a4 lkX1_78 dX1_sees_10 (Nat.le_of_ble_eq_true rfl) ?_
    refine r_iconst (v := nI 2) dX1_sees_13 (by decide) ?_
    refine r_icmp_gt 21 dX1_sees_14 (by decide) (fun c14 => ?_) (fun c14 => ?_)
    · refine r_iconst (v := nI 0) dX1_sees_21 (by decide) ?_
      first | exact J _ (by rw [c1]; rfl) | exact J _ (by rw [c1, Bool.true_and, nearB, decide_eq_true c14]; rfl) | exact J _ (by rw [c1, Bool.true_and, nearB, decide_eq_false (fun z => z c14)]; rfl)
    · refine r_iconst (v := nI 1) dX1_sees_17 (by decide) ?_
      refine r_goto 22 dX1_sees_18 (by decide) ?_
      first | exact J _ (by rw [c1]; rfl) | exact J _ (by rw [c1, Bool.true_and, nearB, decide_eq_true c14]; rfl) | exact J _ (by rw [c1, Bool.true_and, nearB, decide_eq_false (fun z => z c14)]; rfl)
def heedF (k nv : Int32) : Bool := if k = nI 2 then true else if k = nI 5 then false else decide (nI 30 ≤ nv)
theorem S_X1_heeds {t r l b : Int32} {n p : Nat} {K Hd St Nv : Nat → Int32} {fl : Int32} (hp : p < 8) : Sp 0 mX1_heeds [.ref 0, .int (nI p)] (hRc t r l b n K Hd St Nv fl) (some (.int (bI (heedF (K p) (Nv p))))) (hRc t r l b n K Hd St Nv fl) := by
  refine Sp.of [some (.ref 0), some (.int (nI p))] mrX1_heeds.1 rfl (Nat.le_of_ble_eq_true rfl) rfl (fun X => ?_)
  refine r_aload_n dX1_heeds_0 rfl ?_
  refine r_getfield dX1_heeds_1 gfX1_19 rfl rfl ?_
  refine r_iload_n dX1_heeds_4 rfl ?_
  refine r_ialdN dX1_heeds_5 rfl (by first | decide | omega) (Nat.le_of_ble_eq_true rfl) rfl ?_
  by_cases c6_2 : K p = nI 2
  · refine r_lsw dX1_heeds_6 (by decide) ⟨26, 32, (by rw [c6_2]; decide), by decide, ?_⟩
    refine r_iconst (v := nI 1) dX1_heeds_32 (by decide) ?_
    refine r_iret dX1_heeds_33 rfl (by first | exact bI_nar _ | rfl) ?_ ?_
    · exact ret_t (by rw [heedF, if_pos c6_2])
    · exact HE.rf
  · by_cases c6_5 : K p = nI 5
    · refine r_lsw dX1_heeds_6 (by decide) ⟨28, 34, (by rw [c6_5]; decide), by decide, ?_⟩
      refine r_iconst (v := nI 0) dX1_heeds_34 (by decide) ?_
      refine r_iret dX1_heeds_35 rfl (by first | exact bI_nar _ | rfl) ?_ ?_
      · exact ret_f (by rw [heedF, if_neg c6_2, if_pos c6_5])
      · exact HE.rf
    · refine r_lsw dX1_heeds_6 (by decide) ⟨30, 36, lsw_d (by intro q hq; simp only [List.mem_cons, List.not_mem_nil, or_false] at hq; rcases hq with rfl | rfl <;> first | exact toI_nq c6_2 (by decide) | exact toI_nq c6_5 (by decide)), by decide, ?_⟩
      refine r_aload_n dX1_heeds_36 rfl ?_
      refine r_getfield dX1_heeds_37 gfX1_29 rfl rfl ?_
      refine r_iload_n dX1_heeds_40 rfl ?_
      refine r_ialdN dX1_heeds_41 rfl (by first | decide | omega) (Nat.le_of_ble_eq_true rfl) rfl ?_
      refine r_bipush (v := nI 30) dX1_heeds_42 (by decide) ?_
      refine r_icmp_lt 51 dX1_heeds_44 (by decide) (fun c44 => ?_) (fun c44 => ?_)
      · refine r_iconst (v := nI 0) dX1_heeds_51 (by decide) ?_
        refine r_iret dX1_heeds_52 rfl (by first | exact bI_nar _ | rfl) ?_ ?_
        · rw [heedF, if_neg c6_2, if_neg c6_5]
          first | exact ret_t (decide_eq_true (Int32.not_lt.mp c44)) | exact ret_f (decide_eq_false (Int32.not_le.mpr c44))
        · exact HE.rf
      · refine r_iconst (v := nI 1) dX1_heeds_47 (by decide) ?_
        refine r_goto 52 dX1_heeds_48 (by decide) ?_
        refine r_iret dX1_heeds_52 rfl (by first | exact bI_nar _ | rfl) ?_ ?_
        · rw [heedF, if_neg c6_2, if_neg c6_5]
          first | exact ret_t (decide_eq_true (Int32.not_lt.mp c44)) | exact ret_f (decide_eq_false (Int32.not_le.mpr c44))
        · exact HE.rf
def warnF (k hd nv : Int32) : Bool := decide (hd = nI 1) && heedF k nv
theorem S_X1_isWarned {t r l b : Int32} {n p : Nat} {K Hd St Nv : Nat → Int32} {fl : Int32} (hp : p < 8) : Sp 1 mX1_isWarned [.ref 0, .int (nI p)] (hRc t r l b n K Hd St Nv fl) (some (.int (bI (warnF (K p) (Hd p) (Nv p))))) (hRc t r l b n K Hd St Nv fl) := by
  refine Sp.of [some (.ref 0), some (.int (nI p))] mrX1_isWarned.1 rfl (Nat.le_of_ble_eq_true rfl) rfl (fun X => ?_)
  refine r_aload_n dX1_isWarned_0 rfl ?_
  refine r_getfield dX1_isWarned_1 gfX1_23 rfl rfl ?_
  refine r_iload_n dX1_isWarned_4 rfl ?_
  refine r_ialdN dX1_isWarned_5 rfl (by first | decide | omega) (Nat.le_of_ble_eq_true rfl) rfl ?_
  refine r_iconst (v := nI 1) dX1_isWarned_6 (by decide) ?_
  refine r_icmp_ne 22 dX1_isWarned_7 (by decide) (fun c7 => ?_) (fun c7 => ?_)
  · refine r_iconst (v := nI 0) dX1_isWarned_22 (by decide) ?_
    refine r_iret dX1_isWarned_23 rfl (by first | exact bI_nar _ | rfl) ?_ ?_
    · first | exact ret_t (by rw [warnF, decide_eq_true c7, c15]; rfl) | exact ret_f (by rw [warnF, decide_eq_false c7]; rfl) | exact ret_f (by rw [warnF, c15, Bool.and_false])
    · exact HE.rf
  · refine r_aload_n dX1_isWarned_10 rfl ?_
    refine r_iload_n dX1_isWarned_11 rfl ?_
    refine r_v1r (S_X1_heeds (by omega)) (Nat.le_of_ble_eq_true rfl) mrX1_heeds lkX1_84 rfl rfl rfl dX1_isWarned_12 (Nat.le_of_ble_eq_true rfl) ?_
    refine r_if_eqB 22 dX1_isWarned_15 (by decide) (fun c15 => ?_) (fun c15 => ?_)
    · refine r_iconst (v := nI 0) dX1_isWarned_22 (by decide) ?_
      refine r_iret dX1_isWarned_23 rfl (by first | exact bI_nar _ | rfl) ?_ ?_
      · first | exact ret_t (by rw [warnF, decide_eq_true c7, c15]; rfl) | exact ret_f (by rw [warnF, decide_eq_false c7]; rfl) | exact ret_f (by rw [warnF, c15, Bool.and_false])
      · exact HE.rf
    · refine r_iconst (v := nI 1) dX1_isWarned_18 (by decide) ?_
      refine r_goto 23 dX1_isWarned_19 (by decide) ?_
      refine r_iret dX1_isWarned_23 rfl (by first | exact bI_nar _ | rfl) ?_ ?_
      · first | exact ret_t (by rw [warnF, decide_eq_true c7, c15]; rfl) | exact ret_f (by rw [warnF, decide_eq_false c7]; rfl) | exact ret_f (by rw [warnF, c15, Bool.and_false])
      · exact HE.rf
/-- whether one says the word on: fell, seen: whether it fell, whether it sees a root at which it is -/
def saysF (k hd nv : Int32) (fell seen : Bool) : Bool := if k = nI 1 then (fell || seen) || decide (hd = nI 1) else if k = nI 2 then fell else if k = nI 4 then ((fell || seen) || decide (hd = nI 1)) && decide (nI 20 ≤ nv) else if k = nI 5 then false else fell || seen
theorem saysF_1 {hd nv : Int32} {fell seen : Bool} : saysF (nI 1) hd nv fell seen = ((fell || seen) || decide (hd = nI 1)) := by rw [saysF, if_pos rfl]
theorem saysF_2 {hd nv : Int32} {fell seen : Bool} : saysF (nI 2) hd nv fell seen = fell := by rw [saysF, if_neg (by decide), if_pos rfl]
theorem saysF_3 {hd nv : Int32} {fell seen : Bool} : saysF (nI 3) hd nv fell seen = (fell || seen) := by rw [saysF, if_neg (by decide), if_neg (by decide), if_neg (by decide), if_neg (by decide)]
theorem saysF_4 {hd nv : Int32} {fell seen : Bool} : saysF (nI 4) hd nv fell seen = (((fell || seen) || decide (hd = nI 1)) && decide (nI 20 ≤ nv)) := by rw [saysF, if_neg (by decide), if_neg (by decide), if_pos rfl]
theorem saysF_5 {hd nv : Int32} {fell seen : Bool} : saysF (nI 5) hd nv fell seen = false := by rw [saysF, if_neg (by decide), if_neg (by decide), if_neg (by decide), if_pos rfl]
theorem S_X1_says {t r l b : Int32} {n p : Nat} {K Hd St Nv : Nat → Int32} {fl sn : Int32} (hp : p < 8) : Sp 1 mX1_says [.ref 0, .int (nI p), .int sn] (hRc t r l b n K Hd St Nv fl) (some (.int (bI (saysF (K p) (Hd p) (Nv p) (isIn fl (nI p)) (isIn sn (nI p)))))) (hRc t r l b n K Hd St Nv fl) := by
  refine Sp.of [some (.ref 0), some (.int (nI p)), some (.int sn), none, none, none] mrX1_says.1 rfl (Nat.le_of_ble_eq_true rfl) rfl (fun X => ?_)
  have J2 : ∀ v : Int32, v = bI ((isIn fl (nI p) || isIn sn (nI p)) || decide (Hd p = nI 1)) → Run X 1 mX1_says 48 [some (.ref 0), some (.int (nI p)), some (.int sn), some (.int (bI (isIn fl (nI p)))), some (.int (bI (isIn fl (nI p) || isIn sn (nI p)))), none] [.int v] (hRc t r l b n K Hd St Nv fl) (some (.int (bI (saysF (K p) (Hd p) (Nv p) (isIn fl (nI p)) (isIn sn (nI p)))))) (hRc t r l b n K Hd St Nv fl) := by
    intro v hv
    subst hv
    refine r_istore (lv' := [_, _, _, _, _, _]) dX1_says_48 (by decide) rfl ?_
    refine r_aload_n dX1_says_50 rfl ?_
    refine r_getfield dX1_says_51 gfX1_19 rfl rfl ?_
    refine r_iload_n dX1_says_54 rfl ?_
    refine r_ialdN dX1_says_55 rfl (by first | decide | omega) (Nat.le_of_ble_eq_true rfl) rfl ?_
    refine r_tsw 121 dX1_says_56 (by decide) (fun v56 h56 g56 e56 => ?_) (fun e56 => ?_)
    · rcases (show v56 = 1 ∨ v56 = 2 ∨ v56 = 3 ∨ v56 = 4 ∨ v56 = 5 by omega) with rfl | rfl | rfl | rfl | rfl
      · refine ⟨36, 92, by decide, by decide, ?_⟩
        have c56 := toI_eq 1 e56 (by decide)
        refine r_iload dX1_says_92 rfl ?_
        refine r_iret dX1_says_94 rfl (by first | exact bI_nar _ | rfl) ?_ ?_
        · rw [c56, saysF_1]
        · exact HE.rf
      · refine ⟨39, 95, by decide, by decide, ?_⟩
        have c56 := toI_eq 2 e56 (by decide)
        refine r_iload_n dX1_says_95 rfl ?_
        refine r_iret dX1_says_96 rfl (by first | exact bI_nar _ | rfl) ?_ ?_
        · rw [c56, saysF_2]
        · exact HE.rf
      · refine ⟨65, 121, by decide, by decide, ?_⟩
        have c56 := toI_eq 3 e56 (by decide)
        refine r_iload dX1_says_121 rfl ?_
        refine r_iret dX1_says_123 rfl (by first | exact bI_nar _ | rfl) ?_ ?_
        · first | (rw [c56, saysF_3]; done) | (rw [saysF, if_neg c56_1, if_neg c56_2, if_neg c56_4, if_neg c56_5])
        · exact HE.rf
      · refine ⟨41, 97, by decide, by decide, ?_⟩
        have c56 := toI_eq 4 e56 (by decide)
        refine r_iload dX1_says_97 rfl ?_
        refine r_if_eqB 117 dX1_says_99 (by decide) (fun c99 => ?_) (fun c99 => ?_)
        · refine r_iconst (v := nI 0) dX1_says_117 (by decide) ?_
          refine r_iret dX1_says_118 rfl (by first | exact bI_nar _ | rfl) ?_ ?_
          · first | exact ret_t (by rw [c56, saysF_4, c99, decide_eq_true (Int32.not_lt.mp c110)]; rfl) | exact ret_f (by rw [c56, saysF_4, c99]; rfl) | exact ret_f (by rw [c56, saysF_4, decide_eq_false (Int32.not_le.mpr c110), Bool.and_false])
          · exact HE.rf
        · refine r_aload_n dX1_says_102 rfl ?_
          refine r_getfield dX1_says_103 gfX1_29 rfl rfl ?_
          refine r_iload_n dX1_says_106 rfl ?_
          refine r_ialdN dX1_says_107 rfl (by first | decide | omega) (Nat.le_of_ble_eq_true rfl) rfl ?_
          refine r_bipush (v := nI 20) dX1_says_108 (by decide) ?_
          refine r_icmp_lt 117 dX1_says_110 (by decide) (fun c110 => ?_) (fun c110 => ?_)
          · refine r_iconst (v := nI 0) dX1_says_117 (by decide) ?_
            refine r_iret dX1_says_118 rfl (by first | exact bI_nar _ | rfl) ?_ ?_
            · first | exact ret_t (by rw [c56, saysF_4, c99, decide_eq_true (Int32.not_lt.mp c110)]; rfl) | exact ret_f (by rw [c56, saysF_4, c99]; rfl) | exact ret_f (by rw [c56, saysF_4, decide_eq_false (Int32.not_le.mpr c110), Bool.and_false])
            · exact HE.rf
          · refine r_iconst (v := nI 1) dX1_says_113 (by decide) ?_
            refine r_goto 118 dX1_says_114 (by decide) ?_
            refine r_iret dX1_says_118 rfl (by first | exact bI_nar _ | rfl) ?_ ?_
            · first | exact ret_t (by rw [c56, saysF_4, c99, decide_eq_true (Int32.not_lt.mp c110)]; rfl) | exact ret_f (by rw [c56, saysF_4, c99]; rfl) | exact ret_f (by rw [c56, saysF_4, decide_eq_false (Int32.not_le.mpr c110), Bool.and_false])
            · exact HE.rf
      · refine ⟨63, 119, by decide, by decide, ?_⟩
        have c56 := toI_eq 5 e56 (by decide)
        refine r_iconst (v := nI 0) dX1_says_119 (by decide) ?_
        refine r_iret dX1_says_120 rfl (by first | exact bI_nar _ | rfl) ?_ ?_
        · exact ret_f (by rw [c56, saysF_5])
        · exact HE.rf
    · have c56_1 := toI_ne 1 e56 (by decide)
      have c56_2 := toI_ne 2 e56 (by decide)
      have c56_3 := toI_ne 3 e56 (by decide)
      have c56_4 := toI_ne 4 e56 (by decide)
      have c56_5 := toI_ne 5 e56 (by decide)
      refine r_iload dX1_says_121 rfl ?_
      refine r_iret dX1_says_123 rfl (by first | exact bI_nar _ | rfl) ?_ ?_
      · first | (rw [c56, saysF_3]; done) | (rw [saysF, if_neg c56_1, if_neg c56_2, if_neg c56_4, if_neg c56_5])
      · exact HE.rf
  have J1 : ∀ v : Int32, v = bI (isIn fl (nI p) || isIn sn (nI p)) → Run X 1 mX1_says 26 [some (.ref 0), some (.int (nI p)), some (.int sn), some (.int (bI (isIn fl (nI p)))), none, none] [.int v] (hRc t r l b n K Hd St Nv fl) (some (.int (bI (saysF (K p) (Hd p) (Nv p) (isIn fl (nI p)) (isIn sn (nI p)))))) (hRc t r l b n K Hd St Nv fl) := by
    intro v hv
    subst hv
    refine r_istore (lv' := [_, _, _, _, _, _]) dX1_says_26 (by decide) rfl ?_
    refine r_iload dX1_says_28 rfl ?_
    refine r_if_neB 43 dX1_says_30 (by decide) (fun c30 => ?_) (fun c30 => ?_)
    · refine r_iconst (v := nI 1) dX1_says_43 (by decide) ?_
      refine r_goto 48 dX1_says_44 (by decide) ?_
      first | exact J2 _ (by rw [c30]; rfl) | exact J2 _ (by rw [c30, decide_eq_true c40]; rfl) | exact J2 _ (by rw [c30, decide_eq_false c40]; rfl)
    · refine r_aload_n dX1_says_33 rfl ?_
      refine r_getfield dX1_says_34 gfX1_23 rfl rfl ?_
      refine r_iload_n dX1_says_37 rfl ?_
      refine r_ialdN dX1_says_38 rfl (by first | decide | omega) (Nat.le_of_ble_eq_true rfl) rfl ?_
      refine r_iconst (v := nI 1) dX1_says_39 (by decide) ?_
      refine r_icmp_ne 47 dX1_says_40 (by decide) (fun c40 => ?_) (fun c40 => ?_)
      · refine r_iconst (v := nI 0) dX1_says_47 (by decide) ?_
        first | exact J2 _ (by rw [c30]; rfl) | exact J2 _ (by rw [c30, decide_eq_true c40]; rfl) | exact J2 _ (by rw [c30, decide_eq_false c40]; rfl)
      · refine r_iconst (v := nI 1) dX1_says_43 (by decide) ?_
        refine r_goto 48 dX1_says_44 (by decide) ?_
        first | exact J2 _ (by rw [c30]; rfl) | exact J2 _ (by rw [c30, decide_eq_true c40]; rfl) | exact J2 _ (by rw [c30, decide_eq_false c40]; rfl)
  refine r_aload_n dX1_says_0 rfl ?_
  refine r_getfield dX1_says_1 gfX1_81 rfl rfl ?_
  refine r_iload_n dX1_says_4 rfl ?_
  refine r_s2r S_X4_isIn (Nat.le_of_ble_eq_true rfl) mrX4_isIn lkX1_66 dX1_says_5 (Nat.le_of_ble_eq_true rfl) ?_
  refine r_istore_n (lv' := [_, _, _, _, _, _]) dX1_says_8 (by decide) rfl ?_
  refine r_iload_n dX1_says_9 rfl ?_
  refine r_if_neB 21 dX1_says_10 (by decide) (fun c10 => ?_) (fun c10 => ?_)
  · refine r_iconst (v := nI 1) dX1_says_21 (by decide) ?_
    refine r_goto 26 dX1_says_22 (by decide) ?_
    first | exact J1 _ (by rw [c10]; rfl) | exact J1 _ (by rw [c10, c18]; rfl)
  · refine r_iload_n dX1_says_13 rfl ?_
    refine r_iload_n dX1_says_14 rfl ?_
    refine r_s2r S_X4_isIn (Nat.le_of_ble_eq_true rfl) mrX4_isIn lkX1_66 dX1_says_15 (Nat.le_of_ble_eq_true rfl) ?_
    refine r_if_eqB 25 dX1_says_18 (by decide) (fun c18 => ?_) (fun c18 => ?_)
    · refine r_iconst (v := nI 0) dX1_says_25 (by decide) ?_
      first | exact J1 _ (by rw [c10]; rfl) | exact J1 _ (by rw [c10, c18]; rfl)
    · refine r_iconst (v := nI 1) dX1_says_21 (by decide) ?_
      refine r_goto 26 dX1_says_22 (by decide) ?_
      first | exact J1 _ (by rw [c10]; rfl) | exact J1 _ (by rw [c10, c18]; rfl)
def seeG (t l b : Int32) (n : Nat) (K : Nat → Int32) (p : Nat) : Bool := seesF t l (K p) (nI p) (isIn (litS l b n K) (nI p))
theorem S_X1_seeingSet {t r l b : Int32} {n : Nat} {K Hd St Nv : Nat → Int32} {fl : Int32} (hn : n ≤ 8) : Sp 2 mX1_seeingSet [.ref 0] (hRc t r l b n K Hd St Nv fl) (some (.int (setOf (seeG t l b n K) n))) (hRc t r l b n K Hd St Nv fl) := by
  refine Sp.of [some (.ref 0), none, none, none] mrX1_seeingSet.1 rfl (Nat.le_of_ble_eq_true rfl) rfl (fun X => ?_)
  have L : ∀ (k i : Nat), i + k = n → Run X 2 mX1_seeingSet 9 [some (.ref 0), some (.int (litS l b n K)), some (.int (setOf (seeG t l b n K) i)), some (.int (nI i))] [] (hRc t r l b n K Hd St Nv fl) (some (.int (setOf (seeG t l b n K) n))) (hRc t r l b n K Hd St Nv fl) := by
    intro k
    induction k with
    | zero =>
      intro i hi
      obtain rfl : i = n := by omega
      refine r_iload_n dX1_seeingSet_9 rfl ?_
      refine r_aload_n dX1_seeingSet_10 rfl ?_
      refine r_getfield dX1_seeingSet_11 gfX1_38 rfl rfl ?_
      refine r_icmp_ge 42 dX1_seeingSet_14 (by decide) (fun c14 => ?_) (fun c14 => ?_)
      · refine r_iload_n dX1_seeingSet_42 rfl ?_
        refine r_iret dX1_seeingSet_43 rfl rfl ?_ ?_
        · rfl
        · exact HE.rf
      · exact absurd (nI_le (Nat.le_refl _) (by omega)) c14
    | succ k ih =>
      intro i hi
      refine r_iload_n dX1_seeingSet_9 rfl ?_
      refine r_aload_n dX1_seeingSet_10 rfl ?_
      refine r_getfield dX1_seeingSet_11 gfX1_38 rfl rfl ?_
      refine r_icmp_ge 42 dX1_seeingSet_14 (by decide) (fun c14 => ?_) (fun c14 => ?_)
      · exact absurd c14 (nI_ge (by omega) (by omega))
      · refine r_aload_n dX1_seeingSet_17 rfl ?_
        refine r_iload_n dX1_seeingSet_18 rfl ?_
        refine r_iload_n dX1_seeingSet_19 rfl ?_
        refine r_iload_n dX1_seeingSet_20 rfl ?_
        refine r_s2r S_X4_isIn (Nat.le_of_ble_eq_true rfl) mrX4_isIn lkX1_66 dX1_seeingSet_21 (Nat.le_of_ble_eq_true rfl) ?_
        refine r_v2r (S_X1_sees (by omega)) (Nat.le_of_ble_eq_true rfl) mrX1_sees lkX1_74 rfl rfl rfl dX1_seeingSet_24 (Nat.le_of_ble_eq_true rfl) ?_
        refine r_if_eqB 36 dX1_seeingSet_27 (by decide) (fun c27 => ?_) (fun c27 => ?_)
        · refine r_iinc (lv' := [_, _, _, _]) dX1_seeingSet_36 (by decide) rfl (by first | exact inc1 _ | exact inc1_ _) rfl ?_
          refine r_goto 9 dX1_seeingSet_39 (by decide) ?_
          have e := ih (i + 1) (by omega)
          first | (rw [setOf_t (f := seeG t l b n K) c27] at e; exact e) | (rw [setOf_f (f := seeG t l b n K) c27] at e; exact e)
        · refine r_iload_n dX1_seeingSet_30 rfl ?_
          refine r_iconst (v := nI 1) dX1_seeingSet_31 (by decide) ?_
          refine r_iload_n dX1_seeingSet_32 rfl ?_
          refine r_ishl dX1_seeingSet_33 ?_
          refine r_ior dX1_seeingSet_34 ?_
          refine r_istore_n (lv' := [_, _, _, _]) dX1_seeingSet_35 (by decide) rfl ?_
          refine r_iinc (lv' := [_, _, _, _]) dX1_seeingSet_36 (by decide) rfl (by first | exact inc1 _ | exact inc1_ _) rfl ?_
          refine r_goto 9 dX1_seeingSet_39 (by decide) ?_
          have e := ih (i + 1) (by omega)
          first | (rw [setOf_t (f := seeG t l b n K) c27] at e; exact e) | (rw [setOf_f (f := seeG t l b n K) c27] at e; exact e)
  refine r_aload_n dX1_seeingSet_0 rfl ?_
  refine r_v0r (S_X1_litSet hn) (Nat.le_of_ble_eq_true rfl) mrX1_litSet lkX1_70 rfl rfl rfl dX1_seeingSet_1 (Nat.le_of_ble_eq_true rfl) ?_
  refine r_istore_n (lv' := [_, _, _, _]) dX1_seeingSet_4 (by decide) rfl ?_
  refine r_iconst (v := nI 0) dX1_seeingSet_5 (by decide) ?_
  refine r_istore_n (lv' := [_, _, _, _]) dX1_seeingSet_6 (by decide) rfl ?_
  refine r_iconst (v := nI 0) dX1_seeingSet_7 (by decide) ?_
  refine r_istore_n (lv' := [_, _, _, _]) dX1_seeingSet_8 (by decide) rfl ?_
  exact L n 0 (by omega)

