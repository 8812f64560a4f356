/-! the reference: its tape and tokens -/
abbrev hP (s ks ot as : Nat → Int32) (fl : Int32) (kp : Bool) (tc : Nat → Int32) (g : GO) (T : Nat → Nat) : AH := hM s ks ot as fl kp tc g ++ [.inl (0, 120, .inl (fun i => nI (T i)))]
def atM (n : Nat) (T : Nat → Nat) (i : Nat) : Int32 := if i < n then nI (T i) else -1
theorem nI_L {b : Nat} (hb : b < 256) : inR (nI b) (nI 97) (nI 122) = isL b := by
  rw [inR, isL, decide_eq_decide.mpr (nI_leI (by decide) (by omega)), decide_eq_decide.mpr (nI_leI (by omega) (by decide))]
theorem nI_D {b : Nat} (hb : b < 256) : inR (nI b) (nI 48) (nI 57) = isD b := by
  rw [inR, isD, decide_eq_decide.mpr (nI_leI (by decide) (by omega)), decide_eq_decide.mpr (nI_leI (by omega) (by decide))]
theorem atM_D {n : Nat} {T : Nat → Nat} (hB : ∀ i, T i < 256) (i : Nat) : inR (atM n T i) (nI 48) (nI 57) = isNm n T i := by
  rw [atM, isNm]
  split
  · rename_i q; rw [nI_D (hB i), decide_eq_true q, Bool.true_and]
  · rename_i q; rw [decide_eq_false q, Bool.false_and]; decide
def isLt (n : Nat) (T : Nat → Nat) (i : Nat) : Bool := decide (i < n) && isL (T i)
theorem atM_L {n : Nat} {T : Nat → Nat} (hB : ∀ i, T i < 256) (i : Nat) : inR (atM n T i) (nI 97) (nI 122) = isLt n T i := by
  rw [atM, isLt]
  split
  · rename_i q; rw [nI_L (hB i), decide_eq_true q, Bool.true_and]
  · rename_i q; rw [decide_eq_false q, Bool.false_and]; decide
theorem atM_c {n : Nat} {T : Nat → Nat} (hB : ∀ i, T i < 256) (i : Nat) {c : Nat} (hc : c < 256) : atM n T i = nI c ↔ i < n ∧ T i = c := by
  rw [atM]
  split
  · rename_i q
    rw [nI_eq (by have := hB i; omega) (by omega)]
    exact ⟨fun z => ⟨q, z⟩, fun z => z.2⟩
  · rename_i q
    refine ⟨fun z => ?_, fun z => absurd z.1 q⟩
    have h1 := nI_pos' (n := c) (by omega)
    rw [← z] at h1
    exact absurd h1 (by decide)
theorem M_byteAt {s ks ot as : Nat → Int32} {fl : Int32} {kp : Bool} {tc : Nat → Int32} {n : Nat} {T : Nat → Nat} {fr to : Nat} {v : Int32} {w : Bool} {i : Nat} (hn : n ≤ 120) (hi : i < 2 ^ 31) : Sp 0 mX5_byteAt [.ref 0, .int (nI i)] (hP s ks ot as fl kp tc (nI n, nI fr, nI to, v, w) T) (some (.int (atM n T i))) (hP s ks ot as fl kp tc (nI n, nI fr, nI to, v, w) T) := by
  refine Sp.of [some (.ref 0), some (.int (nI i))] mrX5_byteAt.1 rfl (Nat.le_of_ble_eq_true rfl) rfl (fun X => ?_)
  refine r_iload_n dX5_byteAt_0 rfl ?_
  refine r_aload_n dX5_byteAt_1 rfl ?_
  refine r_getfield dX5_byteAt_2 gfX5_183 rfl rfl ?_
  refine r_icmp_ge 17 dX5_byteAt_5 (by decide) (fun c5 => ?_) (fun c5 => ?_)
  · refine r_iconst (v := (-1)) dX5_byteAt_17 (by decide) ?_
    refine r_iret dX5_byteAt_18 rfl rfl ?_ ?_
    · first | (rw [atM, if_pos ((nI_ltI hi (by omega)).mp (Int32.not_le.mp c5))]; done) | (rw [atM, if_neg (fun z => nI_ge z (by omega) c5)]; done)
    · exact HE.rf
  · refine r_aload_n dX5_byteAt_8 rfl ?_
    refine r_getfield dX5_byteAt_9 gfX5_25 rfl rfl ?_
    refine r_iload_n dX5_byteAt_12 rfl ?_
    refine r_ialdN dX5_byteAt_13 rfl (by have := (nI_ltI (by omega) (by omega)).mp (Int32.not_le.mp c5); omega) (Nat.le_of_ble_eq_true rfl) rfl ?_
    refine r_goto 18 dX5_byteAt_14 (by decide) ?_
    refine r_iret dX5_byteAt_18 rfl rfl ?_ ?_
    · first | (rw [atM, if_pos ((nI_ltI hi (by omega)).mp (Int32.not_le.mp c5))]; done) | (rw [atM, if_neg (fun z => nI_ge z (by omega) c5)]; done)
    · exact HE.rf
/-- where a token ends -/
def tE (n : Nat) (T : Nat → Nat) (f : Nat) : Nat := min (en n T f) n
theorem sk_sc {n : Nat} {T : Nat → Nat} {i : Nat} (h : i ≤ n) : sk n T i = scan isB T n i := Nat.min_eq_left (scan_le _ _ rfl h)
theorem sk_tE {n : Nat} {T : Nat → Nat} {f : Nat} (h : f ≤ n) : sk n T (tE n T f) = nxt n T f := by
  rw [nxt, tE]
  have h1 := en_le (T := T) h
  rcases Nat.lt_or_ge n (en n T f) with q | q
  · rw [Nat.min_eq_right (by omega), sk, sk, scan_n (Nat.le_refl n), scan_n (by omega)]
    omega
  · rw [Nat.min_eq_left q]
theorem tE_n {n : Nat} {T : Nat → Nat} : tE n T n = n := by rw [tE, en, if_pos (Nat.le_refl _)]; omega
theorem tE_le (n : Nat) (T : Nat → Nat) (f : Nat) : tE n T f ≤ n := Nat.min_le_right _ _
theorem tE_L {n : Nat} {T : Nat → Nat} {f : Nat} (h : isLt n T f = true) : tE n T f = scan isL T n (f + 1) ∧ wEn n T f = scan isL T n (f + 1) ∧ f < n := by
  simp only [isLt, Bool.and_eq_true, decide_eq_true_eq] at h
  have h2 := isL_lt h.2
  have hd : isD (T f) = false := by simp only [isD, Bool.and_eq_false_iff, decide_eq_false_iff_not]; omega
  have e : scan isL T n (f + 1) ≤ n := scan_le _ _ rfl (by omega)
  refine ⟨?_, scan_t h.1 h.2, h.1⟩
  rw [tE, en, if_neg (by omega), if_neg (by omega), hd, h.2]
  show min (wEn n T f) n = _
  rw [wEn, scan_t h.1 h.2]
  omega
theorem tE_D {n : Nat} {T : Nat → Nat} {f : Nat} (h : isNm n T f = true) : tE n T f = scan isD T n (f + 1) ∧ nEn n T f = scan isD T n (f + 1) ∧ f < n := by
  have h9 := en_nm h
  simp only [isNm, Bool.and_eq_true, decide_eq_true_eq] at h
  have e : scan isD T n (f + 1) ≤ n := scan_le _ _ rfl (by omega)
  refine ⟨?_, scan_t h.1 h.2, h.1⟩
  rw [tE, h9, nEn, scan_t h.1 h.2]
  omega
theorem tE_O {n : Nat} {T : Nat → Nat} {f : Nat} (hf : f < n) (h1 : isLt n T f = false) (h2 : isNm n T f = false) : tE n T f = f + 1 := by
  rw [isLt, decide_eq_true hf, Bool.true_and] at h1
  rw [isNm, decide_eq_true hf, Bool.true_and] at h2
  rw [tE, en, if_neg (by omega), h2, h1]
  split <;> (show min (f + 1) n = f + 1; omega)
theorem M_token {s ks ot as : Nat → Int32} {fl : Int32} {kp : Bool} {tc : Nat → Int32} {n : Nat} {T : Nat → Nat} {fr to : Nat} {v : Int32} {w : Bool} (hn : n ≤ 120) (hB : ∀ i, T i < 256) (ht : to ≤ n) : Sp 2 mX5_token [.ref 0] (hP s ks ot as fl kp tc (nI n, nI fr, nI to, v, w) T) none (hP s ks ot as fl kp tc (nI n, nI (sk n T to), nI (tE n T (sk n T to)), v, w) T) := by
  refine Sp.of [some (.ref 0), none, none] mrX5_token.1 rfl (Nat.le_of_ble_eq_true rfl) rfl (fun X => ?_)
  have hf := sk_le n T to
  have esk := sk_sc (T := T) ht
  have L2 : ∀ (a d : Bool), (a = true → isLt n T (sk n T to) = true ∧ d = false) → (d = true → isNm n T (sk n T to) = true) → (a = false → d = false → ∀ j, j = tE n T (sk n T to) → Run X 2 mX5_token 86 [some (.ref 0), some (.int (bI a)), some (.int (bI d))] [] (hP s ks ot as fl kp tc (nI n, nI (sk n T to), nI j, v, w) T) none (hP s ks ot as fl kp tc (nI n, nI (sk n T to), nI (tE n T (sk n T to)), v, w) T)) := by
    intro a d _ _ ha hd j hj
    subst hj
    subst ha
    subst hd
    refine r_iload_n dX5_token_86 rfl ?_
    refine r_if_eqB 104 dX5_token_87 (by decide) (fun c87 => ?_) (fun c87 => ?_)
    · refine r_iload_n dX5_token_104 rfl ?_
      refine r_if_eqB 135 dX5_token_105 (by decide) (fun c105 => ?_) (fun c105 => ?_)
      · refine r_vret dX5_token_135 rfl ?_ ?_
        · rfl
        · exact HE.rf
      · exact absurd c105 (by decide)
    · exact absurd c87 (by decide)
  have LL : isLt n T (sk n T to) = true → ∀ (k j : Nat), n - j = k → j ≤ n → scan isL T n j = tE n T (sk n T to) → Run X 2 mX5_token 86 [some (.ref 0), some (.int (bI true)), some (.int (bI false))] [] (hP s ks ot as fl kp tc (nI n, nI (sk n T to), nI j, v, w) T) none (hP s ks ot as fl kp tc (nI n, nI (sk n T to), nI (tE n T (sk n T to)), v, w) T) := by
    intro hl k
    induction k with
    | zero =>
      intro j hk hj e
      obtain rfl : j = n := by omega
      refine r_iload_n dX5_token_86 rfl ?_
      refine r_if_eqB 104 dX5_token_87 (by decide) (fun c87 => ?_) (fun c87 => ?_)
      · exact absurd c87 (by decide)
      · refine r_aload_n dX5_token_90 rfl ?_
        refine r_aload_n dX5_token_91 rfl ?_
        refine r_getfield dX5_token_92 gfX5_194 rfl rfl ?_
        refine r_v1r (M_byteAt hn (by omega)) (Nat.le_of_ble_eq_true rfl) mrX5_byteAt lkX5_200 rfl rfl rfl dX5_token_95 (Nat.le_of_ble_eq_true rfl) ?_
        refine r_s1r M_isLetter (Nat.le_of_ble_eq_true rfl) mrX5_isLetter lkX5_203 dX5_token_98 (Nat.le_of_ble_eq_true rfl) ?_
        rw [atM_L hB, isLt, decide_eq_false (Nat.lt_irrefl _), Bool.false_and]
        refine r_if_neB 122 dX5_token_101 (by decide) (fun c101 => ?_) (fun c101 => ?_)
        · exact absurd c101 (by decide)
        · refine r_iload_n dX5_token_104 rfl ?_
          refine r_if_eqB 135 dX5_token_105 (by decide) (fun c105 => ?_) (fun c105 => ?_)
          · refine r_vret dX5_token_135 rfl ?_ ?_
            · rfl
            · rw [← e, scan_n (Nat.le_refl _)]
              exact HE.rf
          · exact absurd c105 (by decide)
    | succ k ih =>
      intro j hk hj e
      refine r_iload_n dX5_token_86 rfl ?_
      refine r_if_eqB 104 dX5_token_87 (by decide) (fun c87 => ?_) (fun c87 => ?_)
      · exact absurd c87 (by decide)
      · refine r_aload_n dX5_token_90 rfl ?_
        refine r_aload_n dX5_token_91 rfl ?_
        refine r_getfield dX5_token_92 gfX5_194 rfl rfl ?_
        refine r_v1r (M_byteAt hn (by omega)) (Nat.le_of_ble_eq_true rfl) mrX5_byteAt lkX5_200 rfl rfl rfl dX5_token_95 (Nat.le_of_ble_eq_true rfl) ?_
        refine r_s1r M_isLetter (Nat.le_of_ble_eq_true rfl) mrX5_isLetter lkX5_203 dX5_token_98 (Nat.le_of_ble_eq_true rfl) ?_
        rw [atM_L hB, isLt, decide_eq_true (show j < n by omega), Bool.true_and]
        refine r_if_neB 122 dX5_token_101 (by decide) (fun c101 => ?_) (fun c101 => ?_)
        · refine r_aload_n dX5_token_122 rfl ?_
          refine r_dup dX5_token_123 rfl ?_
          refine r_getfield dX5_token_124 gfX5_194 rfl rfl ?_
          refine r_iconst (v := nI 1) dX5_token_127 (by decide) ?_
          refine r_iadd dX5_token_128 ?_
          rw [nI_add]
          refine r_putfield (fs' := [_, _, _, _, _, _, _, _, _, _, _, _, _, _, _, _, _]) (h' := [_, _, _, _, _, _, _]) dX5_token_129 pfX5_194 rfl (Nat.le_of_ble_eq_true rfl) (fun _ => rfl) rfl rfl rfl rfl ?_
          refine r_goto 86 dX5_token_132 (by decide) ?_
          exact ih (j + 1) (by omega) (by omega) (by rw [← e, scan_t (i := j) (by omega) c101])
        · refine r_iload_n dX5_token_104 rfl ?_
          refine r_if_eqB 135 dX5_token_105 (by decide) (fun c105 => ?_) (fun c105 => ?_)
          · refine r_vret dX5_token_135 rfl ?_ ?_
            · rfl
            · rw [← e, scan_f c101]
              exact HE.rf
          · exact absurd c105 (by decide)
  have LD : isNm n T (sk n T to) = true → ∀ (k j : Nat), n - j = k → j ≤ n → scan isD T n j = tE n T (sk n T to) → Run X 2 mX5_token 86 [some (.ref 0), some (.int (bI false)), some (.int (bI true))] [] (hP s ks ot as fl kp tc (nI n, nI (sk n T to), nI j, v, w) T) none (hP s ks ot as fl kp tc (nI n, nI (sk n T to), nI (tE n T (sk n T to)), v, w) T) := by
    intro hl k
    induction k with
    | zero =>
      intro j hk hj e
      obtain rfl : j = n := by omega
      refine r_iload_n dX5_token_86 rfl ?_
      refine r_if_eqB 104 dX5_token_87 (by decide) (fun c87 => ?_) (fun c87 => ?_)
      · refine r_iload_n dX5_token_104 rfl ?_
        refine r_if_eqB 135 dX5_token_105 (by decide) (fun c105 => ?_) (fun c105 => ?_)
        · exact absurd c105 (by decide)
        · refine r_aload_n dX5_token_108 rfl ?_
          refine r_aload_n dX5_token_109 rfl ?_
          refine r_getfield dX5_token_110 gfX5_194 rfl rfl ?_
          refine r_v1r (M_byteAt hn (by omega)) (Nat.le_of_ble_eq_true rfl) mrX5_byteAt lkX5_200 rfl rfl rfl dX5_token_113 (Nat.le_of_ble_eq_true rfl) ?_
          refine r_s1r M_isDigit (Nat.le_of_ble_eq_true rfl) mrX5_isDigit lkX5_206 dX5_token_116 (Nat.le_of_ble_eq_true rfl) ?_
          rw [atM_D hB, isNm, decide_eq_false (Nat.lt_irrefl _), Bool.false_and]
          refine r_if_eqB 135 dX5_token_119 (by decide) (fun c119 => ?_) (fun c119 => ?_)
          · refine r_vret dX5_token_135 rfl ?_ ?_
            · rfl
            · rw [← e, scan_n (Nat.le_refl _)]
              exact HE.rf
          · exact absurd c119 (by decide)
      · exact absurd c87 (by decide)
    | succ k ih =>
      intro j hk hj e
      refine r_iload_n dX5_token_86 rfl ?_
      refine r_if_eqB 104 dX5_token_87 (by decide) (fun c87 => ?_) (fun c87 => ?_)
      · refine r_iload_n dX5_token_104 rfl ?_
        refine r_if_eqB 135 dX5_token_105 (by decide) (fun c105 => ?_) (fun c105 => ?_)
        · exact absurd c105 (by decide)
        · refine r_aload_n dX5_token_108 rfl ?_
          refine r_aload_n dX5_token_109 rfl ?_
          refine r_getfield dX5_token_110 gfX5_194 rfl rfl ?_
          refine r_v1r (M_byteAt hn (by omega)) (Nat.le_of_ble_eq_true rfl) mrX5_byteAt lkX5_200 rfl rfl rfl dX5_token_113 (Nat.le_of_ble_eq_true rfl) ?_
          refine r_s1r M_isDigit (Nat.le_of_ble_eq_true rfl) mrX5_isDigit lkX5_206 dX5_token_116 (Nat.le_of_ble_eq_true rfl) ?_
          rw [atM_D hB, isNm, decide_eq_true (show j < n by omega), Bool.true_and]
          refine r_if_eqB 135 dX5_token_119 (by decide) (fun c119 => ?_) (fun c119 => ?_)
          · refine r_vret dX5_token_135 rfl ?_ ?_
            · rfl
            · rw [← e, scan_f c119]
              exact HE.rf
          · refine r_aload_n dX5_token_122 rfl ?_
            refine r_dup dX5_token_123 rfl ?_
            refine r_getfield dX5_token_124 gfX5_194 rfl rfl ?_
            refine r_iconst (v := nI 1) dX5_token_127 (by decide) ?_
            refine r_iadd dX5_token_128 ?_
            rw [nI_add]
            refine r_putfield (fs' := [_, _, _, _, _, _, _, _, _, _, _, _, _, _, _, _, _]) (h' := [_, _, _, _, _, _, _]) dX5_token_129 pfX5_194 rfl (Nat.le_of_ble_eq_true rfl) (fun _ => rfl) rfl rfl rfl rfl ?_
            refine r_goto 86 dX5_token_132 (by decide) ?_
            exact ih (j + 1) (by omega) (by omega) (by rw [← e, scan_t (i := j) (by omega) c119])
      · exact absurd c87 (by decide)
  have L1 : ∀ (k i : Nat), n - i = k → i ≤ n → scan isB T n i = sk n T to → Run X 2 mX5_token 8 [some (.ref 0), none, none] [] (hP s ks ot as fl kp tc (nI n, nI i, nI to, v, w) T) none (hP s ks ot as fl kp tc (nI n, nI (sk n T to), nI (tE n T (sk n T to)), v, w) T) := by
    have E : Run X 2 mX5_token 34 [some (.ref 0), none, none] [] (hP s ks ot as fl kp tc (nI n, nI (sk n T to), nI to, v, w) T) none (hP s ks ot as fl kp tc (nI n, nI (sk n T to), nI (tE n T (sk n T to)), v, w) T) := by
      refine r_aload_n dX5_token_34 rfl ?_
      refine r_aload_n dX5_token_35 rfl ?_
      refine r_getfield dX5_token_36 gfX5_197 rfl rfl ?_
      refine r_v1r (M_byteAt hn (by omega)) (Nat.le_of_ble_eq_true rfl) mrX5_byteAt lkX5_200 rfl rfl rfl dX5_token_39 (Nat.le_of_ble_eq_true rfl) ?_
      refine r_s1r M_isLetter (Nat.le_of_ble_eq_true rfl) mrX5_isLetter lkX5_203 dX5_token_42 (Nat.le_of_ble_eq_true rfl) ?_
      rw [atM_L hB]
      refine r_istore_n (lv' := [_, _, _]) dX5_token_45 (by decide) rfl ?_
      refine r_aload_n dX5_token_46 rfl ?_
      refine r_aload_n dX5_token_47 rfl ?_
      refine r_getfield dX5_token_48 gfX5_197 rfl rfl ?_
      refine r_v1r (M_byteAt hn (by omega)) (Nat.le_of_ble_eq_true rfl) mrX5_byteAt lkX5_200 rfl rfl rfl dX5_token_51 (Nat.le_of_ble_eq_true rfl) ?_
      refine r_s1r M_isDigit (Nat.le_of_ble_eq_true rfl) mrX5_isDigit lkX5_206 dX5_token_54 (Nat.le_of_ble_eq_true rfl) ?_
      rw [atM_D hB]
      refine r_istore_n (lv' := [_, _, _]) dX5_token_57 (by decide) rfl ?_
      refine r_aload_n dX5_token_58 rfl ?_
      refine r_aload_n dX5_token_59 rfl ?_
      refine r_getfield dX5_token_60 gfX5_197 rfl rfl ?_
      refine r_aload_n dX5_token_63 rfl ?_
      refine r_getfield dX5_token_64 gfX5_183 rfl rfl ?_
      refine r_icmp_ge 79 dX5_token_67 (by decide) (fun c67 => ?_) (fun c67 => ?_)
      · refine r_aload_n dX5_token_79 rfl ?_
        refine r_getfield dX5_token_80 gfX5_197 rfl rfl ?_
        refine r_putfield (fs' := [_, _, _, _, _, _, _, _, _, _, _, _, _, _, _, _, _]) (h' := [_, _, _, _, _, _, _]) dX5_token_83 pfX5_194 rfl (Nat.le_of_ble_eq_true rfl) (fun _ => rfl) rfl rfl rfl rfl ?_
        cases ha : isLt n T (sk n T to) with
        | true =>
          have e := tE_L ha
          have hd : isNm n T (sk n T to) = false := by (simp only [isLt, Bool.and_eq_true, decide_eq_true_eq] at ha; have := isL_lt ha.2; rw [isNm, isD, decide_eq_false (p := T (sk n T to) ≤ 57) (by omega), Bool.and_false, Bool.and_false])
          rw [hd]
          first
          | exact absurd (nI_lt e.2.2 (by omega)) (Int32.not_lt.mpr c67)
          | exact LL ha _ _ rfl (by omega) e.1.symm
        | false =>
          cases hd : isNm n T (sk n T to) with
          | true =>
            have e := tE_D hd
            first
            | exact absurd (nI_lt e.2.2 (by omega)) (Int32.not_lt.mpr c67)
            | exact LD hd _ _ rfl (by omega) e.1.symm
          | false =>
            first
            | exact L2 false false (fun z => by cases z) (fun z => by cases z) rfl rfl (sk n T to + 1) (tE_O ((nI_ltI (a := sk n T to) (b := n) (by omega) (by omega)).mp (Int32.not_le.mp c67)) ha hd).symm
            | exact L2 false false (fun z => by cases z) (fun z => by cases z) rfl rfl (sk n T to) (by have h9 := (nI_leI (a := n) (b := sk n T to) (by omega) (by omega)).mp c67; rw [show sk n T to = n by omega, tE_n])
      · refine r_aload_n dX5_token_70 rfl ?_
        refine r_getfield dX5_token_71 gfX5_197 rfl rfl ?_
        refine r_iconst (v := nI 1) dX5_token_74 (by decide) ?_
        refine r_iadd dX5_token_75 ?_
        rw [nI_add]
        refine r_goto 83 dX5_token_76 (by decide) ?_
        refine r_putfield (fs' := [_, _, _, _, _, _, _, _, _, _, _, _, _, _, _, _, _]) (h' := [_, _, _, _, _, _, _]) dX5_token_83 pfX5_194 rfl (Nat.le_of_ble_eq_true rfl) (fun _ => rfl) rfl rfl rfl rfl ?_
        cases ha : isLt n T (sk n T to) with
        | true =>
          have e := tE_L ha
          have hd : isNm n T (sk n T to) = false := by (simp only [isLt, Bool.and_eq_true, decide_eq_true_eq] at ha; have := isL_lt ha.2; rw [isNm, isD, decide_eq_false (p := T (sk n T to) ≤ 57) (by omega), Bool.and_false, Bool.and_false])
          rw [hd]
          first
          | exact absurd (nI_lt e.2.2 (by omega)) (Int32.not_lt.mpr c67)
          | exact LL ha _ _ rfl (by omega) e.1.symm
        | false =>
          cases hd : isNm n T (sk n T to) with
          | true =>
            have e := tE_D hd
            first
            | exact absurd (nI_lt e.2.2 (by omega)) (Int32.not_lt.mpr c67)
            | exact LD hd _ _ rfl (by omega) e.1.symm
          | false =>
            first
            | exact L2 false false (fun z => by cases z) (fun z => by cases z) rfl rfl (sk n T to + 1) (tE_O ((nI_ltI (a := sk n T to) (b := n) (by omega) (by omega)).mp (Int32.not_le.mp c67)) ha hd).symm
            | exact L2 false false (fun z => by cases z) (fun z => by cases z) rfl rfl (sk n T to) (by have h9 := (nI_leI (a := n) (b := sk n T to) (by omega) (by omega)).mp c67; rw [show sk n T to = n by omega, tE_n])
    intro k
    induction k with
    | zero =>
      intro i hk hi e
      obtain rfl : i = n := by omega
      refine r_aload_n dX5_token_8 rfl ?_
      refine r_aload_n dX5_token_9 rfl ?_
      refine r_getfield dX5_token_10 gfX5_197 rfl rfl ?_
      refine r_v1r (M_byteAt hn (by omega)) (Nat.le_of_ble_eq_true rfl) mrX5_byteAt lkX5_200 rfl rfl rfl dX5_token_13 (Nat.le_of_ble_eq_true rfl) ?_
      refine r_bipush (v := nI 32) dX5_token_16 (by decide) ?_
      refine r_icmp_ne 34 dX5_token_18 (by decide) (fun c18 => ?_) (fun c18 => ?_)
      · rw [scan_n (Nat.le_refl _)] at e
        rw [← e] at E ⊢
        exact E
      · exact absurd ((atM_c hB _ (by decide)).mp c18).1 (Nat.lt_irrefl _)
    | succ k ih =>
      intro i hk hi e
      refine r_aload_n dX5_token_8 rfl ?_
      refine r_aload_n dX5_token_9 rfl ?_
      refine r_getfield dX5_token_10 gfX5_197 rfl rfl ?_
      refine r_v1r (M_byteAt hn (by omega)) (Nat.le_of_ble_eq_true rfl) mrX5_byteAt lkX5_200 rfl rfl rfl dX5_token_13 (Nat.le_of_ble_eq_true rfl) ?_
      refine r_bipush (v := nI 32) dX5_token_16 (by decide) ?_
      refine r_icmp_ne 34 dX5_token_18 (by decide) (fun c18 => ?_) (fun c18 => ?_)
      · have e9 := scan_f (P := isB) (T := T) (n := n) (i := i) (by rw [isB]; exact decide_eq_false (fun z => c18 ((atM_c hB i (by decide)).mpr ⟨by omega, z⟩)))
        rw [e9] at e
        rw [← e] at E ⊢
        exact E
      · refine r_aload_n dX5_token_21 rfl ?_
        refine r_dup dX5_token_22 rfl ?_
        refine r_getfield dX5_token_23 gfX5_197 rfl rfl ?_
        refine r_iconst (v := nI 1) dX5_token_26 (by decide) ?_
        refine r_iadd dX5_token_27 ?_
        rw [nI_add]
        refine r_putfield (fs' := [_, _, _, _, _, _, _, _, _, _, _, _, _, _, _, _, _]) (h' := [_, _, _, _, _, _, _]) dX5_token_28 pfX5_197 rfl (Nat.le_of_ble_eq_true rfl) (fun _ => rfl) rfl rfl rfl rfl ?_
        refine r_goto 8 dX5_token_31 (by decide) ?_
        exact ih (i + 1) (by omega) (by omega) (by rw [← e, scan_t (i := i) (by omega) (by rw [isB]; exact decide_eq_true ((atM_c hB i (by decide)).mp c18).2)])
  refine r_aload_n dX5_token_0 rfl ?_
  refine r_aload_n dX5_token_1 rfl ?_
  refine r_getfield dX5_token_2 gfX5_194 rfl rfl ?_
  refine r_putfield (fs' := [_, _, _, _, _, _, _, _, _, _, _, _, _, _, _, _, _]) (h' := [_, _, _, _, _, _, _]) dX5_token_5 pfX5_197 rfl (Nat.le_of_ble_eq_true rfl) (fun _ => rfl) rfl rfl rfl rfl ?_
  exact L1 (n - to) to rfl ht esk.symm
theorem M_mustT {s ks ot as : Nat → Int32} {fl : Int32} {kp : Bool} {tc : Nat → Int32} {n : Nat} {T : Nat → Nat} {fr to : Nat} {v : Int32} (hn : n ≤ 120) (hB : ∀ i, T i < 256) (ht : to ≤ n) : Sp 3 mX5_must [.ref 0, .int (bI true)] (hP s ks ot as fl kp tc (nI n, nI fr, nI to, v, false) T) none (hP s ks ot as fl kp tc (nI n, nI (sk n T to), nI (tE n T (sk n T to)), v, false) T) := by
  refine Sp.of [some (.ref 0), some (.int (bI true))] mrX5_must.1 rfl (Nat.le_of_ble_eq_true rfl) rfl (fun X => ?_)
  refine r_aload_n dX5_must_0 rfl ?_
  refine r_aload_n dX5_must_1 rfl ?_
  refine r_getfield dX5_must_2 gfX5_209 rfl rfl ?_
  refine r_if_neB 12 dX5_must_5 (by decide) (fun c5 => ?_) (fun c5 => ?_)
  · exact Bool.noConfusion c5
  · refine r_iload_n dX5_must_8 rfl ?_
    refine r_if_neB 16 dX5_must_9 (by decide) (fun c9 => ?_) (fun c9 => ?_)
    · refine r_iconst (v := nI 0) dX5_must_16 (by decide) ?_
      rw [show nI 0 = bI false from rfl]
      refine r_putfield (fs' := [_, _, _, _, _, _, _, _, _, _, _, _, _, _, _, _, _]) (h' := [_, _, _, _, _, _, _]) dX5_must_17 pfX5_209 rfl (Nat.le_of_ble_eq_true rfl) (fun _ => rfl) (bI_nar false) (bI_fit false) rfl rfl ?_
      refine r_aload_n dX5_must_20 rfl ?_
      refine r_getfield dX5_must_21 gfX5_209 rfl rfl ?_
      refine r_if_neB 31 dX5_must_24 (by decide) (fun c24 => ?_) (fun c24 => ?_)
      · exact absurd c24 (by decide)
      · refine r_aload_n dX5_must_27 rfl ?_
        refine r_v0n (M_token hn hB ht) (Nat.le_of_ble_eq_true rfl) mrX5_token lkX5_213 rfl rfl rfl dX5_must_28 (Nat.le_of_ble_eq_true rfl) ?_
        refine r_vret dX5_must_31 rfl ?_ ?_
        · rfl
        · exact HE.rf
    · exact absurd c9 (by decide)
theorem M_mustF {s ks ot as : Nat → Int32} {fl : Int32} {kp : Bool} {tc : Nat → Int32} {g : GO} {T : Nat → Nat} : Sp 3 mX5_must [.ref 0, .int (bI false)] (hP s ks ot as fl kp tc g T) none (hP s ks ot as fl kp tc (g.1, g.2.1, g.2.2.1, g.2.2.2.1, true) T) := by
  refine Sp.of [some (.ref 0), some (.int (bI false))] mrX5_must.1 rfl (Nat.le_of_ble_eq_true rfl) rfl (fun X => ?_)
  refine r_aload_n dX5_must_0 rfl ?_
  refine r_aload_n dX5_must_1 rfl ?_
  refine r_getfield dX5_must_2 gfX5_209 rfl rfl ?_
  refine r_if_neB 12 dX5_must_5 (by decide) (fun c5 => ?_) (fun c5 => ?_)
  · refine r_iconst (v := nI 1) dX5_must_12 (by decide) ?_
    refine r_goto 17 dX5_must_13 (by decide) ?_
    rw [show nI 1 = bI true from rfl]
    refine r_putfield (fs' := [_, _, _, _, _, _, _, _, _, _, _, _, _, _, _, _, _]) (h' := [_, _, _, _, _, _, _]) dX5_must_17 pfX5_209 rfl (Nat.le_of_ble_eq_true rfl) (fun _ => rfl) (bI_nar true) (bI_fit true) rfl rfl ?_
    refine r_aload_n dX5_must_20 rfl ?_
    refine r_getfield dX5_must_21 gfX5_209 rfl rfl ?_
    refine r_if_neB 31 dX5_must_24 (by decide) (fun c24 => ?_) (fun c24 => ?_)
    · refine r_vret dX5_must_31 rfl ?_ ?_
      · rfl
      · exact HE.rf
    · exact absurd c24 (by decide)
  · refine r_iload_n dX5_must_8 rfl ?_
    refine r_if_neB 16 dX5_must_9 (by decide) (fun c9 => ?_) (fun c9 => ?_)
    · exact absurd c9 (by decide)
    · refine r_iconst (v := nI 1) dX5_must_12 (by decide) ?_
      refine r_goto 17 dX5_must_13 (by decide) ?_
      rw [show nI 1 = bI true from rfl]
      refine r_putfield (fs' := [_, _, _, _, _, _, _, _, _, _, _, _, _, _, _, _, _]) (h' := [_, _, _, _, _, _, _]) dX5_must_17 pfX5_209 rfl (Nat.le_of_ble_eq_true rfl) (fun _ => rfl) (bI_nar true) (bI_fit true) rfl rfl ?_
      refine r_aload_n dX5_must_20 rfl ?_
      refine r_getfield dX5_must_21 gfX5_209 rfl rfl ?_
      refine r_if_neB 31 dX5_must_24 (by decide) (fun c24 => ?_) (fun c24 => ?_)
      · refine r_vret dX5_must_31 rfl ?_ ?_
        · rfl
        · exact HE.rf
      · exact absurd c24 (by decide)
theorem M_mustW {s ks ot as : Nat → Int32} {fl : Int32} {kp : Bool} {tc : Nat → Int32} {a b c d : Int32} {T : Nat → Nat} {x : Bool} : Sp 3 mX5_must [.ref 0, .int (bI x)] (hP s ks ot as fl kp tc (a, b, c, d, true) T) none (hP s ks ot as fl kp tc (a, b, c, d, true) T) := by
  refine Sp.of [some (.ref 0), some (.int (bI x))] mrX5_must.1 rfl (Nat.le_of_ble_eq_true rfl) rfl (fun X => ?_)
  refine r_aload_n dX5_must_0 rfl ?_
  refine r_aload_n dX5_must_1 rfl ?_
  refine r_getfield dX5_must_2 gfX5_209 rfl rfl ?_
  refine r_if_neB 12 dX5_must_5 (by decide) (fun c5 => ?_) (fun c5 => ?_)
  · refine r_iconst (v := nI 1) dX5_must_12 (by decide) ?_
    refine r_goto 17 dX5_must_13 (by decide) ?_
    rw [show nI 1 = bI true from rfl]
    refine r_putfield (fs' := [_, _, _, _, _, _, _, _, _, _, _, _, _, _, _, _, _]) (h' := [_, _, _, _, _, _, _]) dX5_must_17 pfX5_209 rfl (Nat.le_of_ble_eq_true rfl) (fun _ => rfl) (bI_nar true) (bI_fit true) rfl rfl ?_
    refine r_aload_n dX5_must_20 rfl ?_
    refine r_getfield dX5_must_21 gfX5_209 rfl rfl ?_
    refine r_if_neB 31 dX5_must_24 (by decide) (fun c24 => ?_) (fun c24 => ?_)
    · refine r_vret dX5_must_31 rfl ?_ ?_
      · rfl
      · exact HE.rf
    · exact absurd c24 (by decide)
  · exact Bool.noConfusion c5

