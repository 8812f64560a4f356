/-! the reference: words and numbers -/
def wnum (T : Nat → Nat) (s : Nat) : Nat → Nat
  | 0 => 0
  | j + 1 => if 36028797018963967 < wnum T s j then wnum T s j else 32 * wnum T s j + (T (s + j) - 96)
theorem wnum_le {T : Nat → Nat} {s : Nat} (hB : ∀ i, T i < 256) : ∀ j, wnum T s j ≤ 1152921504606847200
  | 0 => by rw [wnum]; omega
  | j + 1 => by
    have ih := wnum_le (s := s) hB j
    have := hB (s + j)
    rw [wnum]
    split
    · exact ih
    · omega
def vl (D : Nat → Nat) : Nat → Nat
  | 0 => 0
  | k + 1 => 32 * vl D k + D k
theorem wnum_vl {T : Nat → Nat} {s : Nat} {D : Nat → Nat} : ∀ (k j : Nat), (∀ i, i < k → 1 ≤ D i ∧ D i ≤ 26) → (∀ i, i < j → 97 ≤ T (s + i) ∧ T (s + i) ≤ 122) → vl D k ≤ 36028797018963967 → (wnum T s j = vl D k ↔ j = k ∧ ∀ i, i < k → T (s + i) - 96 = D i)
  | 0, 0, _, _, _ => by simp [wnum, vl]
  | 0, j + 1, hD, hT, hv => by
    have h1 := hT j (by omega)
    constructor
    · intro e
      rw [wnum, vl] at e
      split at e <;> omega
    · intro e; omega
  | k + 1, 0, hD, hT, hv => by
    have h1 := hD k (by omega)
    constructor
    · intro e
      rw [wnum, vl] at e
      omega
    · intro e; omega
  | k + 1, j + 1, hD, hT, hv => by
    have h1 := hD k (by omega)
    have h2 := hT j (by omega)
    have hv' : 32 * vl D k + D k ≤ 36028797018963967 := hv
    have ih := wnum_vl (T := T) (s := s) (D := D) k j (fun i hi => hD i (by omega)) (fun i hi => hT i (by omega)) (by omega)
    constructor
    · intro e
      have e' : (if 36028797018963967 < wnum T s j then wnum T s j else 32 * wnum T s j + (T (s + j) - 96)) = 32 * vl D k + D k := e
      have hnl : ¬ 36028797018963967 < wnum T s j := by intro q; rw [if_pos q] at e'; omega
      rw [if_neg hnl] at e'
      obtain ⟨g1, g2⟩ := ih.mp (by omega)
      subst g1
      refine ⟨rfl, fun i hi => ?_⟩
      rcases Nat.lt_or_ge i j with q | q
      · exact g2 i q
      · obtain rfl : i = j := by omega
        omega
    · rintro ⟨g1, g2⟩
      obtain rfl : j = k := by omega
      have e := ih.mpr ⟨rfl, fun i hi => g2 i (by omega)⟩
      have g3 := g2 j (by omega)
      rw [wnum, if_neg (by omega), vl, e, g3]
/-- a word as a number -/
def wC (w : Nat) : Nat := vl (fun i => chN w i - 96) (txL.getD w 0)
theorem wC_le : ∀ w, w < 12 → wC w ≤ 36028797018963967 ∧ 0 < wC w := by decide +kernel
theorem wC_inj : ∀ w, w < 12 → ∀ u, u < 12 → wC w = wC u → w = u := by decide +kernel
theorem ch_D : ∀ w, w < 12 → ∀ i, i < txL.getD w 0 → 1 ≤ chN w i - 96 ∧ chN w i - 96 ≤ 26 ∧ 97 ≤ chN w i := by decide +kernel
theorem mtF_all {T : Nat → Nat} {s w : Nat} : ∀ j, (∀ i, i < j → T (s + i) = chN w i) → mtF T s w j = true
  | 0, _ => rfl
  | j + 1, h => by rw [mtF, mtF_all j (fun i hi => h i (by omega)), decide_eq_true (h j (by omega))]; rfl
theorem wnum_mt {T : Nat → Nat} {s e w : Nat} (hw : w < 12) (hT : ∀ i, i < e - s → 97 ≤ T (s + i) ∧ T (s + i) ≤ 122) : wnum T s (e - s) = wC w ↔ mt T s e w = true := by
  have h := wnum_vl (T := T) (s := s) (D := fun i => chN w i - 96) (txL.getD w 0) (e - s) (fun i hi => ⟨(ch_D w hw i hi).1, (ch_D w hw i hi).2.1⟩) hT (wC_le w hw).1
  refine h.trans ?_
  rw [mt, Bool.and_eq_true, decide_eq_true_eq]
  constructor
  · rintro ⟨h1, h2⟩
    refine ⟨h1.symm, mtF_all _ (fun i hi => ?_)⟩
    have := h2 i hi
    have := (ch_D w hw i hi).2.2
    have := hT i (by omega)
    omega
  · rintro ⟨h1, h2⟩
    refine ⟨h1.symm, fun i hi => ?_⟩
    rw [mtF_of h2 i hi]
theorem wdk_of {T : Nat → Nat} {s e : Nat} (hT : ∀ i, i < e - s → 97 ≤ T (s + i) ∧ T (s + i) ≤ 122) {w : Nat} (hw : w < 12) : ∀ k, k ≤ 12 → (wdk T s e k = w ↔ w < k ∧ mt T s e w = true)
  | 0, _ => by rw [wdk]; omega
  | k + 1, hk => by
    have ih := wdk_of hT hw k (by omega)
    rw [wdk]
    cases hm : mt T s e k with
    | true =>
      constructor
      · rintro rfl; exact ⟨by show k < k + 1; omega, hm⟩
      · rintro ⟨h1, h2⟩
        exact wC_inj k (by omega) w hw ((wnum_mt (by omega) hT).mpr hm ▸ (wnum_mt hw hT).mpr h2)
    | false =>
      show wdk T s e k = w ↔ _
      rw [ih]
      constructor
      · rintro ⟨h1, h2⟩; exact ⟨by omega, h2⟩
      · rintro ⟨h1, h2⟩
        refine ⟨?_, h2⟩
        rcases Nat.lt_or_ge w k with q | q
        · exact q
        · obtain rfl : w = k := by omega
          rw [h2] at hm; cases hm
theorem tk_w {n : Nat} {T : Nat → Nat} {f w : Nat} (hl : isLt n T f = true) (hw : w < 12) : wnum T f (tE n T f - f) = wC w ↔ tk n T f = w := by
  have e := tE_L hl
  have h9 := hl
  simp only [isLt, Bool.and_eq_true, decide_eq_true_eq] at h9
  have h2 := isL_lt h9.2
  have hd : isD (T f) = false := by simp only [isD, Bool.and_eq_false_iff, decide_eq_false_iff_not]; omega
  have eW : tE n T f = wEn n T f := by rw [e.1, e.2.1]
  have hT : ∀ i, i < wEn n T f - f → 97 ≤ T (f + i) ∧ T (f + i) ≤ 122 := fun i hi => isL_lt (scan_all (P := isL) (T := T) (n := n) _ f rfl (f + i) (by omega) (by show f + i < wEn n T f; omega))
  rw [eW, wnum_mt hw hT, tk, if_neg (by omega), if_neg (by omega), hd, h9.2]
  show _ ↔ wdk T f (wEn n T f) 12 = w
  rw [wdk_of hT hw 12 (by omega)]
  exact ⟨fun z => ⟨hw, z⟩, fun z => z.2⟩
theorem tk_notL {n : Nat} {T : Nat → Nat} {f : Nat} (hl : isLt n T f = false) : 12 ≤ tk n T f := by
  rw [tk]
  split
  · omega
  · rename_i q
    rw [isLt, decide_eq_true (by omega), Bool.true_and] at hl
    split
    · omega
    · split
      · omega
      · rw [hl]; show 12 ≤ 15; decide
theorem M_wordW {s ks ot as : Nat → Int32} {fl : Int32} {kp : Bool} {tc : Nat → Int32} {n : Nat} {T : Nat → Nat} {fr to : Nat} {v : Int32} (hn : n ≤ 120) (ht : to ≤ n) (hf : fr ≤ n) : Sp 2 mX5_word [.ref 0] (hP s ks ot as fl kp tc (nI n, nI fr, nI to, v, true) T) (some (.long 0)) (hP s ks ot as fl kp tc (nI n, nI fr, nI to, v, true) T) := by
  refine Sp.of [some (.ref 0), none, none, none] mrX5_word.1 rfl (Nat.le_of_ble_eq_true rfl) rfl (fun X => ?_)
  have L : ∀ (k i : Nat) (y : Int64), to - i = k → i ≤ 120 → Run X 2 mX5_word 7 [some (.ref 0), some (.long y), none, some (.int (nI i))] [] (hP s ks ot as fl kp tc (nI n, nI fr, nI to, v, true) T) (some (.long 0)) (hP s ks ot as fl kp tc (nI n, nI fr, nI to, v, true) T) := by
    intro k
    induction k with
    | zero =>
      intro i y hk hi
      refine r_iload_n dX5_word_7 rfl ?_
      refine r_aload_n dX5_word_8 rfl ?_
      refine r_getfield dX5_word_9 gfX5_194 rfl rfl ?_
      refine r_icmp_ge 50 dX5_word_12 (by decide) (fun c12 => ?_) (fun c12 => ?_)
      · refine r_aload_n dX5_word_50 rfl ?_
        refine r_getfield dX5_word_51 gfX5_209 rfl rfl ?_
        refine r_if_neB 71 dX5_word_54 (by decide) (fun c54 => ?_) (fun c54 => ?_)
        · refine r_lconst (v := 0) dX5_word_71 (by decide) ?_
          refine r_goto 76 dX5_word_72 (by decide) ?_
          refine r_lret dX5_word_76 rfl ?_ ?_
          · rfl
          · exact HE.rf
        · exact Bool.noConfusion c54
      · exact absurd (nI_le (by omega) (by omega)) c12
    | succ k ih =>
      intro i y hk hi
      refine r_iload_n dX5_word_7 rfl ?_
      refine r_aload_n dX5_word_8 rfl ?_
      refine r_getfield dX5_word_9 gfX5_194 rfl rfl ?_
      refine r_icmp_ge 50 dX5_word_12 (by decide) (fun c12 => ?_) (fun c12 => ?_)
      · exact absurd c12 (nI_ge (by omega) (by omega))
      · refine r_lload_n dX5_word_15 rfl ?_
        refine r_ldc2 kX5_216 dX5_word_16 ?_
        refine r_lcmp dX5_word_19 ?_
        refine r_if_le 27 dX5_word_20 (by decide) (fun c20 => ?_) (fun c20 => ?_)
        · refine r_ldc2 kX5_218 dX5_word_27 ?_
          refine r_lload_n dX5_word_30 rfl ?_
          refine r_lmul dX5_word_31 ?_
          refine r_aload_n dX5_word_32 rfl ?_
          refine r_getfield dX5_word_33 gfX5_25 rfl rfl ?_
          refine r_iload_n dX5_word_36 rfl ?_
          refine r_ialdN dX5_word_37 rfl (by omega) (Nat.le_of_ble_eq_true rfl) rfl ?_
          refine r_bipush (v := nI 96) dX5_word_38 (by decide) ?_
          refine r_isub dX5_word_40 ?_
          refine r_i2l dX5_word_41 ?_
          refine r_ladd dX5_word_42 ?_
          refine r_lstore_n (lv' := [_, _, _, _]) dX5_word_43 (by decide) rfl ?_
          refine r_iinc (lv' := [_, _, _, _]) dX5_word_44 (by decide) rfl (by first | exact inc1 _ | exact inc1_ _) rfl ?_
          refine r_goto 7 dX5_word_47 (by decide) ?_
          exact ih (i + 1) _ (by omega) (by omega)
        · refine r_lload_n dX5_word_23 rfl ?_
          refine r_goto 43 dX5_word_24 (by decide) ?_
          refine r_lstore_n (lv' := [_, _, _, _]) dX5_word_43 (by decide) rfl ?_
          refine r_iinc (lv' := [_, _, _, _]) dX5_word_44 (by decide) rfl (by first | exact inc1 _ | exact inc1_ _) rfl ?_
          refine r_goto 7 dX5_word_47 (by decide) ?_
          exact ih (i + 1) _ (by omega) (by omega)
  refine r_lconst (v := 0) dX5_word_0 (by decide) ?_
  refine r_lstore_n (lv' := [_, _, _, _]) dX5_word_1 (by decide) rfl ?_
  refine r_aload_n dX5_word_2 rfl ?_
  refine r_getfield dX5_word_3 gfX5_197 rfl rfl ?_
  refine r_istore_n (lv' := [_, _, _, _]) dX5_word_6 (by decide) rfl ?_
  exact L (to - fr) fr 0 rfl (by omega)
theorem M_wordN {s ks ot as : Nat → Int32} {fl : Int32} {kp : Bool} {tc : Nat → Int32} {n : Nat} {T : Nat → Nat} {fr to : Nat} {v : Int32} (hn : n ≤ 120) (hB : ∀ i, T i < 256) (ht : to ≤ n) (hf : fr ≤ n) (hl : isLt n T fr = false) : Sp 2 mX5_word [.ref 0] (hP s ks ot as fl kp tc (nI n, nI fr, nI to, v, false) T) (some (.long 0)) (hP s ks ot as fl kp tc (nI n, nI fr, nI to, v, false) T) := by
  refine Sp.of [some (.ref 0), none, none, none] mrX5_word.1 rfl (Nat.le_of_ble_eq_true rfl) rfl (fun X => ?_)
  have L : ∀ (k i : Nat) (y : Int64), to - i = k → i ≤ 120 → Run X 2 mX5_word 7 [some (.ref 0), some (.long y), none, some (.int (nI i))] [] (hP s ks ot as fl kp tc (nI n, nI fr, nI to, v, false) T) (some (.long 0)) (hP s ks ot as fl kp tc (nI n, nI fr, nI to, v, false) T) := by
    intro k
    induction k with
    | zero =>
      intro i y hk hi
      refine r_iload_n dX5_word_7 rfl ?_
      refine r_aload_n dX5_word_8 rfl ?_
      refine r_getfield dX5_word_9 gfX5_194 rfl rfl ?_
      refine r_icmp_ge 50 dX5_word_12 (by decide) (fun c12 => ?_) (fun c12 => ?_)
      · refine r_aload_n dX5_word_50 rfl ?_
        refine r_getfield dX5_word_51 gfX5_209 rfl rfl ?_
        refine r_if_neB 71 dX5_word_54 (by decide) (fun c54 => ?_) (fun c54 => ?_)
        · exact Bool.noConfusion c54
        · refine r_aload_n dX5_word_57 rfl ?_
          refine r_aload_n dX5_word_58 rfl ?_
          refine r_getfield dX5_word_59 gfX5_197 rfl rfl ?_
          refine r_v1r (M_byteAt hn (by omega)) (Nat.le_of_ble_eq_true rfl) mrX5_byteAt lkX5_200 rfl rfl rfl dX5_word_62 (Nat.le_of_ble_eq_true rfl) ?_
          refine r_s1r M_isLetter (Nat.le_of_ble_eq_true rfl) mrX5_isLetter lkX5_203 dX5_word_65 (Nat.le_of_ble_eq_true rfl) ?_
          rw [atM_L hB, hl]
          refine r_if_neB 75 dX5_word_68 (by decide) (fun c68 => ?_) (fun c68 => ?_)
          · exact absurd c68 (by decide)
          · refine r_lconst (v := 0) dX5_word_71 (by decide) ?_
            refine r_goto 76 dX5_word_72 (by decide) ?_
            refine r_lret dX5_word_76 rfl ?_ ?_
            · rfl
            · exact HE.rf
      · exact absurd (nI_le (by omega) (by omega)) c12
    | succ k ih =>
      intro i y hk hi
      refine r_iload_n dX5_word_7 rfl ?_
      refine r_aload_n dX5_word_8 rfl ?_
      refine r_getfield dX5_word_9 gfX5_194 rfl rfl ?_
      refine r_icmp_ge 50 dX5_word_12 (by decide) (fun c12 => ?_) (fun c12 => ?_)
      · exact absurd c12 (nI_ge (by omega) (by omega))
      · refine r_lload_n dX5_word_15 rfl ?_
        refine r_ldc2 kX5_216 dX5_word_16 ?_
        refine r_lcmp dX5_word_19 ?_
        refine r_if_le 27 dX5_word_20 (by decide) (fun c20 => ?_) (fun c20 => ?_)
        · refine r_ldc2 kX5_218 dX5_word_27 ?_
          refine r_lload_n dX5_word_30 rfl ?_
          refine r_lmul dX5_word_31 ?_
          refine r_aload_n dX5_word_32 rfl ?_
          refine r_getfield dX5_word_33 gfX5_25 rfl rfl ?_
          refine r_iload_n dX5_word_36 rfl ?_
          refine r_ialdN dX5_word_37 rfl (by omega) (Nat.le_of_ble_eq_true rfl) rfl ?_
          refine r_bipush (v := nI 96) dX5_word_38 (by decide) ?_
          refine r_isub dX5_word_40 ?_
          refine r_i2l dX5_word_41 ?_
          refine r_ladd dX5_word_42 ?_
          refine r_lstore_n (lv' := [_, _, _, _]) dX5_word_43 (by decide) rfl ?_
          refine r_iinc (lv' := [_, _, _, _]) dX5_word_44 (by decide) rfl (by first | exact inc1 _ | exact inc1_ _) rfl ?_
          refine r_goto 7 dX5_word_47 (by decide) ?_
          exact ih (i + 1) _ (by omega) (by omega)
        · refine r_lload_n dX5_word_23 rfl ?_
          refine r_goto 43 dX5_word_24 (by decide) ?_
          refine r_lstore_n (lv' := [_, _, _, _]) dX5_word_43 (by decide) rfl ?_
          refine r_iinc (lv' := [_, _, _, _]) dX5_word_44 (by decide) rfl (by first | exact inc1 _ | exact inc1_ _) rfl ?_
          refine r_goto 7 dX5_word_47 (by decide) ?_
          exact ih (i + 1) _ (by omega) (by omega)
  refine r_lconst (v := 0) dX5_word_0 (by decide) ?_
  refine r_lstore_n (lv' := [_, _, _, _]) dX5_word_1 (by decide) rfl ?_
  refine r_aload_n dX5_word_2 rfl ?_
  refine r_getfield dX5_word_3 gfX5_197 rfl rfl ?_
  refine r_istore_n (lv' := [_, _, _, _]) dX5_word_6 (by decide) rfl ?_
  exact L (to - fr) fr 0 rfl (by omega)
theorem M_wordL {s ks ot as : Nat → Int32} {fl : Int32} {kp : Bool} {tc : Nat → Int32} {n : Nat} {T : Nat → Nat} {fr to : Nat} {v : Int32} (hn : n ≤ 120) (hB : ∀ i, T i < 256) (ht : to = tE n T fr) (hl : isLt n T fr = true) : Sp 2 mX5_word [.ref 0] (hP s ks ot as fl kp tc (nI n, nI fr, nI to, v, false) T) (some (.long (lN (wnum T fr (to - fr))))) (hP s ks ot as fl kp tc (nI n, nI fr, nI to, v, false) T) := by
  refine Sp.of [some (.ref 0), none, none, none] mrX5_word.1 rfl (Nat.le_of_ble_eq_true rfl) rfl (fun X => ?_)
  have hto : to ≤ n := ht ▸ tE_le n T fr
  have e := tE_L hl
  have hge : fr ≤ to := by rw [ht, e.1]; have := scan_ge (P := isL) (T := T) (n := n) _ (fr + 1) rfl; omega
  have hT : ∀ i, fr ≤ i → i < to → 97 ≤ T i ∧ T i ≤ 122 := fun i h1 h2 => isL_lt (scan_all (P := isL) (T := T) (n := n) _ fr rfl i h1 (by rw [show scan isL T n fr = wEn n T fr from rfl, e.2.1, ← e.1, ← ht]; exact h2))
  have L : ∀ (k j : Nat), fr + j + k = to → Run X 2 mX5_word 7 [some (.ref 0), some (.long (lN (wnum T fr j))), none, some (.int (nI (fr + j)))] [] (hP s ks ot as fl kp tc (nI n, nI fr, nI to, v, false) T) (some (.long (lN (wnum T fr (to - fr))))) (hP s ks ot as fl kp tc (nI n, nI fr, nI to, v, false) T) := by
    intro k
    induction k with
    | zero =>
      intro j hk
      obtain rfl : to = fr + j := by omega
      refine r_iload_n dX5_word_7 rfl ?_
      refine r_aload_n dX5_word_8 rfl ?_
      refine r_getfield dX5_word_9 gfX5_194 rfl rfl ?_
      refine r_icmp_ge 50 dX5_word_12 (by decide) (fun c12 => ?_) (fun c12 => ?_)
      · refine r_aload_n dX5_word_50 rfl ?_
        refine r_getfield dX5_word_51 gfX5_209 rfl rfl ?_
        refine r_if_neB 71 dX5_word_54 (by decide) (fun c54 => ?_) (fun c54 => ?_)
        · exact Bool.noConfusion c54
        · refine r_aload_n dX5_word_57 rfl ?_
          refine r_aload_n dX5_word_58 rfl ?_
          refine r_getfield dX5_word_59 gfX5_197 rfl rfl ?_
          refine r_v1r (M_byteAt hn (by omega)) (Nat.le_of_ble_eq_true rfl) mrX5_byteAt lkX5_200 rfl rfl rfl dX5_word_62 (Nat.le_of_ble_eq_true rfl) ?_
          refine r_s1r M_isLetter (Nat.le_of_ble_eq_true rfl) mrX5_isLetter lkX5_203 dX5_word_65 (Nat.le_of_ble_eq_true rfl) ?_
          rw [atM_L hB, hl]
          refine r_if_neB 75 dX5_word_68 (by decide) (fun c68 => ?_) (fun c68 => ?_)
          · refine r_lload_n dX5_word_75 rfl ?_
            refine r_lret dX5_word_76 rfl ?_ ?_
            · rw [show fr + j - fr = j by omega]
            · exact HE.rf
          · exact absurd c68 (by decide)
      · exact absurd (nI_le (by omega) (by omega)) c12
    | succ k ih =>
      intro j hk
      refine r_iload_n dX5_word_7 rfl ?_
      refine r_aload_n dX5_word_8 rfl ?_
      refine r_getfield dX5_word_9 gfX5_194 rfl rfl ?_
      refine r_icmp_ge 50 dX5_word_12 (by decide) (fun c12 => ?_) (fun c12 => ?_)
      · exact absurd c12 (nI_ge (by omega) (by omega))
      · refine r_lload_n dX5_word_15 rfl ?_
        refine r_ldc2 kX5_216 dX5_word_16 ?_
        refine r_lcmp dX5_word_19 ?_
        refine r_if_le 27 dX5_word_20 (by decide) (fun c20 => ?_) (fun c20 => ?_)
        · refine r_ldc2 kX5_218 dX5_word_27 ?_
          refine r_lload_n dX5_word_30 rfl ?_
          refine r_lmul dX5_word_31 ?_
          refine r_aload_n dX5_word_32 rfl ?_
          refine r_getfield dX5_word_33 gfX5_25 rfl rfl ?_
          refine r_iload_n dX5_word_36 rfl ?_
          refine r_ialdN dX5_word_37 rfl (by omega) (Nat.le_of_ble_eq_true rfl) rfl ?_
          refine r_bipush (v := nI 96) dX5_word_38 (by decide) ?_
          refine r_isub dX5_word_40 ?_
          rw [pk_sub (by have := hT (fr + j) (by omega) (by omega); omega)]
          refine r_i2l dX5_word_41 ?_
          rw [nI_l (by have := hB (fr + j); omega)]
          refine r_ladd dX5_word_42 ?_
          refine r_lstore_n (lv' := [_, _, _, _]) dX5_word_43 (by decide) rfl ?_
          refine r_iinc (lv' := [_, _, _, _]) dX5_word_44 (by decide) rfl (by first | exact inc1 _ | exact inc1_ _) rfl ?_
          refine r_goto 7 dX5_word_47 (by decide) ?_
          have hw := wnum_le (s := fr) hB j
          have e := ih (j + 1) (by omega)
          first
          | (rw [wnum, if_pos (Nat.lt_of_not_le (fun z => c20 ((lg_cmp_le _ _).mpr ((pk_lLE (a := wnum T fr j) (b := 36028797018963967) (by omega) (by omega)).mpr z))))] at e; exact e)
          | (rw [wnum, if_neg (Nat.not_lt.mpr ((pk_lLE (a := wnum T fr j) (b := 36028797018963967) (by omega) (by omega)).mp ((lg_cmp_le _ _).mp c20))), ← lN_add, ← lN_mul] at e; exact e)
        · refine r_lload_n dX5_word_23 rfl ?_
          refine r_goto 43 dX5_word_24 (by decide) ?_
          refine r_lstore_n (lv' := [_, _, _, _]) dX5_word_43 (by decide) rfl ?_
          refine r_iinc (lv' := [_, _, _, _]) dX5_word_44 (by decide) rfl (by first | exact inc1 _ | exact inc1_ _) rfl ?_
          refine r_goto 7 dX5_word_47 (by decide) ?_
          have hw := wnum_le (s := fr) hB j
          have e := ih (j + 1) (by omega)
          first
          | (rw [wnum, if_pos (Nat.lt_of_not_le (fun z => c20 ((lg_cmp_le _ _).mpr ((pk_lLE (a := wnum T fr j) (b := 36028797018963967) (by omega) (by omega)).mpr z))))] at e; exact e)
          | (rw [wnum, if_neg (Nat.not_lt.mpr ((pk_lLE (a := wnum T fr j) (b := 36028797018963967) (by omega) (by omega)).mp ((lg_cmp_le _ _).mp c20))), ← lN_add, ← lN_mul] at e; exact e)
  refine r_lconst (v := 0) dX5_word_0 (by decide) ?_
  refine r_lstore_n (lv' := [_, _, _, _]) dX5_word_1 (by decide) rfl ?_
  refine r_aload_n dX5_word_2 rfl ?_
  refine r_getfield dX5_word_3 gfX5_197 rfl rfl ?_
  refine r_istore_n (lv' := [_, _, _, _]) dX5_word_6 (by decide) rfl ?_
  exact L (to - fr) 0 (by omega)
/-- what the word that stands here comes to -/
theorem M_word {s ks ot as : Nat → Int32} {fl : Int32} {kp : Bool} {tc : Nat → Int32} {n : Nat} {T : Nat → Nat} {fr to : Nat} {v : Int32} (hn : n ≤ 120) (hB : ∀ i, T i < 256) (ht : to = tE n T fr) (hf : fr ≤ n) : ∃ W : Int64, Sp 2 mX5_word [.ref 0] (hP s ks ot as fl kp tc (nI n, nI fr, nI to, v, false) T) (some (.long W)) (hP s ks ot as fl kp tc (nI n, nI fr, nI to, v, false) T) ∧ ∀ w, w < 12 → (W = lN (wC w) ↔ tk n T fr = w) := by
  cases hl : isLt n T fr with
  | false =>
    refine ⟨0, M_wordN hn hB (ht ▸ tE_le n T fr) hf hl, fun w hw => ?_⟩
    have h1 := tk_notL hl
    have h2 := wC_le w hw
    refine ⟨fun z => ?_, fun z => by omega⟩
    have := (pk_lEQ (a := 0) (b := wC w) (by omega) (by omega)).mp z
    omega
  | true =>
    refine ⟨_, M_wordL hn hB ht hl, fun w hw => ?_⟩
    have h2 := wC_le w hw
    have h3 := wnum_le (s := fr) hB (to - fr)
    rw [pk_lEQ (by omega) (by omega), ht]
    exact tk_w hl hw
theorem M_kindHere {s ks ot as : Nat → Int32} {fl : Int32} {kp : Bool} {tc : Nat → Int32} {n : Nat} {T : Nat → Nat} {fr to : Nat} {v : Int32} (hn : n ≤ 120) (hB : ∀ i, T i < 256) (ht : to = tE n T fr) (hf : fr ≤ n) : Sp 3 mX5_kindHere [.ref 0] (hP s ks ot as fl kp tc (nI n, nI fr, nI to, v, false) T) (some (.int (if tk n T fr ≤ 5 then nI (tk n T fr) else -1))) (hP s ks ot as fl kp tc (nI n, nI fr, nI to, v, false) T) := by
  obtain ⟨W, hW, k⟩ := M_word (s := s) (ks := ks) (ot := ot) (as := as) (fl := fl) (kp := kp) (tc := tc) (v := v) hn hB ht hf
  refine Sp.of [some (.ref 0), none, none] mrX5_kindHere.1 rfl (Nat.le_of_ble_eq_true rfl) rfl (fun X => ?_)
  have q0 : lg_cmp W 773205170 = 0 ↔ tk n T fr = 0 := cmp_0.trans (k 0 (by decide))
  have q1 : lg_cmp W 656780 = 0 ↔ tk n T fr = 1 := cmp_0.trans (k 1 (by decide))
  have q2 : lg_cmp W 3417476 = 0 ↔ tk n T fr = 2 := cmp_0.trans (k 2 (by decide))
  have q3 : lg_cmp W 8037509 = 0 ↔ tk n T fr = 3 := cmp_0.trans (k 3 (by decide))
  have q4 : lg_cmp W 553210034 = 0 ↔ tk n T fr = 4 := cmp_0.trans (k 4 (by decide))
  have q5 : lg_cmp W 650286617 = 0 ↔ tk n T fr = 5 := cmp_0.trans (k 5 (by decide))
  refine r_aload_n dX5_kindHere_0 rfl ?_
  refine r_v0r hW (Nat.le_of_ble_eq_true rfl) mrX5_word lkX5_227 rfl rfl rfl dX5_kindHere_1 (Nat.le_of_ble_eq_true rfl) ?_
  refine r_lstore_n (lv' := [_, _, _]) dX5_kindHere_4 (by decide) rfl ?_
  refine r_lload_n dX5_kindHere_5 rfl ?_
  refine r_ldc2 kX5_231 dX5_kindHere_6 ?_
  refine r_lcmp dX5_kindHere_9 ?_
  refine r_if_ne 17 dX5_kindHere_10 (by decide) (fun c10 => ?_) (fun c10 => ?_)
  · refine r_lload_n dX5_kindHere_17 rfl ?_
    refine r_ldc2 kX5_233 dX5_kindHere_18 ?_
    refine r_lcmp dX5_kindHere_21 ?_
    refine r_if_ne 29 dX5_kindHere_22 (by decide) (fun c22 => ?_) (fun c22 => ?_)
    · refine r_lload_n dX5_kindHere_29 rfl ?_
      refine r_ldc2 kX5_235 dX5_kindHere_30 ?_
      refine r_lcmp dX5_kindHere_33 ?_
      refine r_if_ne 41 dX5_kindHere_34 (by decide) (fun c34 => ?_) (fun c34 => ?_)
      · refine r_lload_n dX5_kindHere_41 rfl ?_
        refine r_ldc2 kX5_237 dX5_kindHere_42 ?_
        refine r_lcmp dX5_kindHere_45 ?_
        refine r_if_ne 53 dX5_kindHere_46 (by decide) (fun c46 => ?_) (fun c46 => ?_)
        · refine r_lload_n dX5_kindHere_53 rfl ?_
          refine r_ldc2 kX5_239 dX5_kindHere_54 ?_
          refine r_lcmp dX5_kindHere_57 ?_
          refine r_if_ne 65 dX5_kindHere_58 (by decide) (fun c58 => ?_) (fun c58 => ?_)
          · refine r_lload_n dX5_kindHere_65 rfl ?_
            refine r_ldc2 kX5_241 dX5_kindHere_66 ?_
            refine r_lcmp dX5_kindHere_69 ?_
            refine r_if_ne 77 dX5_kindHere_70 (by decide) (fun c70 => ?_) (fun c70 => ?_)
            · refine r_iconst (v := (-1)) dX5_kindHere_77 (by decide) ?_
              refine r_iret dX5_kindHere_78 rfl rfl ?_ ?_
              · first | (rw [q0.mp c10]; rfl) | (rw [q1.mp c22]; rfl) | (rw [q2.mp c34]; rfl) | (rw [q3.mp c46]; rfl) | (rw [q4.mp c58]; rfl) | (rw [q5.mp c70]; rfl) | (rw [q0] at c10; rw [q1] at c22; rw [q2] at c34; rw [q3] at c46; rw [q4] at c58; rw [q5] at c70; rw [if_neg (by omega)])
              · exact HE.rf
            · refine r_iconst (v := nI 5) dX5_kindHere_73 (by decide) ?_
              refine r_goto 78 dX5_kindHere_74 (by decide) ?_
              refine r_iret dX5_kindHere_78 rfl rfl ?_ ?_
              · first | (rw [q0.mp c10]; rfl) | (rw [q1.mp c22]; rfl) | (rw [q2.mp c34]; rfl) | (rw [q3.mp c46]; rfl) | (rw [q4.mp c58]; rfl) | (rw [q5.mp c70]; rfl) | (rw [q0] at c10; rw [q1] at c22; rw [q2] at c34; rw [q3] at c46; rw [q4] at c58; rw [q5] at c70; rw [if_neg (by omega)])
              · exact HE.rf
          · refine r_iconst (v := nI 4) dX5_kindHere_61 (by decide) ?_
            refine r_goto 78 dX5_kindHere_62 (by decide) ?_
            refine r_iret dX5_kindHere_78 rfl rfl ?_ ?_
            · first | (rw [q0.mp c10]; rfl) | (rw [q1.mp c22]; rfl) | (rw [q2.mp c34]; rfl) | (rw [q3.mp c46]; rfl) | (rw [q4.mp c58]; rfl) | (rw [q5.mp c70]; rfl) | (rw [q0] at c10; rw [q1] at c22; rw [q2] at c34; rw [q3] at c46; rw [q4] at c58; rw [q5] at c70; rw [if_neg (by omega)])
            · exact HE.rf
        · refine r_iconst (v := nI 3) dX5_kindHere_49 (by decide) ?_
          refine r_goto 78 dX5_kindHere_50 (by decide) ?_
          refine r_iret dX5_kindHere_78 rfl rfl ?_ ?_
          · first | (rw [q0.mp c10]; rfl) | (rw [q1.mp c22]; rfl) | (rw [q2.mp c34]; rfl) | (rw [q3.mp c46]; rfl) | (rw [q4.mp c58]; rfl) | (rw [q5.mp c70]; rfl) | (rw [q0] at c10; rw [q1] at c22; rw [q2] at c34; rw [q3] at c46; rw [q4] at c58; rw [q5] at c70; rw [if_neg (by omega)])
          · exact HE.rf
      · refine r_iconst (v := nI 2) dX5_kindHere_37 (by decide) ?_
        refine r_goto 78 dX5_kindHere_38 (by decide) ?_
        refine r_iret dX5_kindHere_78 rfl rfl ?_ ?_
        · first | (rw [q0.mp c10]; rfl) | (rw [q1.mp c22]; rfl) | (rw [q2.mp c34]; rfl) | (rw [q3.mp c46]; rfl) | (rw [q4.mp c58]; rfl) | (rw [q5.mp c70]; rfl) | (rw [q0] at c10; rw [q1] at c22; rw [q2] at c34; rw [q3] at c46; rw [q4] at c58; rw [q5] at c70; rw [if_neg (by omega)])
        · exact HE.rf
    · refine r_iconst (v := nI 1) dX5_kindHere_25 (by decide) ?_
      refine r_goto 78 dX5_kindHere_26 (by decide) ?_
      refine r_iret dX5_kindHere_78 rfl rfl ?_ ?_
      · first | (rw [q0.mp c10]; rfl) | (rw [q1.mp c22]; rfl) | (rw [q2.mp c34]; rfl) | (rw [q3.mp c46]; rfl) | (rw [q4.mp c58]; rfl) | (rw [q5.mp c70]; rfl) | (rw [q0] at c10; rw [q1] at c22; rw [q2] at c34; rw [q3] at c46; rw [q4] at c58; rw [q5] at c70; rw [if_neg (by omega)])
      · exact HE.rf
  · refine r_iconst (v := nI 0) dX5_kindHere_13 (by decide) ?_
    refine r_goto 78 dX5_kindHere_14 (by decide) ?_
    refine r_iret dX5_kindHere_78 rfl rfl ?_ ?_
    · first | (rw [q0.mp c10]; rfl) | (rw [q1.mp c22]; rfl) | (rw [q2.mp c34]; rfl) | (rw [q3.mp c46]; rfl) | (rw [q4.mp c58]; rfl) | (rw [q5.mp c70]; rfl) | (rw [q0] at c10; rw [q1] at c22; rw [q2] at c34; rw [q3] at c46; rw [q4] at c58; rw [q5] at c70; rw [if_neg (by omega)])
    · exact HE.rf

