/-! the reference: numbers -/
def nvm (c : Nat) (T : Nat → Nat) (s : Nat) : Nat → Nat
  | 0 => 0
  | j + 1 => if c < nvm c T s j then nvm c T s j else 10 * nvm c T s j + T (s + j) - 48
theorem nvm_c {c : Nat} {T : Nat → Nat} {s : Nat} (hc : c ≤ 999) : ∀ j, (∀ i, i < j → 48 ≤ T (s + i) ∧ T (s + i) ≤ 57) → min (nvm c T s j) (c + 1) = min (nvc T s j) (c + 1) ∧ nvm c T s j ≤ 9999
  | 0, _ => ⟨rfl, by rw [nvm]; omega⟩
  | j + 1, h => by
    have ih := nvm_c (T := T) (s := s) hc j (fun i hi => h i (by omega))
    have hd := h j (by omega)
    rw [nvm, nvc]
    split <;> omega
theorem dig_all {n : Nat} {T : Nat → Nat} {fr : Nat} (h : isNm n T fr = true) : ∀ i, fr ≤ i → i < tE n T fr → 48 ≤ T i ∧ T i ≤ 57 := fun i h1 h2 => by
  have e := tE_D h
  exact isD_lt (scan_all (P := isD) (T := T) (n := n) _ fr rfl i h1 (by rw [show scan isD T n fr = nEn n T fr from rfl, e.2.1, ← e.1]; exact h2))
theorem tE_nv {n : Nat} {T : Nat → Nat} {fr : Nat} (h : isNm n T fr = true) : nv n T fr = nvc T fr (tE n T fr - fr) ∧ fr < tE n T fr := by
  have e := tE_D h
  refine ⟨by rw [nv, e.2.1, e.1], ?_⟩
  rw [e.1]
  exact scan_ge (P := isD) (T := T) (n := n) _ (fr + 1) rfl
theorem M_numberW {s ks ot as : Nat → Int32} {fl : Int32} {kp : Bool} {tc : Nat → Int32} {a b c d x y : Int32} {T : Nat → Nat} : Sp 4 mX5_number [.ref 0, .int x, .int y] (hP s ks ot as fl kp tc (a, b, c, d, true) T) none (hP s ks ot as fl kp tc (a, b, c, d, true) T) := by
  refine Sp.of [some (.ref 0), some (.int x), some (.int y), none, none, none] mrX5_number.1 rfl (Nat.le_of_ble_eq_true rfl) rfl (fun X => ?_)
  refine r_aload_n dX5_number_0 rfl ?_
  refine r_getfield dX5_number_1 gfX5_209 rfl rfl ?_
  refine r_if_eqB 8 dX5_number_4 (by decide) (fun c4 => ?_) (fun c4 => ?_)
  · exact Bool.noConfusion c4
  · refine r_vret dX5_number_7 rfl ?_ ?_
    · rfl
    · exact HE.rf
theorem M_numberO {s ks ot as : Nat → Int32} {fl : Int32} {kp : Bool} {tc : Nat → Int32} {n : Nat} {T : Nat → Nat} {fr to : Nat} {v : Int32} {hi : Int32} (hn : n ≤ 120) (hB : ∀ i, T i < 256) (hf : fr ≤ n) (hd : isNm n T fr = false) : Sp 4 mX5_number [.ref 0, .int (nI 0), .int hi] (hP s ks ot as fl kp tc (nI n, nI fr, nI to, v, false) T) none (hP s ks ot as fl kp tc (nI n, nI fr, nI to, nI 0, true) T) := by
  refine Sp.of [some (.ref 0), some (.int (nI 0)), some (.int hi), none, none, none] mrX5_number.1 rfl (Nat.le_of_ble_eq_true rfl) rfl (fun X => ?_)
  refine r_aload_n dX5_number_0 rfl ?_
  refine r_getfield dX5_number_1 gfX5_209 rfl rfl ?_
  refine r_if_eqB 8 dX5_number_4 (by decide) (fun c4 => ?_) (fun c4 => ?_)
  · refine r_aload_n dX5_number_8 rfl ?_
    refine r_aload_n dX5_number_9 rfl ?_
    refine r_getfield dX5_number_10 gfX5_197 rfl rfl ?_
    refine r_v1r (M_byteAt hn (by omega)) (Nat.le_of_ble_eq_true rfl) mrX5_byteAt lkX5_200 rfl rfl rfl dX5_number_13 (Nat.le_of_ble_eq_true rfl) ?_
    refine r_s1r M_isDigit (Nat.le_of_ble_eq_true rfl) mrX5_isDigit lkX5_206 dX5_number_16 (Nat.le_of_ble_eq_true rfl) ?_
    rw [atM_D hB, hd]
    refine r_istore_n (lv' := [_, _, _, _, _, _]) dX5_number_19 (by decide) rfl ?_
    refine r_iconst (v := nI 0) dX5_number_20 (by decide) ?_
    refine r_istore (lv' := [_, _, _, _, _, _]) dX5_number_21 (by decide) rfl ?_
    refine r_aload_n dX5_number_23 rfl ?_
    refine r_getfield dX5_number_24 gfX5_197 rfl rfl ?_
    refine r_istore (lv' := [_, _, _, _, _, _]) dX5_number_27 (by decide) rfl ?_
    refine r_iload dX5_number_29 rfl ?_
    refine r_aload_n dX5_number_31 rfl ?_
    refine r_getfield dX5_number_32 gfX5_194 rfl rfl ?_
    refine r_icmp_ge 79 dX5_number_35 (by decide) (fun c35 => ?_) (fun c35 => ?_)
    · refine r_aload_n dX5_number_79 rfl ?_
      refine r_iload dX5_number_80 rfl ?_
      refine r_putfield (fs' := [_, _, _, _, _, _, _, _, _, _, _, _, _, _, _, _, _]) (h' := [_, _, _, _, _, _, _]) dX5_number_82 pfX5_220 rfl (Nat.le_of_ble_eq_true rfl) (fun _ => rfl) rfl rfl rfl rfl ?_
      refine r_aload_n dX5_number_85 rfl ?_
      refine r_iload_n dX5_number_86 rfl ?_
      refine r_if_eqB 107 dX5_number_87 (by decide) (fun c87 => ?_) (fun c87 => ?_)
      · refine r_iconst (v := nI 0) dX5_number_107 (by decide) ?_
        rw [show nI 0 = bI false from rfl]
        refine r_v1n (M_mustF (g := (nI n, nI fr, nI to, nI 0, false))) (Nat.le_of_ble_eq_true rfl) mrX5_must lkX5_223 rfl rfl rfl dX5_number_108 (Nat.le_of_ble_eq_true rfl) ?_
        refine r_vret dX5_number_111 rfl ?_ ?_
        · rfl
        · exact HE.rf
      · exact absurd c87 (by decide)
    · refine r_iload_n dX5_number_38 rfl ?_
      refine r_if_eqB 79 dX5_number_39 (by decide) (fun c39 => ?_) (fun c39 => ?_)
      · refine r_aload_n dX5_number_79 rfl ?_
        refine r_iload dX5_number_80 rfl ?_
        refine r_putfield (fs' := [_, _, _, _, _, _, _, _, _, _, _, _, _, _, _, _, _]) (h' := [_, _, _, _, _, _, _]) dX5_number_82 pfX5_220 rfl (Nat.le_of_ble_eq_true rfl) (fun _ => rfl) rfl rfl rfl rfl ?_
        refine r_aload_n dX5_number_85 rfl ?_
        refine r_iload_n dX5_number_86 rfl ?_
        refine r_if_eqB 107 dX5_number_87 (by decide) (fun c87 => ?_) (fun c87 => ?_)
        · refine r_iconst (v := nI 0) dX5_number_107 (by decide) ?_
          rw [show nI 0 = bI false from rfl]
          refine r_v1n (M_mustF (g := (nI n, nI fr, nI to, nI 0, false))) (Nat.le_of_ble_eq_true rfl) mrX5_must lkX5_223 rfl rfl rfl dX5_number_108 (Nat.le_of_ble_eq_true rfl) ?_
          refine r_vret dX5_number_111 rfl ?_ ?_
          · rfl
          · exact HE.rf
        · exact absurd c87 (by decide)
      · exact absurd c39 (by decide)
  · exact Bool.noConfusion c4
theorem M_numberD {s ks ot as : Nat → Int32} {fl : Int32} {kp : Bool} {tc : Nat → Int32} {n : Nat} {T : Nat → Nat} {fr to : Nat} {v : Int32} {hi : Int32} (hn : n ≤ 120) (hB : ∀ i, T i < 256) (hf : fr ≤ n) (ht : to = tE n T fr) (hd : isNm n T fr = true) (rv9 : Option Value) (Q9 : AH → Prop) (X : SX) (k : RunQ X 4 mX5_number 79 [some (.ref 0), some (.int (nI 0)), some (.int hi), some (.int (bI true)), some (.int (nI (nvm 999 T fr (to - fr)))), none] [] (hP s ks ot as fl kp tc (nI n, nI fr, nI to, v, false) T) rv9 Q9) : RunQ X 4 mX5_number 0 [some (.ref 0), some (.int (nI 0)), some (.int hi), none, none, none] [] (hP s ks ot as fl kp tc (nI n, nI fr, nI to, v, false) T) rv9 Q9 := by
  have hto : to ≤ n := ht ▸ tE_le n T fr
  have e := tE_nv hd
  have da := dig_all hd
  rw [← ht] at e da
  have L : ∀ (u j : Nat), fr + j + u = to → RunQ X 4 mX5_number 29 [some (.ref 0), some (.int (nI 0)), some (.int hi), some (.int (bI true)), some (.int (nI (nvm 999 T fr j))), some (.int (nI (fr + j)))] [] (hP s ks ot as fl kp tc (nI n, nI fr, nI to, v, false) T) rv9 Q9 := by
    intro u
    induction u with
    | zero =>
      intro j hj
      obtain rfl : to = fr + j := by omega
      refine r_iload dX5_number_29 rfl ?_
      refine r_aload_n dX5_number_31 rfl ?_
      refine r_getfield dX5_number_32 gfX5_194 rfl rfl ?_
      refine r_icmp_ge 79 dX5_number_35 (by decide) (fun c35 => ?_) (fun c35 => ?_)
      · rw [show fr + j - fr = j by omega] at k
        exact r_lv (lv' := [_, _, _, _, _, none]) (lvDrop 5 rfl) k
      · exact absurd (nI_le (by omega) (by omega)) c35
    | succ u ih =>
      intro j hj
      have hm := (nvm_c (c := 999) (T := T) (s := fr) (by omega) j (fun i hi => da (fr + i) (by omega) (by omega))).2
      have hdg := da (fr + j) (by omega) (by omega)
      refine r_iload dX5_number_29 rfl ?_
      refine r_aload_n dX5_number_31 rfl ?_
      refine r_getfield dX5_number_32 gfX5_194 rfl rfl ?_
      refine r_icmp_ge 79 dX5_number_35 (by decide) (fun c35 => ?_) (fun c35 => ?_)
      · exact absurd c35 (nI_ge (by omega) (by omega))
      · refine r_iload_n dX5_number_38 rfl ?_
        refine r_if_eqB 79 dX5_number_39 (by decide) (fun c39 => ?_) (fun c39 => ?_)
        · exact absurd c39 (by decide)
        · refine r_iload dX5_number_42 rfl ?_
          refine r_sipush (v := nI 999) dX5_number_44 (by decide) ?_
          refine r_icmp_le 55 dX5_number_47 (by decide) (fun c47 => ?_) (fun c47 => ?_)
          · refine r_bipush (v := nI 10) dX5_number_55 (by decide) ?_
            refine r_iload dX5_number_57 rfl ?_
            refine r_imul dX5_number_59 ?_
            rw [pk_mul]
            refine r_aload_n dX5_number_60 rfl ?_
            refine r_getfield dX5_number_61 gfX5_25 rfl rfl ?_
            refine r_iload dX5_number_64 rfl ?_
            refine r_ialdN dX5_number_66 rfl (by omega) (Nat.le_of_ble_eq_true rfl) rfl ?_
            refine r_iadd dX5_number_67 ?_
            rw [nI_add]
            refine r_bipush (v := nI 48) dX5_number_68 (by decide) ?_
            refine r_isub dX5_number_70 ?_
            rw [pk_sub (by omega)]
            refine r_istore (lv' := [_, _, _, _, _, _]) dX5_number_71 (by decide) rfl ?_
            refine r_iinc (lv' := [_, _, _, _, _, _]) dX5_number_73 (by decide) rfl (by first | exact inc1 _ | exact inc1_ _) rfl ?_
            refine r_goto 29 dX5_number_76 (by decide) ?_
            have e := ih (j + 1) (by omega)
            first
            | (rw [nvm, if_pos ((nI_ltI (by omega) (by omega)).mp (Int32.not_le.mp c47))] at e; exact e)
            | (rw [nvm, if_neg (Nat.not_lt.mpr ((nI_leI (by omega) (by omega)).mp c47))] at e; exact e)
          · refine r_iload dX5_number_50 rfl ?_
            refine r_goto 71 dX5_number_52 (by decide) ?_
            refine r_istore (lv' := [_, _, _, _, _, _]) dX5_number_71 (by decide) rfl ?_
            refine r_iinc (lv' := [_, _, _, _, _, _]) dX5_number_73 (by decide) rfl (by first | exact inc1 _ | exact inc1_ _) rfl ?_
            refine r_goto 29 dX5_number_76 (by decide) ?_
            have e := ih (j + 1) (by omega)
            first
            | (rw [nvm, if_pos ((nI_ltI (by omega) (by omega)).mp (Int32.not_le.mp c47))] at e; exact e)
            | (rw [nvm, if_neg (Nat.not_lt.mpr ((nI_leI (by omega) (by omega)).mp c47))] at e; exact e)
  refine r_aload_n dX5_number_0 rfl ?_
  refine r_getfield dX5_number_1 gfX5_209 rfl rfl ?_
  refine r_if_eqB 8 dX5_number_4 (by decide) (fun c4 => ?_) (fun c4 => ?_)
  · refine r_aload_n dX5_number_8 rfl ?_
    refine r_aload_n dX5_number_9 rfl ?_
    refine r_getfield dX5_number_10 gfX5_197 rfl rfl ?_
    refine r_v1r (M_byteAt hn (by omega)) (Nat.le_of_ble_eq_true rfl) mrX5_byteAt lkX5_200 rfl rfl rfl dX5_number_13 (Nat.le_of_ble_eq_true rfl) ?_
    refine r_s1r M_isDigit (Nat.le_of_ble_eq_true rfl) mrX5_isDigit lkX5_206 dX5_number_16 (Nat.le_of_ble_eq_true rfl) ?_
    rw [atM_D hB, hd]
    refine r_istore_n (lv' := [_, _, _, _, _, _]) dX5_number_19 (by decide) rfl ?_
    refine r_iconst (v := nI 0) dX5_number_20 (by decide) ?_
    refine r_istore (lv' := [_, _, _, _, _, _]) dX5_number_21 (by decide) rfl ?_
    refine r_aload_n dX5_number_23 rfl ?_
    refine r_getfield dX5_number_24 gfX5_197 rfl rfl ?_
    refine r_istore (lv' := [_, _, _, _, _, _]) dX5_number_27 (by decide) rfl ?_
    exact L (to - fr) 0 (by omega)
  · exact Bool.noConfusion c4
theorem M_number_t {s ks ot as : Nat → Int32} {fl : Int32} {kp : Bool} {tc : Nat → Int32} {n : Nat} {T : Nat → Nat} {fr to : Nat} {v : Int32} {hi : Int32} {m : Nat} (hn : n ≤ 120) (hB : ∀ i, T i < 256) (hf : fr ≤ n) (ht : to = tE n T fr) (hm : ∀ x, x ≤ 9999 → (nI x ≤ hi ↔ x < m)) (hm2 : m ≤ 1000) (h : nOK n T fr m = true) : Sp 4 mX5_number [.ref 0, .int (nI 0), .int hi] (hP s ks ot as fl kp tc (nI n, nI fr, nI to, v, false) T) none (hP s ks ot as fl kp tc (nI n, nI (nxt n T fr), nI (tE n T (nxt n T fr)), nI (nv n T fr), false) T) := by
  refine Sp.of [some (.ref 0), some (.int (nI 0)), some (.int hi), none, none, none] mrX5_number.1 rfl (Nat.le_of_ble_eq_true rfl) rfl (fun X => ?_)
  simp only [nOK, Bool.and_eq_true, decide_eq_true_eq] at h
  have e := tE_nv h.1
  have c := nvm_c (c := 999) (T := T) (s := fr) (by omega) (to - fr) (fun i hi => dig_all h.1 (fr + i) (by omega) (by omega))
  rw [← ht] at e
  have ev : nvm 999 T fr (to - fr) = nv n T fr := by rw [e.1]; have := h.2; rw [e.1] at this; omega
  refine M_numberD hn hB hf ht h.1 _ _ X ?_
  rw [ev]
  have hin : inR (nI (nv n T fr)) (nI 0) hi = true := by rw [inR, decide_eq_true (nI_le (a := 0) (Nat.zero_le _) (nv_31 n T fr)), decide_eq_true ((hm _ (by rw [← ev]; exact c.2)).mpr h.2)]; rfl
  have hsk : sk n T to = nxt n T fr := by rw [ht, sk_tE hf]
  refine r_aload_n dX5_number_79 rfl ?_
  refine r_iload dX5_number_80 rfl ?_
  refine r_putfield (fs' := [_, _, _, _, _, _, _, _, _, _, _, _, _, _, _, _, _]) (h' := [_, _, _, _, _, _, _]) dX5_number_82 pfX5_220 rfl (Nat.le_of_ble_eq_true rfl) (fun _ => rfl) rfl rfl rfl rfl ?_
  refine r_aload_n dX5_number_85 rfl ?_
  refine r_iload_n dX5_number_86 rfl ?_
  refine r_if_eqB 107 dX5_number_87 (by decide) (fun c87 => ?_) (fun c87 => ?_)
  · exact absurd c87 (by decide)
  · refine r_iload dX5_number_90 rfl ?_
    refine r_i2l dX5_number_92 ?_
    refine r_iload_n dX5_number_93 rfl ?_
    refine r_i2l dX5_number_94 ?_
    refine r_iload_n dX5_number_95 rfl ?_
    refine r_i2l dX5_number_96 ?_
    refine r_s3r (M_in (lo := nI 0) (hi := hi) rfl rfl) (Nat.le_of_ble_eq_true rfl) mrX5_in lkX5_46 dX5_number_97 (Nat.le_of_ble_eq_true rfl) ?_
    rw [hin]
    refine r_if_eqB 107 dX5_number_100 (by decide) (fun c100 => ?_) (fun c100 => ?_)
    · exact absurd c100 (by decide)
    · refine r_iconst (v := nI 1) dX5_number_103 (by decide) ?_
      refine r_goto 108 dX5_number_104 (by decide) ?_
      rw [show nI 1 = bI true from rfl]
      refine r_v1n (M_mustT (fr := fr) (to := to) (v := nI (nv n T fr)) hn hB (ht ▸ tE_le n T fr)) (Nat.le_of_ble_eq_true rfl) mrX5_must lkX5_223 rfl rfl rfl dX5_number_108 (Nat.le_of_ble_eq_true rfl) ?_
      refine r_vret dX5_number_111 rfl ?_ ?_
      · rfl
      · rw [hsk]
        exact HE.rf
theorem M_number_f {s ks ot as : Nat → Int32} {fl : Int32} {kp : Bool} {tc : Nat → Int32} {n : Nat} {T : Nat → Nat} {fr to : Nat} {v : Int32} {hi : Int32} {m : Nat} (hn : n ≤ 120) (hB : ∀ i, T i < 256) (hf : fr ≤ n) (ht : to = tE n T fr) (hm : ∀ x, x ≤ 9999 → (nI x ≤ hi ↔ x < m)) (hm2 : m ≤ 1000) (h : nOK n T fr m = false) : ∃ v', Sp 4 mX5_number [.ref 0, .int (nI 0), .int hi] (hP s ks ot as fl kp tc (nI n, nI fr, nI to, v, false) T) none (hP s ks ot as fl kp tc (nI n, nI fr, nI to, v', true) T) := by
  cases hd : isNm n T fr with
  | false => exact ⟨_, M_numberO hn hB hf hd⟩
  | true =>
    rw [nOK, hd, Bool.true_and, decide_eq_false_iff_not] at h
    refine ⟨nI (nvm 999 T fr (to - fr)), Sp.of [some (.ref 0), some (.int (nI 0)), some (.int hi), none, none, none] mrX5_number.1 rfl (Nat.le_of_ble_eq_true rfl) rfl (fun X => ?_)⟩
    have e := tE_nv hd
    have c := nvm_c (c := 999) (T := T) (s := fr) (by omega) (to - fr) (fun i hi => dig_all hd (fr + i) (by omega) (by omega))
    rw [← ht] at e
    refine M_numberD hn hB hf ht hd _ _ X ?_
    have hin : inR (nI (nvm 999 T fr (to - fr))) (nI 0) hi = false := by
      rw [inR, decide_eq_false (p := nI (nvm 999 T fr (to - fr)) ≤ hi) (fun z => by have := (hm _ c.2).mp z; rw [e.1] at h; omega), Bool.and_false]
    refine r_aload_n dX5_number_79 rfl ?_
    refine r_iload dX5_number_80 rfl ?_
    refine r_putfield (fs' := [_, _, _, _, _, _, _, _, _, _, _, _, _, _, _, _, _]) (h' := [_, _, _, _, _, _, _]) dX5_number_82 pfX5_220 rfl (Nat.le_of_ble_eq_true rfl) (fun _ => rfl) rfl rfl rfl rfl ?_
    refine r_aload_n dX5_number_85 rfl ?_
    refine r_iload_n dX5_number_86 rfl ?_
    refine r_if_eqB 107 dX5_number_87 (by decide) (fun c87 => ?_) (fun c87 => ?_)
    · exact absurd c87 (by decide)
    · refine r_iload dX5_number_90 rfl ?_
      refine r_i2l dX5_number_92 ?_
      refine r_iload_n dX5_number_93 rfl ?_
      refine r_i2l dX5_number_94 ?_
      refine r_iload_n dX5_number_95 rfl ?_
      refine r_i2l dX5_number_96 ?_
      refine r_s3r (M_in (lo := nI 0) (hi := hi) rfl rfl) (Nat.le_of_ble_eq_true rfl) mrX5_in lkX5_46 dX5_number_97 (Nat.le_of_ble_eq_true rfl) ?_
      rw [hin]
      refine r_if_eqB 107 dX5_number_100 (by decide) (fun c100 => ?_) (fun c100 => ?_)
      · refine r_iconst (v := nI 0) dX5_number_107 (by decide) ?_
        rw [show nI 0 = bI false from rfl]
        refine r_v1n (M_mustF (g := (nI n, nI fr, nI to, nI (nvm 999 T fr (to - fr)), false))) (Nat.le_of_ble_eq_true rfl) mrX5_must lkX5_223 rfl rfl rfl dX5_number_108 (Nat.le_of_ble_eq_true rfl) ?_
        refine r_vret dX5_number_111 rfl ?_ ?_
        · rfl
        · exact HE.rf
      · exact absurd c100 (by decide)
/-- a place that stands here, or -1 -/
def nHr (n : Nat) (T : Nat → Nat) (f : Nat) : Int32 := match nOK n T f 8 with
  | true => nI (nv n T f)
  | false => -1
theorem M_numberHere {s ks ot as : Nat → Int32} {fl : Int32} {kp : Bool} {tc : Nat → Int32} {n : Nat} {T : Nat → Nat} {fr to : Nat} {v : Int32} {w : Bool} (hn : n ≤ 120) (hB : ∀ i, T i < 256) (hf : fr ≤ n) (ht : to = tE n T fr) : Sp 2 mX5_numberHere [.ref 0] (hP s ks ot as fl kp tc (nI n, nI fr, nI to, v, w) T) (some (.int (nHr n T fr))) (hP s ks ot as fl kp tc (nI n, nI fr, nI to, v, w) T) := by
  refine Sp.of [some (.ref 0), none, none] mrX5_numberHere.1 rfl (Nat.le_of_ble_eq_true rfl) rfl (fun X => ?_)
  have hto : to ≤ n := ht ▸ tE_le n T fr
  cases hd : isNm n T fr with
  | false =>
    have er : nHr n T fr = -1 := by rw [nHr, nOK, hd, Bool.false_and]
    rw [er]
    have L : ∀ (k i : Nat) (y : Int32), to - i = k → i ≤ 120 → Run X 2 mX5_numberHere 7 [some (.ref 0), some (.int y), some (.int (nI i))] [] (hP s ks ot as fl kp tc (nI n, nI fr, nI to, v, w) T) (some (.int (-1))) (hP s ks ot as fl kp tc (nI n, nI fr, nI to, v, w) T) := by
      intro k
      induction k with
      | zero =>
        intro i y hk hi
        refine r_iload_n dX5_numberHere_7 rfl ?_
        refine r_aload_n dX5_numberHere_8 rfl ?_
        refine r_getfield dX5_numberHere_9 gfX5_194 rfl rfl ?_
        refine r_icmp_ge 46 dX5_numberHere_12 (by decide) (fun c12 => ?_) (fun c12 => ?_)
        · refine r_aload_n dX5_numberHere_46 rfl ?_
          refine r_aload_n dX5_numberHere_47 rfl ?_
          refine r_getfield dX5_numberHere_48 gfX5_197 rfl rfl ?_
          refine r_v1r (M_byteAt hn (by omega)) (Nat.le_of_ble_eq_true rfl) mrX5_byteAt lkX5_200 rfl rfl rfl dX5_numberHere_51 (Nat.le_of_ble_eq_true rfl) ?_
          refine r_s1r M_isDigit (Nat.le_of_ble_eq_true rfl) mrX5_isDigit lkX5_206 dX5_numberHere_54 (Nat.le_of_ble_eq_true rfl) ?_
          rw [atM_D hB, hd]
          refine r_if_eqB 70 dX5_numberHere_57 (by decide) (fun c57 => ?_) (fun c57 => ?_)
          · refine r_iconst (v := (-1)) dX5_numberHere_70 (by decide) ?_
            refine r_iret dX5_numberHere_71 rfl rfl ?_ ?_
            · rfl
            · exact HE.rf
          · exact absurd c57 (by decide)
        · exact absurd (nI_le (by omega) (by omega)) c12
      | succ k ih =>
        intro i y hk hi
        refine r_iload_n dX5_numberHere_7 rfl ?_
        refine r_aload_n dX5_numberHere_8 rfl ?_
        refine r_getfield dX5_numberHere_9 gfX5_194 rfl rfl ?_
        refine r_icmp_ge 46 dX5_numberHere_12 (by decide) (fun c12 => ?_) (fun c12 => ?_)
        · exact absurd c12 (nI_ge (by omega) (by omega))
        · refine r_iload_n dX5_numberHere_15 rfl ?_
          refine r_bipush (v := nI 99) dX5_numberHere_16 (by decide) ?_
          refine r_icmp_le 25 dX5_numberHere_18 (by decide) (fun c18 => ?_) (fun c18 => ?_)
          · refine r_bipush (v := nI 10) dX5_numberHere_25 (by decide) ?_
            refine r_iload_n dX5_numberHere_27 rfl ?_
            refine r_imul dX5_numberHere_28 ?_
            refine r_aload_n dX5_numberHere_29 rfl ?_
            refine r_getfield dX5_numberHere_30 gfX5_25 rfl rfl ?_
            refine r_iload_n dX5_numberHere_33 rfl ?_
            refine r_ialdN dX5_numberHere_34 rfl (by omega) (Nat.le_of_ble_eq_true rfl) rfl ?_
            refine r_iadd dX5_numberHere_35 ?_
            refine r_bipush (v := nI 48) dX5_numberHere_36 (by decide) ?_
            refine r_isub dX5_numberHere_38 ?_
            refine r_istore_n (lv' := [_, _, _]) dX5_numberHere_39 (by decide) rfl ?_
            refine r_iinc (lv' := [_, _, _]) dX5_numberHere_40 (by decide) rfl (by first | exact inc1 _ | exact inc1_ _) rfl ?_
            refine r_goto 7 dX5_numberHere_43 (by decide) ?_
            exact ih (i + 1) _ (by omega) (by omega)
          · refine r_iload_n dX5_numberHere_21 rfl ?_
            refine r_goto 39 dX5_numberHere_22 (by decide) ?_
            refine r_istore_n (lv' := [_, _, _]) dX5_numberHere_39 (by decide) rfl ?_
            refine r_iinc (lv' := [_, _, _]) dX5_numberHere_40 (by decide) rfl (by first | exact inc1 _ | exact inc1_ _) rfl ?_
            refine r_goto 7 dX5_numberHere_43 (by decide) ?_
            exact ih (i + 1) _ (by omega) (by omega)
    refine r_iconst (v := nI 0) dX5_numberHere_0 (by decide) ?_
    refine r_istore_n (lv' := [_, _, _]) dX5_numberHere_1 (by decide) rfl ?_
    refine r_aload_n dX5_numberHere_2 rfl ?_
    refine r_getfield dX5_numberHere_3 gfX5_197 rfl rfl ?_
    refine r_istore_n (lv' := [_, _, _]) dX5_numberHere_6 (by decide) rfl ?_
    exact L (to - fr) fr _ rfl (by omega)
  | true =>
    have e := tE_nv hd
    have da := dig_all hd
    rw [← ht] at e da
    have c := nvm_c (c := 99) (T := T) (s := fr) (by omega) (to - fr) (fun i hi => da (fr + i) (by omega) (by omega))
    have L : ∀ (u j : Nat), fr + j + u = to → Run X 2 mX5_numberHere 7 [some (.ref 0), some (.int (nI (nvm 99 T fr j))), some (.int (nI (fr + j)))] [] (hP s ks ot as fl kp tc (nI n, nI fr, nI to, v, w) T) (some (.int (nHr n T fr))) (hP s ks ot as fl kp tc (nI n, nI fr, nI to, v, w) T) := by
      intro u
      induction u with
      | zero =>
        intro j hj
        obtain rfl : to = fr + j := by omega
        rw [show fr + j - fr = j by omega] at c e
        refine r_iload_n dX5_numberHere_7 rfl ?_
        refine r_aload_n dX5_numberHere_8 rfl ?_
        refine r_getfield dX5_numberHere_9 gfX5_194 rfl rfl ?_
        refine r_icmp_ge 46 dX5_numberHere_12 (by decide) (fun c12 => ?_) (fun c12 => ?_)
        · refine r_aload_n dX5_numberHere_46 rfl ?_
          refine r_aload_n dX5_numberHere_47 rfl ?_
          refine r_getfield dX5_numberHere_48 gfX5_197 rfl rfl ?_
          refine r_v1r (M_byteAt hn (by omega)) (Nat.le_of_ble_eq_true rfl) mrX5_byteAt lkX5_200 rfl rfl rfl dX5_numberHere_51 (Nat.le_of_ble_eq_true rfl) ?_
          refine r_s1r M_isDigit (Nat.le_of_ble_eq_true rfl) mrX5_isDigit lkX5_206 dX5_numberHere_54 (Nat.le_of_ble_eq_true rfl) ?_
          rw [atM_D hB, hd]
          refine r_if_eqB 70 dX5_numberHere_57 (by decide) (fun c57 => ?_) (fun c57 => ?_)
          · exact absurd c57 (by decide)
          · refine r_iload_n dX5_numberHere_60 rfl ?_
            refine r_bipush (v := nI 8) dX5_numberHere_61 (by decide) ?_
            refine r_icmp_ge 70 dX5_numberHere_63 (by decide) (fun c63 => ?_) (fun c63 => ?_)
            · refine r_iconst (v := (-1)) dX5_numberHere_70 (by decide) ?_
              refine r_iret dX5_numberHere_71 rfl rfl ?_ ?_
              · first
                | (have h9 := (nI_leI (a := 8) (b := nvm 99 T fr j) (by omega) (by omega)).mp c63; rw [nHr, nOK, hd, e.1, decide_eq_false (by omega)]; rfl)
                | (have h9 : ¬ 8 ≤ nvm 99 T fr j := fun z => c63 (nI_le z (by omega)); rw [nHr, nOK, hd, e.1, decide_eq_true (by omega), show nvc T fr j = nvm 99 T fr j by omega]; rfl)
              · exact HE.rf
            · refine r_iload_n dX5_numberHere_66 rfl ?_
              refine r_goto 71 dX5_numberHere_67 (by decide) ?_
              refine r_iret dX5_numberHere_71 rfl rfl ?_ ?_
              · first
                | (have h9 := (nI_leI (a := 8) (b := nvm 99 T fr j) (by omega) (by omega)).mp c63; rw [nHr, nOK, hd, e.1, decide_eq_false (by omega)]; rfl)
                | (have h9 : ¬ 8 ≤ nvm 99 T fr j := fun z => c63 (nI_le z (by omega)); rw [nHr, nOK, hd, e.1, decide_eq_true (by omega), show nvc T fr j = nvm 99 T fr j by omega]; rfl)
              · exact HE.rf
        · exact absurd (nI_le (by omega) (by omega)) c12
      | succ u ih =>
        intro j hj
        have hm := (nvm_c (c := 99) (T := T) (s := fr) (by omega) j (fun i hi => da (fr + i) (by omega) (by omega))).2
        have hdg := da (fr + j) (by omega) (by omega)
        refine r_iload_n dX5_numberHere_7 rfl ?_
        refine r_aload_n dX5_numberHere_8 rfl ?_
        refine r_getfield dX5_numberHere_9 gfX5_194 rfl rfl ?_
        refine r_icmp_ge 46 dX5_numberHere_12 (by decide) (fun c12 => ?_) (fun c12 => ?_)
        · exact absurd c12 (nI_ge (by omega) (by omega))
        · refine r_iload_n dX5_numberHere_15 rfl ?_
          refine r_bipush (v := nI 99) dX5_numberHere_16 (by decide) ?_
          refine r_icmp_le 25 dX5_numberHere_18 (by decide) (fun c18 => ?_) (fun c18 => ?_)
          · refine r_bipush (v := nI 10) dX5_numberHere_25 (by decide) ?_
            refine r_iload_n dX5_numberHere_27 rfl ?_
            refine r_imul dX5_numberHere_28 ?_
            rw [pk_mul]
            refine r_aload_n dX5_numberHere_29 rfl ?_
            refine r_getfield dX5_numberHere_30 gfX5_25 rfl rfl ?_
            refine r_iload_n dX5_numberHere_33 rfl ?_
            refine r_ialdN dX5_numberHere_34 rfl (by omega) (Nat.le_of_ble_eq_true rfl) rfl ?_
            refine r_iadd dX5_numberHere_35 ?_
            rw [nI_add]
            refine r_bipush (v := nI 48) dX5_numberHere_36 (by decide) ?_
            refine r_isub dX5_numberHere_38 ?_
            rw [pk_sub (by omega)]
            refine r_istore_n (lv' := [_, _, _]) dX5_numberHere_39 (by decide) rfl ?_
            refine r_iinc (lv' := [_, _, _]) dX5_numberHere_40 (by decide) rfl (by first | exact inc1 _ | exact inc1_ _) rfl ?_
            refine r_goto 7 dX5_numberHere_43 (by decide) ?_
            have e := ih (j + 1) (by omega)
            first
            | (rw [nvm, if_pos ((nI_ltI (by omega) (by omega)).mp (Int32.not_le.mp c18))] at e; exact e)
            | (rw [nvm, if_neg (Nat.not_lt.mpr ((nI_leI (by omega) (by omega)).mp c18))] at e; exact e)
          · refine r_iload_n dX5_numberHere_21 rfl ?_
            refine r_goto 39 dX5_numberHere_22 (by decide) ?_
            refine r_istore_n (lv' := [_, _, _]) dX5_numberHere_39 (by decide) rfl ?_
            refine r_iinc (lv' := [_, _, _]) dX5_numberHere_40 (by decide) rfl (by first | exact inc1 _ | exact inc1_ _) rfl ?_
            refine r_goto 7 dX5_numberHere_43 (by decide) ?_
            have e := ih (j + 1) (by omega)
            first
            | (rw [nvm, if_pos ((nI_ltI (by omega) (by omega)).mp (Int32.not_le.mp c18))] at e; exact e)
            | (rw [nvm, if_neg (Nat.not_lt.mpr ((nI_leI (by omega) (by omega)).mp c18))] at e; exact e)
    refine r_iconst (v := nI 0) dX5_numberHere_0 (by decide) ?_
    refine r_istore_n (lv' := [_, _, _]) dX5_numberHere_1 (by decide) rfl ?_
    refine r_aload_n dX5_numberHere_2 rfl ?_
    refine r_getfield dX5_numberHere_3 gfX5_197 rfl rfl ?_
    refine r_istore_n (lv' := [_, _, _]) dX5_numberHere_6 (by decide) rfl ?_
    exact L (to - fr) 0 (by omega)

