/-! the reference: copy, lays, book, read -/
theorem spn_f {z : Nat} {f m : Int32} (h : f < 0) : spn z f m = false := by rw [spn, decide_eq_false (Int32.not_le.mpr h)]; rfl
theorem spn_m {z : Nat} {f m : Int32} (h : m < 0) : spn z f m = false := by rw [spn, decide_eq_false (p := 0 ≤ m) (Int32.not_le.mpr h), Bool.false_and, Bool.and_false]
theorem spn_d {z : Nat} {f : Int32} (hz : z ≤ 40) (hf : ¬ f < 0) : (nI z - f).toInt = z - f.toInt := by
  have ez : (nI z).toInt = z := nI_toInt (by omega)
  have h1 := Int32.le_iff_toInt_le.mp (Int32.not_lt.mp hf)
  rw [show (0 : Int32).toInt = 0 from rfl] at h1
  have h2 := n_rng f
  rw [subI (by omega) (by omega), ez]
theorem spn_gt {z : Nat} {f m : Int32} (hz : z ≤ 40) (hf : ¬ f < 0) (h : nI z - f < m) : spn z f m = false := by
  have e := Int32.lt_iff_toInt_lt.mp h
  rw [spn_d hz hf] at e
  rw [spn, decide_eq_false (p := f.toInt + m.toInt ≤ z) (by omega), Bool.and_false, Bool.and_false]
theorem spn_le {z : Nat} {f m : Int32} (hz : z ≤ 40) (hf : ¬ f < 0) (hm : ¬ m < 0) (h : m ≤ nI z - f) : spn z f m = true := by
  have e := Int32.le_iff_toInt_le.mp h
  rw [spn_d hz hf] at e
  rw [spn, decide_eq_true (p := f.toInt + m.toInt ≤ z) (by omega), decide_eq_true (Int32.not_lt.mp hf), decide_eq_true (Int32.not_lt.mp hm)]; rfl
theorem blk_s0 {k : Nat} {g N : Nat → Int64} {v : Int64} (h : g k = v) : vp_updL (blk 0 k g N) k v = blk 0 (k + 1) g N := by
  have e := blk_s (o := 0) (N := N) h
  rwa [Nat.zero_add] at e
theorem blk_in {k c : Nat} {g N : Nat → Int64} (h : c < k) : blk 0 k g N c = g c := by rw [blk, if_pos (by omega), Nat.sub_zero]
theorem Y_copy {R K : RS} {ks ot as : Nat → Int32} {fl : Int32} {kp : Bool} {tc : Nat → Int32} {n : Nat} {T : Nat → Nat} {Z : Nat → SHT} {a : Nat} {b v : Int32} {w : Bool} {mv : Nat → Int64} {x f y t m : Int32} (hZ : wfZ Z) (hk : kp = true → ∀ i, i < 37 → ks i = enc K i) : SpQ 11 mX5_copy [.ref 0, .int x, .int f, .int y, .int t, .int m] (hY (enc R) ks ot as fl kp tc (nI n, nI a, b, v, w) T (bsF Z) (szF Z) (nmF Z) mv) (some (.int (o_copy ((R, K, kp, tc), (n, T), Z) x f y t m).1)) (qY (o_copy ((R, K, kp, tc), (n, T), Z) x f y t m).2) := by
  refine SpQ.of [some (.ref 0), some (.int x), some (.int f), some (.int y), some (.int t), some (.int m), none] mrX5_copy.1 (fun _ q => qY_len q) (Nat.le_of_ble_eq_true rfl) rfl (fun X => ?_)
  have L2 : ∀ (i j p r q : Nat), i < 4 → j < 4 → p + q ≤ 40 → r + q ≤ 40 → ∀ (k c : Nat), c + k = q → RunQ X 11 mX5_copy 157 [some (.ref 0), some (.int (nI i)), some (.int (nI p)), some (.int (nI j)), some (.int (nI r)), some (.int (nI q)), some (.int (nI c))] [] (hY (enc R) ks ot as fl kp tc (nI n, nI a, b, v, w) T (bsF Z) (szF Z) (blk (40 * j + r) c (fun d => (Z i).2.2 (p + d)) (nmF Z)) (blk 0 q (fun d => (Z i).2.2 (p + d)) mv)) (some (.int (nI q))) (qY ((R, K, kp, tc), (n, T), updZ Z j ((Z j).1, (Z j).2.1, va_cpy (Z i).2.2 (Z j).2.2 p r q))) := by
    intro i j p r q hi hj hp hr k
    induction k with
    | zero =>
      intro c hc
      obtain rfl : c = q := by omega
      refine r_iload dX5_copy_157 rfl ?_
      refine r_iload dX5_copy_159 rfl ?_
      refine r_icmp_ge 192 dX5_copy_161 (by decide) (fun c161 => ?_) (fun c161 => ?_)
      · refine r_iload dX5_copy_192 rfl ?_
        refine r_iret dX5_copy_194 rfl rfl ?_ ?_
        · rfl
        · exact qY_of (a := a) (b := b) (v := v) (w := w) (Z := updZ Z j ((Z j).1, (Z j).2.1, va_cpy (Z i).2.2 (Z j).2.2 p r c)) hk (bs_same Z j _ _) (sz_same Z j _ _) (blk_nm (t := r) (Y := ((Z j).1, (Z j).2.1, va_cpy (Z i).2.2 (Z j).2.2 p r c)) (by omega) (fun d hd => rfl))
      · exact absurd (nI_le (by omega) (by omega)) c161
    | succ k ih =>
      intro c hc
      refine r_iload dX5_copy_157 rfl ?_
      refine r_iload dX5_copy_159 rfl ?_
      refine r_icmp_ge 192 dX5_copy_161 (by decide) (fun c161 => ?_) (fun c161 => ?_)
      · exact absurd c161 (nI_ge (by omega) (by omega))
      · refine r_aload_n dX5_copy_164 rfl ?_
        refine r_getfield dX5_copy_165 gfX5_34 rfl rfl ?_
        refine r_bipush (v := nI 40) dX5_copy_168 (by decide) ?_
        refine r_iload_n dX5_copy_170 rfl ?_
        refine r_imul dX5_copy_171 ?_
        rw [pk_mul]
        refine r_iload dX5_copy_172 rfl ?_
        refine r_iadd dX5_copy_174 ?_
        rw [nI_add]
        refine r_iload dX5_copy_175 rfl ?_
        refine r_iadd dX5_copy_177 ?_
        rw [nI_add]
        refine r_aload_n dX5_copy_178 rfl ?_
        refine r_getfield dX5_copy_179 gfX5_38 rfl rfl ?_
        refine r_iload dX5_copy_182 rfl ?_
        refine r_laldN dX5_copy_184 rfl (by omega) (Nat.le_of_ble_eq_true rfl) (blk_in (by omega)) ?_
        refine r_lastN (h' := [_, _, _, _, _, _, _, _, _, _, _]) dX5_copy_185 rfl (by omega) (Nat.le_of_ble_eq_true rfl) rfl ?_
        rw [blk_s rfl]
        refine r_iinc (lv' := [_, _, _, _, _, _, _]) dX5_copy_186 (by decide) rfl (by first | exact inc1 _ | exact inc1_ _) rfl ?_
        refine r_goto 157 dX5_copy_189 (by decide) ?_
        exact ih (c + 1) (by omega)
  have L1 : ∀ (i j p r q : Nat), i < 4 → j < 4 → p + q ≤ 40 → r + q ≤ 40 → ∀ (k c : Nat), c + k = q → RunQ X 11 mX5_copy 120 [some (.ref 0), some (.int (nI i)), some (.int (nI p)), some (.int (nI j)), some (.int (nI r)), some (.int (nI q)), some (.int (nI c))] [] (hY (enc R) ks ot as fl kp tc (nI n, nI a, b, v, w) T (bsF Z) (szF Z) (nmF Z) (blk 0 c (fun d => (Z i).2.2 (p + d)) mv)) (some (.int (nI q))) (qY ((R, K, kp, tc), (n, T), updZ Z j ((Z j).1, (Z j).2.1, va_cpy (Z i).2.2 (Z j).2.2 p r q))) := by
    intro i j p r q hi hj hp hr k
    induction k with
    | zero =>
      intro c hc
      obtain rfl : c = q := by omega
      refine r_iload dX5_copy_120 rfl ?_
      refine r_iload dX5_copy_122 rfl ?_
      refine r_icmp_ge 154 dX5_copy_124 (by decide) (fun c124 => ?_) (fun c124 => ?_)
      · refine r_iconst (v := nI 0) dX5_copy_154 (by decide) ?_
        refine r_istore (lv' := [_, _, _, _, _, _, _]) dX5_copy_155 (by decide) rfl ?_
        have e := L2 i j p r c hi hj hp hr c 0 (by omega)
        rw [blk_0] at e
        exact e
      · exact absurd (nI_le (by omega) (by omega)) c124
    | succ k ih =>
      intro c hc
      refine r_iload dX5_copy_120 rfl ?_
      refine r_iload dX5_copy_122 rfl ?_
      refine r_icmp_ge 154 dX5_copy_124 (by decide) (fun c124 => ?_) (fun c124 => ?_)
      · exact absurd c124 (nI_ge (by omega) (by omega))
      · refine r_aload_n dX5_copy_127 rfl ?_
        refine r_getfield dX5_copy_128 gfX5_38 rfl rfl ?_
        refine r_iload dX5_copy_131 rfl ?_
        refine r_aload_n dX5_copy_133 rfl ?_
        refine r_getfield dX5_copy_134 gfX5_34 rfl rfl ?_
        refine r_bipush (v := nI 40) dX5_copy_137 (by decide) ?_
        refine r_iload_n dX5_copy_139 rfl ?_
        refine r_imul dX5_copy_140 ?_
        rw [pk_mul]
        refine r_iload_n dX5_copy_141 rfl ?_
        refine r_iadd dX5_copy_142 ?_
        rw [nI_add]
        refine r_iload dX5_copy_143 rfl ?_
        refine r_iadd dX5_copy_145 ?_
        rw [nI_add]
        refine r_laldN dX5_copy_146 rfl (by omega) (Nat.le_of_ble_eq_true rfl) (show nmF Z (40 * i + p + c) = (Z i).2.2 (p + c) by rw [Nat.add_assoc]; exact nm_at Z (by omega)) ?_
        refine r_lastN (h' := [_, _, _, _, _, _, _, _, _, _, _]) dX5_copy_147 rfl (by omega) (Nat.le_of_ble_eq_true rfl) rfl ?_
        rw [blk_s0 rfl]
        refine r_iinc (lv' := [_, _, _, _, _, _, _]) dX5_copy_148 (by decide) rfl (by first | exact inc1 _ | exact inc1_ _) rfl ?_
        refine r_goto 120 dX5_copy_151 (by decide) ?_
        exact ih (c + 1) (by omega)
  have e0 : ∀ i, i < 100 → tn (nI i) = i := fun i hi => nI_clamp (by omega)
  have G : ∀ i, i < 4 → ∀ j, j < 4 → inR (nI i) (nI 0) (nI 3) = true → inR (nI j) (nI 0) (nI 3) = true → RunQ X 11 mX5_copy 21 [some (.ref 0), some (.int (nI i)), some (.int f), some (.int (nI j)), some (.int t), some (.int m), none] [] (hY (enc R) ks ot as fl kp tc (nI n, nI a, b, v, w) T (bsF Z) (szF Z) (nmF Z) mv) (some (.int (o_copy ((R, K, kp, tc), (n, T), Z) (nI i) f (nI j) t m).1)) (qY (o_copy ((R, K, kp, tc), (n, T), Z) (nI i) f (nI j) t m).2) := by
    intro i hi j hj c4 c11
    obtain ⟨z, hz, ez⟩ := hZ i hi
    obtain ⟨y, hy, ey⟩ := hZ j hj
    have etz : tn (Z i).2.1 = z := by rw [ez]; exact e0 z (by omega)
    have ety : tn (Z j).2.1 = y := by rw [ey]; exact e0 y (by omega)
    have E110 : RunQ X 11 mX5_copy 110 [some (.ref 0), some (.int (nI i)), some (.int f), some (.int (nI j)), some (.int t), some (.int m), none] [] (hY (enc R) ks ot as fl kp tc (nI n, nI a, b, v, w) T (bsF Z) (szF Z) (nmF Z) mv) (some (.int (bndL ((R, K, kp, tc), (n, T), Z) 0).1)) (qY (bndL ((R, K, kp, tc), (n, T), Z) 0).2) := by
      refine r_aload_n dX5_copy_110 rfl ?_
      refine r_ldc kX5_41 dX5_copy_111 ?_
      refine r_v1r (Y_finds 0 (by decide) (by decide)) (Nat.le_of_ble_eq_true rfl) mrX5_finds lkX5_66 rfl rfl rfl dX5_copy_113 (Nat.le_of_ble_eq_true rfl) ?_
      refine r_iret dX5_copy_116 rfl rfl ?_ ?_
      · rfl
      · exact ⟨ks, ot, as, fl, a, b, v, w, mv, hk, HE.rf⟩
    rw [o_copy, c4, c11]
    dsimp only
    rw [e0 i (by omega), e0 j (by omega), etz, ety]
    refine r_aload_n dX5_copy_21 rfl ?_
    refine r_getfield dX5_copy_22 gfX5_28 rfl rfl ?_
    refine r_iload_n dX5_copy_25 rfl ?_
    refine r_ialdN dX5_copy_26 rfl (by omega) (Nat.le_of_ble_eq_true rfl) (show bsF Z i = (Z i).1 from rfl) ?_
    refine r_if_eq 39 dX5_copy_27 (by decide) (fun c27 => ?_) (fun c27 => ?_)
    · refine r_aload_n dX5_copy_39 rfl ?_
      refine r_ldcw kX5_291 dX5_copy_40 ?_
      refine r_v1r (Y_finds 5 (by decide) (by decide)) (Nat.le_of_ble_eq_true rfl) mrX5_finds lkX5_66 rfl rfl rfl dX5_copy_43 (Nat.le_of_ble_eq_true rfl) ?_
      refine r_iret dX5_copy_46 rfl rfl ?_ ?_
      · first | (rw [if_pos c27]; rfl) | (rw [if_neg c27, if_pos c36]; rfl)
      · first | (rw [if_pos c27]; exact ⟨ks, ot, as, fl, a, b, v, w, mv, hk, HE.rf⟩) | (rw [if_neg c27, if_pos c36]; exact ⟨ks, ot, as, fl, a, b, v, w, mv, hk, HE.rf⟩)
    · refine r_aload_n dX5_copy_30 rfl ?_
      refine r_getfield dX5_copy_31 gfX5_28 rfl rfl ?_
      refine r_iload_n dX5_copy_34 rfl ?_
      refine r_ialdN dX5_copy_35 rfl (by omega) (Nat.le_of_ble_eq_true rfl) (show bsF Z j = (Z j).1 from rfl) ?_
      refine r_if_ne 47 dX5_copy_36 (by decide) (fun c36 => ?_) (fun c36 => ?_)
      · refine r_aload_n dX5_copy_47 rfl ?_
        refine r_getfield dX5_copy_48 gfX5_28 rfl rfl ?_
        refine r_iload_n dX5_copy_51 rfl ?_
        refine r_ialdN dX5_copy_52 rfl (by omega) (Nat.le_of_ble_eq_true rfl) (show bsF Z i = (Z i).1 from rfl) ?_
        refine r_aload_n dX5_copy_53 rfl ?_
        refine r_getfield dX5_copy_54 gfX5_28 rfl rfl ?_
        refine r_iload_n dX5_copy_57 rfl ?_
        refine r_ialdN dX5_copy_58 rfl (by omega) (Nat.le_of_ble_eq_true rfl) (show bsF Z j = (Z j).1 from rfl) ?_
        refine r_icmp_eq 69 dX5_copy_59 (by decide) (fun c59 => ?_) (fun c59 => ?_)
        · rw [if_neg c27, if_neg c36, if_pos c59]
          refine r_iload_n dX5_copy_69 rfl ?_
          refine r_if_lt 110 dX5_copy_70 (by decide) (fun c70 => ?_) (fun c70 => ?_)
          · first
            | (rw [spn_f c70]; exact E110)
            | (rw [spn_f (z := y) c75]; cases spn z f m <;> exact E110)
            | (rw [spn_m (z := z) c80]; exact E110)
            | (rw [spn_gt hz c70 c93]; exact E110)
            | (rw [spn_gt hy c75 (Int32.not_le.mp c107)]; cases spn z f m <;> exact E110)
          · refine r_iload dX5_copy_73 rfl ?_
            refine r_if_lt 110 dX5_copy_75 (by decide) (fun c75 => ?_) (fun c75 => ?_)
            · first
              | (rw [spn_f c70]; exact E110)
              | (rw [spn_f (z := y) c75]; cases spn z f m <;> exact E110)
              | (rw [spn_m (z := z) c80]; exact E110)
              | (rw [spn_gt hz c70 c93]; exact E110)
              | (rw [spn_gt hy c75 (Int32.not_le.mp c107)]; cases spn z f m <;> exact E110)
            · refine r_iload dX5_copy_78 rfl ?_
              refine r_if_lt 110 dX5_copy_80 (by decide) (fun c80 => ?_) (fun c80 => ?_)
              · first
                | (rw [spn_f c70]; exact E110)
                | (rw [spn_f (z := y) c75]; cases spn z f m <;> exact E110)
                | (rw [spn_m (z := z) c80]; exact E110)
                | (rw [spn_gt hz c70 c93]; exact E110)
                | (rw [spn_gt hy c75 (Int32.not_le.mp c107)]; cases spn z f m <;> exact E110)
              · refine r_iload dX5_copy_83 rfl ?_
                refine r_aload_n dX5_copy_85 rfl ?_
                refine r_getfield dX5_copy_86 gfX5_31 rfl rfl ?_
                refine r_iload_n dX5_copy_89 rfl ?_
                refine r_ialdN dX5_copy_90 rfl (by omega) (Nat.le_of_ble_eq_true rfl) (show szF Z i = nI z from ez) ?_
                refine r_iload_n dX5_copy_91 rfl ?_
                refine r_isub dX5_copy_92 ?_
                refine r_icmp_gt 110 dX5_copy_93 (by decide) (fun c93 => ?_) (fun c93 => ?_)
                · first
                  | (rw [spn_f c70]; exact E110)
                  | (rw [spn_f (z := y) c75]; cases spn z f m <;> exact E110)
                  | (rw [spn_m (z := z) c80]; exact E110)
                  | (rw [spn_gt hz c70 c93]; exact E110)
                  | (rw [spn_gt hy c75 (Int32.not_le.mp c107)]; cases spn z f m <;> exact E110)
                · refine r_iload dX5_copy_96 rfl ?_
                  refine r_aload_n dX5_copy_98 rfl ?_
                  refine r_getfield dX5_copy_99 gfX5_31 rfl rfl ?_
                  refine r_iload_n dX5_copy_102 rfl ?_
                  refine r_ialdN dX5_copy_103 rfl (by omega) (Nat.le_of_ble_eq_true rfl) (show szF Z j = nI y from ey) ?_
                  refine r_iload dX5_copy_104 rfl ?_
                  refine r_isub dX5_copy_106 ?_
                  refine r_icmp_le 117 dX5_copy_107 (by decide) (fun c107 => ?_) (fun c107 => ?_)
                  · have s1 := spn_le hz c70 c80 (Int32.not_lt.mp c93)
                    have s2 := spn_le hy c75 c80 c107
                    have p1 := spn_of hz s1
                    have p2 := spn_of hy s2
                    rw [s1, s2]
                    obtain ⟨p, hp, rfl⟩ := nI_of c70
                    obtain ⟨r, hr, rfl⟩ := nI_of c75
                    obtain ⟨q, hq, rfl⟩ := nI_of c80
                    rw [nI_clamp hp, nI_clamp hq] at p1
                    rw [nI_clamp hr, nI_clamp hq] at p2
                    have e1 : tn (nI p) = p := nI_clamp hp
                    have e2 : tn (nI r) = r := nI_clamp hr
                    have e3 : tn (nI q) = q := nI_clamp hq
                    dsimp only
                    rw [e1, e2, e3]
                    refine r_iconst (v := nI 0) dX5_copy_117 (by decide) ?_
                    refine r_istore (lv' := [_, _, _, _, _, _, _]) dX5_copy_118 (by decide) rfl ?_
                    have e := L1 i j p r q hi hj (by omega) (by omega) q 0 (by omega)
                    rw [blk_0] at e
                    exact e
                  · first
                    | (rw [spn_f c70]; exact E110)
                    | (rw [spn_f (z := y) c75]; cases spn z f m <;> exact E110)
                    | (rw [spn_m (z := z) c80]; exact E110)
                    | (rw [spn_gt hz c70 c93]; exact E110)
                    | (rw [spn_gt hy c75 (Int32.not_le.mp c107)]; cases spn z f m <;> exact E110)
        · refine r_aload_n dX5_copy_62 rfl ?_
          refine r_ldc kX5_133 dX5_copy_63 ?_
          refine r_v1r (Y_finds 2 (by decide) (by decide)) (Nat.le_of_ble_eq_true rfl) mrX5_finds lkX5_66 rfl rfl rfl dX5_copy_65 (Nat.le_of_ble_eq_true rfl) ?_
          refine r_iret dX5_copy_68 rfl rfl ?_ ?_
          · rw [if_neg c27, if_neg c36, if_neg c59]; rfl
          · rw [if_neg c27, if_neg c36, if_neg c59]
            exact ⟨ks, ot, as, fl, a, b, v, w, mv, hk, HE.rf⟩
      · refine r_aload_n dX5_copy_39 rfl ?_
        refine r_ldcw kX5_291 dX5_copy_40 ?_
        refine r_v1r (Y_finds 5 (by decide) (by decide)) (Nat.le_of_ble_eq_true rfl) mrX5_finds lkX5_66 rfl rfl rfl dX5_copy_43 (Nat.le_of_ble_eq_true rfl) ?_
        refine r_iret dX5_copy_46 rfl rfl ?_ ?_
        · first | (rw [if_pos c27]; rfl) | (rw [if_neg c27, if_pos c36]; rfl)
        · first | (rw [if_pos c27]; exact ⟨ks, ot, as, fl, a, b, v, w, mv, hk, HE.rf⟩) | (rw [if_neg c27, if_pos c36]; exact ⟨ks, ot, as, fl, a, b, v, w, mv, hk, HE.rf⟩)
  refine r_iload_n dX5_copy_0 rfl ?_
  refine r_s1r M_isOne (Nat.le_of_ble_eq_true rfl) mrX5_isOne lkX5_287 dX5_copy_1 (Nat.le_of_ble_eq_true rfl) ?_
  refine r_if_eqB 14 dX5_copy_4 (by decide) (fun c4 => ?_) (fun c4 => ?_)
  · refine r_aload_n dX5_copy_14 rfl ?_
    refine r_ldc kX5_41 dX5_copy_15 ?_
    refine r_v1r (Y_finds 0 (by decide) (by decide)) (Nat.le_of_ble_eq_true rfl) mrX5_finds lkX5_66 rfl rfl rfl dX5_copy_17 (Nat.le_of_ble_eq_true rfl) ?_
    refine r_iret dX5_copy_20 rfl rfl ?_ ?_
    · first | (rw [o_copy, c4]; rfl) | (rw [o_copy, c4, c11]; rfl)
    · first | (rw [o_copy, c4]; exact ⟨ks, ot, as, fl, a, b, v, w, mv, hk, HE.rf⟩) | (rw [o_copy, c4, c11]; exact ⟨ks, ot, as, fl, a, b, v, w, mv, hk, HE.rf⟩)
  · refine r_iload_n dX5_copy_7 rfl ?_
    refine r_s1r M_isOne (Nat.le_of_ble_eq_true rfl) mrX5_isOne lkX5_287 dX5_copy_8 (Nat.le_of_ble_eq_true rfl) ?_
    refine r_if_neB 21 dX5_copy_11 (by decide) (fun c11 => ?_) (fun c11 => ?_)
    · obtain ⟨i, -, hi, rfl⟩ := inR_of c4 (by decide) (by decide)
      obtain ⟨j, -, hj, rfl⟩ := inR_of c11 (by decide) (by decide)
      exact G i (by omega) j (by omega) c4 c11
    · refine r_aload_n dX5_copy_14 rfl ?_
      refine r_ldc kX5_41 dX5_copy_15 ?_
      refine r_v1r (Y_finds 0 (by decide) (by decide)) (Nat.le_of_ble_eq_true rfl) mrX5_finds lkX5_66 rfl rfl rfl dX5_copy_17 (Nat.le_of_ble_eq_true rfl) ?_
      refine r_iret dX5_copy_20 rfl rfl ?_ ?_
      · first | (rw [o_copy, c4]; rfl) | (rw [o_copy, c4, c11]; rfl)
      · first | (rw [o_copy, c4]; exact ⟨ks, ot, as, fl, a, b, v, w, mv, hk, HE.rf⟩) | (rw [o_copy, c4, c11]; exact ⟨ks, ot, as, fl, a, b, v, w, mv, hk, HE.rf⟩)

