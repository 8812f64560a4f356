/-! sheets: copy, lays, book, read of the class -/
def o_copy (L : GS) (x f y t m : Int32) : Int32 × GS := match inR x (nI 0) (nI 3) with
  | false => bndL L 0
  | true => match inR y (nI 0) (nI 3) with
    | false => bndL L 0
    | true => if (L.2.2 (tn x)).1 = 0 then bndL L 5 else if (L.2.2 (tn y)).1 = 0 then bndL L 5 else if (L.2.2 (tn x)).1 = (L.2.2 (tn y)).1 then (match spn (tn (L.2.2 (tn x)).2.1) f m with
      | false => bndL L 0
      | true => match spn (tn (L.2.2 (tn y)).2.1) t m with
        | false => bndL L 0
        | true => (m, L.1, L.2.1, updZ L.2.2 (tn y) ((L.2.2 (tn y)).1, (L.2.2 (tn y)).2.1, va_cpy (L.2.2 (tn x)).2.2 (L.2.2 (tn y)).2.2 (tn f) (tn t) (tn m)))) else bndL L 2
theorem spn_of {z : Nat} {f m : Int32} (hz : z ≤ 40) (h : spn z f m = true) : ¬ f < 0 ∧ ¬ m < 0 ∧ f.toNatClampNeg + m.toNatClampNeg ≤ z := by
  simp only [spn, Bool.and_eq_true, decide_eq_true_eq] at h
  have a := Int32.le_iff_toInt_le.mp h.1
  have b := Int32.le_iff_toInt_le.mp h.2.1
  have c := h.2.2
  rw [show (0 : Int32).toInt = 0 from rfl] at a b
  refine ⟨Int32.not_lt.mpr h.1, Int32.not_lt.mpr h.2.1, ?_⟩
  show f.toInt.toNat + m.toInt.toNat ≤ z
  omega
theorem X_copy {R K : RS} {kp : Bool} {tc : Nat → Int32} {n : Nat} {T : Nat → Nat} {Z : Nat → SHT} {A : RS} {f1 f2 f3 tok : Int32} {s b : Nat} {nu : Int32} {x f y t m : Int32} (hZ : wfZ Z) : SpQ 11 mX4_copy [.ref 0, .int x, .int f, .int y, .int t, .int m] (hX R K kp tc n T Z A f1 f2 f3 tok s b nu) (some (.int (o_copy ((R, K, kp, tc), (n, T), Z) x f y t m).1)) (qX (o_copy ((R, K, kp, tc), (n, T), Z) x f y t m).2) := by
  refine SpQ.of [some (.ref 0), some (.int x), some (.int f), some (.int y), some (.int t), some (.int m), none, none] mrX4_copy.1 (fun _ q => qX_len q) (Nat.le_of_ble_eq_true rfl) rfl (fun X => ?_)
  have e0 : ∀ i, i < 100 → tn (nI i) = i := fun i hi => nI_clamp (by omega)
  have G : ∀ i, i < 4 → ∀ j, j < 4 → inR (nI i) (nI 0) (nI 3) = true → inR (nI j) (nI 0) (nI 3) = true → RunQ X 11 mX4_copy 21 [some (.ref 0), some (.int (nI i)), some (.int f), some (.int (nI j)), some (.int t), some (.int m), none, none] [] (hX R K kp tc n T Z A f1 f2 f3 tok s b nu) (some (.int (o_copy ((R, K, kp, tc), (n, T), Z) (nI i) f (nI j) t m).1)) (qX (o_copy ((R, K, kp, tc), (n, T), Z) (nI i) f (nI j) t m).2) := by
    intro i hi j hj c4 c11
    obtain ⟨z, hz, ez⟩ := hZ i hi
    obtain ⟨w, hw, ew⟩ := hZ j hj
    rw [o_copy, c4, c11]
    dsimp only
    have t1 : tn (Z i).2.1 = z := by rw [ez]; exact e0 z (by omega)
    have t2 : tn (Z j).2.1 = w := by rw [ew]; exact e0 w (by omega)
    rw [e0 i (by omega), e0 j (by omega), t1, t2]
    rcases (show i = 0 ∨ i = 1 ∨ i = 2 ∨ i = 3 by omega) with rfl | rfl | rfl | rfl
    · rcases (show j = 0 ∨ j = 1 ∨ j = 2 ∨ j = 3 by omega) with rfl | rfl | rfl | rfl
      · refine r_aload_n dX4_copy_21 rfl ?_
        refine r_getfield dX4_copy_22 gfX4_31 rfl rfl ?_
        refine r_iload_n dX4_copy_25 rfl ?_
        refine r_aaldN dX4_copy_26 rfl (by first | decide | omega) (Nat.le_of_ble_eq_true rfl) rfl ?_
        refine r_astore (lv' := [_, _, _, _, _, _, _, _]) dX4_copy_27 (by decide) rfl ?_
        refine r_aload_n dX4_copy_29 rfl ?_
        refine r_getfield dX4_copy_30 gfX4_31 rfl rfl ?_
        refine r_iload_n dX4_copy_33 rfl ?_
        refine r_aaldN dX4_copy_34 rfl (by first | decide | omega) (Nat.le_of_ble_eq_true rfl) rfl ?_
        refine r_astore (lv' := [_, _, _, _, _, _, _, _]) dX4_copy_35 (by decide) rfl ?_
        refine r_aload dX4_copy_37 rfl ?_
        refine r_v0r Z_isMissing0 (Nat.le_of_ble_eq_true rfl) mrX2_isMissing lkX4_194 rfl rfl rfl dX4_copy_39 (Nat.le_of_ble_eq_true rfl) ?_
        refine r_if_neB 53 dX4_copy_42 (by decide) (fun c42 => ?_) (fun c42 => ?_)
        · refine r_aload_n dX4_copy_53 rfl ?_
          refine r_ldc kX4_197 dX4_copy_54 ?_
          refine r_v1r (Z_tell 5 (by decide) (by decide)) (Nat.le_of_ble_eq_true rfl) mrX4_tell lkX4_46 rfl rfl rfl dX4_copy_56 (Nat.le_of_ble_eq_true rfl) ?_
          refine r_iret dX4_copy_59 rfl rfl ?_ ?_
          · first | (rw [if_pos (of_decide_eq_true c42)]; rfl) | (rw [if_neg (of_decide_eq_false c42), if_pos (of_decide_eq_true c50)]; rfl)
          · first | (rw [if_pos (of_decide_eq_true c42)]; exact ⟨A, f1, f2, f3, tok, s, b, nu, HE.rf⟩) | (rw [if_neg (of_decide_eq_false c42), if_pos (of_decide_eq_true c50)]; exact ⟨A, f1, f2, f3, tok, s, b, nu, HE.rf⟩)
        · refine r_aload dX4_copy_45 rfl ?_
          refine r_v0r Z_isMissing0 (Nat.le_of_ble_eq_true rfl) mrX2_isMissing lkX4_194 rfl rfl rfl dX4_copy_47 (Nat.le_of_ble_eq_true rfl) ?_
          refine r_if_eqB 60 dX4_copy_50 (by decide) (fun c50 => ?_) (fun c50 => ?_)
          · refine r_aload dX4_copy_60 rfl ?_
            refine r_getfield dX4_copy_62 gfX4_205 rfl rfl ?_
            refine r_aload dX4_copy_65 rfl ?_
            refine r_getfield dX4_copy_67 gfX4_205 rfl rfl ?_
            refine r_icmp_eq 80 dX4_copy_70 (by decide) (fun c70 => ?_) (fun c70 => ?_)
            · refine r_aload dX4_copy_80 rfl ?_
              refine r_iload_n dX4_copy_82 rfl ?_
              refine r_iload dX4_copy_83 rfl ?_
              refine r_v2r (Z_spans0 ez hz) (Nat.le_of_ble_eq_true rfl) mrX2_spans lkX4_208 rfl rfl rfl dX4_copy_85 (Nat.le_of_ble_eq_true rfl) ?_
              refine r_if_eqB 103 dX4_copy_88 (by decide) (fun c88 => ?_) (fun c88 => ?_)
              · refine r_aload_n dX4_copy_103 rfl ?_
                refine r_ldc kX4_45 dX4_copy_104 ?_
                refine r_v1r (Z_tell 0 (by decide) (by decide)) (Nat.le_of_ble_eq_true rfl) mrX4_tell lkX4_46 rfl rfl rfl dX4_copy_106 (Nat.le_of_ble_eq_true rfl) ?_
                refine r_iret dX4_copy_109 rfl rfl ?_ ?_
                · first | (rw [if_neg (of_decide_eq_false c42), if_neg (of_decide_eq_false c50), if_pos c70, c88]; rfl) | (rw [if_neg (of_decide_eq_false c42), if_neg (of_decide_eq_false c50), if_pos c70, c88, c100]; rfl)
                · first | (rw [if_neg (of_decide_eq_false c42), if_neg (of_decide_eq_false c50), if_pos c70, c88]; exact ⟨A, f1, f2, f3, tok, s, b, nu, HE.rf⟩) | (rw [if_neg (of_decide_eq_false c42), if_neg (of_decide_eq_false c50), if_pos c70, c88, c100]; exact ⟨A, f1, f2, f3, tok, s, b, nu, HE.rf⟩)
              · refine r_aload dX4_copy_91 rfl ?_
                refine r_iload dX4_copy_93 rfl ?_
                refine r_iload dX4_copy_95 rfl ?_
                refine r_v2r (Z_spans0 ew hw) (Nat.le_of_ble_eq_true rfl) mrX2_spans lkX4_208 rfl rfl rfl dX4_copy_97 (Nat.le_of_ble_eq_true rfl) ?_
                refine r_if_neB 110 dX4_copy_100 (by decide) (fun c100 => ?_) (fun c100 => ?_)
                · have p1 := spn_of hz c88
                  have p2 := spn_of hw c100
                  refine r_aload dX4_copy_110 rfl ?_
                  refine r_getfield dX4_copy_112 gfX4_198 rfl rfl ?_
                  refine r_iload_n dX4_copy_115 rfl ?_
                  refine r_aload dX4_copy_116 rfl ?_
                  refine r_getfield dX4_copy_118 gfX4_198 rfl rfl ?_
                  refine r_iload dX4_copy_121 rfl ?_
                  refine r_iload dX4_copy_123 rfl ?_
                  refine r_acpl (h' := hX R K kp tc n T (updZ Z 0 ((Z 0).1, (Z 0).2.1, va_cpy (Z 0).2.2 (Z 0).2.2 (tn f) (tn t) (tn m))) A f1 f2 f3 tok s b nu) cpL dX4_copy_125 (by decide) rfl rfl rfl p1.1 p2.1 p1.2.1 (by omega) (by omega) rfl ?_
                  refine r_iload dX4_copy_128 rfl ?_
                  refine r_iret dX4_copy_130 rfl rfl ?_ ?_
                  · rw [if_neg (of_decide_eq_false c42), if_neg (of_decide_eq_false c50), if_pos c70, c88, c100]
                  · rw [if_neg (of_decide_eq_false c42), if_neg (of_decide_eq_false c50), if_pos c70, c88, c100]
                    exact ⟨A, f1, f2, f3, tok, s, b, nu, HE.rf⟩
                · refine r_aload_n dX4_copy_103 rfl ?_
                  refine r_ldc kX4_45 dX4_copy_104 ?_
                  refine r_v1r (Z_tell 0 (by decide) (by decide)) (Nat.le_of_ble_eq_true rfl) mrX4_tell lkX4_46 rfl rfl rfl dX4_copy_106 (Nat.le_of_ble_eq_true rfl) ?_
                  refine r_iret dX4_copy_109 rfl rfl ?_ ?_
                  · first | (rw [if_neg (of_decide_eq_false c42), if_neg (of_decide_eq_false c50), if_pos c70, c88]; rfl) | (rw [if_neg (of_decide_eq_false c42), if_neg (of_decide_eq_false c50), if_pos c70, c88, c100]; rfl)
                  · first | (rw [if_neg (of_decide_eq_false c42), if_neg (of_decide_eq_false c50), if_pos c70, c88]; exact ⟨A, f1, f2, f3, tok, s, b, nu, HE.rf⟩) | (rw [if_neg (of_decide_eq_false c42), if_neg (of_decide_eq_false c50), if_pos c70, c88, c100]; exact ⟨A, f1, f2, f3, tok, s, b, nu, HE.rf⟩)
            · refine r_aload_n dX4_copy_73 rfl ?_
              refine r_ldc kX4_134 dX4_copy_74 ?_
              refine r_v1r (Z_tell 2 (by decide) (by decide)) (Nat.le_of_ble_eq_true rfl) mrX4_tell lkX4_46 rfl rfl rfl dX4_copy_76 (Nat.le_of_ble_eq_true rfl) ?_
              refine r_iret dX4_copy_79 rfl rfl ?_ ?_
              · rw [if_neg (of_decide_eq_false c42), if_neg (of_decide_eq_false c50), if_neg c70]; rfl
              · rw [if_neg (of_decide_eq_false c42), if_neg (of_decide_eq_false c50), if_neg c70]
                exact ⟨A, f1, f2, f3, tok, s, b, nu, HE.rf⟩
          · refine r_aload_n dX4_copy_53 rfl ?_
            refine r_ldc kX4_197 dX4_copy_54 ?_
            refine r_v1r (Z_tell 5 (by decide) (by decide)) (Nat.le_of_ble_eq_true rfl) mrX4_tell lkX4_46 rfl rfl rfl dX4_copy_56 (Nat.le_of_ble_eq_true rfl) ?_
            refine r_iret dX4_copy_59 rfl rfl ?_ ?_
            · first | (rw [if_pos (of_decide_eq_true c42)]; rfl) | (rw [if_neg (of_decide_eq_false c42), if_pos (of_decide_eq_true c50)]; rfl)
            · first | (rw [if_pos (of_decide_eq_true c42)]; exact ⟨A, f1, f2, f3, tok, s, b, nu, HE.rf⟩) | (rw [if_neg (of_decide_eq_false c42), if_pos (of_decide_eq_true c50)]; exact ⟨A, f1, f2, f3, tok, s, b, nu, HE.rf⟩)
      · refine r_aload_n dX4_copy_21 rfl ?_
        refine r_getfield dX4_copy_22 gfX4_31 rfl rfl ?_
        refine r_iload_n dX4_copy_25 rfl ?_
        refine r_aaldN dX4_copy_26 rfl (by first | decide | omega) (Nat.le_of_ble_eq_true rfl) rfl ?_
        refine r_astore (lv' := [_, _, _, _, _, _, _, _]) dX4_copy_27 (by decide) rfl ?_
        refine r_aload_n dX4_copy_29 rfl ?_
        refine r_getfield dX4_copy_30 gfX4_31 rfl rfl ?_
        refine r_iload_n dX4_copy_33 rfl ?_
        refine r_aaldN dX4_copy_34 rfl (by first | decide | omega) (Nat.le_of_ble_eq_true rfl) rfl ?_
        refine r_astore (lv' := [_, _, _, _, _, _, _, _]) dX4_copy_35 (by decide) rfl ?_
        refine r_aload dX4_copy_37 rfl ?_
        refine r_v0r Z_isMissing0 (Nat.le_of_ble_eq_true rfl) mrX2_isMissing lkX4_194 rfl rfl rfl dX4_copy_39 (Nat.le_of_ble_eq_true rfl) ?_
        refine r_if_neB 53 dX4_copy_42 (by decide) (fun c42 => ?_) (fun c42 => ?_)
        · refine r_aload_n dX4_copy_53 rfl ?_
          refine r_ldc kX4_197 dX4_copy_54 ?_
          refine r_v1r (Z_tell 5 (by decide) (by decide)) (Nat.le_of_ble_eq_true rfl) mrX4_tell lkX4_46 rfl rfl rfl dX4_copy_56 (Nat.le_of_ble_eq_true rfl) ?_
          refine r_iret dX4_copy_59 rfl rfl ?_ ?_
          · first | (rw [if_pos (of_decide_eq_true c42)]; rfl) | (rw [if_neg (of_decide_eq_false c42), if_pos (of_decide_eq_true c50)]; rfl)
          · first | (rw [if_pos (of_decide_eq_true c42)]; exact ⟨A, f1, f2, f3, tok, s, b, nu, HE.rf⟩) | (rw [if_neg (of_decide_eq_false c42), if_pos (of_decide_eq_true c50)]; exact ⟨A, f1, f2, f3, tok, s, b, nu, HE.rf⟩)
        · refine r_aload dX4_copy_45 rfl ?_
          refine r_v0r Z_isMissing1 (Nat.le_of_ble_eq_true rfl) mrX2_isMissing lkX4_194 rfl rfl rfl dX4_copy_47 (Nat.le_of_ble_eq_true rfl) ?_
          refine r_if_eqB 60 dX4_copy_50 (by decide) (fun c50 => ?_) (fun c50 => ?_)
          · refine r_aload dX4_copy_60 rfl ?_
            refine r_getfield dX4_copy_62 gfX4_205 rfl rfl ?_
            refine r_aload dX4_copy_65 rfl ?_
            refine r_getfield dX4_copy_67 gfX4_205 rfl rfl ?_
            refine r_icmp_eq 80 dX4_copy_70 (by decide) (fun c70 => ?_) (fun c70 => ?_)
            · refine r_aload dX4_copy_80 rfl ?_
              refine r_iload_n dX4_copy_82 rfl ?_
              refine r_iload dX4_copy_83 rfl ?_
              refine r_v2r (Z_spans0 ez hz) (Nat.le_of_ble_eq_true rfl) mrX2_spans lkX4_208 rfl rfl rfl dX4_copy_85 (Nat.le_of_ble_eq_true rfl) ?_
              refine r_if_eqB 103 dX4_copy_88 (by decide) (fun c88 => ?_) (fun c88 => ?_)
              · refine r_aload_n dX4_copy_103 rfl ?_
                refine r_ldc kX4_45 dX4_copy_104 ?_
                refine r_v1r (Z_tell 0 (by decide) (by decide)) (Nat.le_of_ble_eq_true rfl) mrX4_tell lkX4_46 rfl rfl rfl dX4_copy_106 (Nat.le_of_ble_eq_true rfl) ?_
                refine r_iret dX4_copy_109 rfl rfl ?_ ?_
                · first | (rw [if_neg (of_decide_eq_false c42), if_neg (of_decide_eq_false c50), if_pos c70, c88]; rfl) | (rw [if_neg (of_decide_eq_false c42), if_neg (of_decide_eq_false c50), if_pos c70, c88, c100]; rfl)
                · first | (rw [if_neg (of_decide_eq_false c42), if_neg (of_decide_eq_false c50), if_pos c70, c88]; exact ⟨A, f1, f2, f3, tok, s, b, nu, HE.rf⟩) | (rw [if_neg (of_decide_eq_false c42), if_neg (of_decide_eq_false c50), if_pos c70, c88, c100]; exact ⟨A, f1, f2, f3, tok, s, b, nu, HE.rf⟩)
              · refine r_aload dX4_copy_91 rfl ?_
                refine r_iload dX4_copy_93 rfl ?_
                refine r_iload dX4_copy_95 rfl ?_
                refine r_v2r (Z_spans1 ew hw) (Nat.le_of_ble_eq_true rfl) mrX2_spans lkX4_208 rfl rfl rfl dX4_copy_97 (Nat.le_of_ble_eq_true rfl) ?_
                refine r_if_neB 110 dX4_copy_100 (by decide) (fun c100 => ?_) (fun c100 => ?_)
                · have p1 := spn_of hz c88
                  have p2 := spn_of hw c100
                  refine r_aload dX4_copy_110 rfl ?_
                  refine r_getfield dX4_copy_112 gfX4_198 rfl rfl ?_
                  refine r_iload_n dX4_copy_115 rfl ?_
                  refine r_aload dX4_copy_116 rfl ?_
                  refine r_getfield dX4_copy_118 gfX4_198 rfl rfl ?_
                  refine r_iload dX4_copy_121 rfl ?_
                  refine r_iload dX4_copy_123 rfl ?_
                  refine r_acpl (h' := hX R K kp tc n T (updZ Z 1 ((Z 1).1, (Z 1).2.1, va_cpy (Z 0).2.2 (Z 1).2.2 (tn f) (tn t) (tn m))) A f1 f2 f3 tok s b nu) cpL dX4_copy_125 (by decide) rfl rfl rfl p1.1 p2.1 p1.2.1 (by omega) (by omega) rfl ?_
                  refine r_iload dX4_copy_128 rfl ?_
                  refine r_iret dX4_copy_130 rfl rfl ?_ ?_
                  · rw [if_neg (of_decide_eq_false c42), if_neg (of_decide_eq_false c50), if_pos c70, c88, c100]
                  · rw [if_neg (of_decide_eq_false c42), if_neg (of_decide_eq_false c50), if_pos c70, c88, c100]
                    exact ⟨A, f1, f2, f3, tok, s, b, nu, HE.rf⟩
                · refine r_aload_n dX4_copy_103 rfl ?_
                  refine r_ldc kX4_45 dX4_copy_104 ?_
                  refine r_v1r (Z_tell 0 (by decide) (by decide)) (Nat.le_of_ble_eq_true rfl) mrX4_tell lkX4_46 rfl rfl rfl dX4_copy_106 (Nat.le_of_ble_eq_true rfl) ?_
                  refine r_iret dX4_copy_109 rfl rfl ?_ ?_
                  · first | (rw [if_neg (of_decide_eq_false c42), if_neg (of_decide_eq_false c50), if_pos c70, c88]; rfl) | (rw [if_neg (of_decide_eq_false c42), if_neg (of_decide_eq_false c50), if_pos c70, c88, c100]; rfl)
                  · first | (rw [if_neg (of_decide_eq_false c42), if_neg (of_decide_eq_false c50), if_pos c70, c88]; exact ⟨A, f1, f2, f3, tok, s, b, nu, HE.rf⟩) | (rw [if_neg (of_decide_eq_false c42), if_neg (of_decide_eq_false c50), if_pos c70, c88, c100]; exact ⟨A, f1, f2, f3, tok, s, b, nu, HE.rf⟩)
            · refine r_aload_n dX4_copy_73 rfl ?_
              refine r_ldc kX4_134 dX4_copy_74 ?_
              refine r_v1r (Z_tell 2 (by decide) (by decide)) (Nat.le_of_ble_eq_true rfl) mrX4_tell lkX4_46 rfl rfl rfl dX4_copy_76 (Nat.le_of_ble_eq_true rfl) ?_
              refine r_iret dX4_copy_79 rfl rfl ?_ ?_
              · rw [if_neg (of_decide_eq_false c42), if_neg (of_decide_eq_false c50), if_neg c70]; rfl
              · rw [if_neg (of_decide_eq_false c42), if_neg (of_decide_eq_false c50), if_neg c70]
                exact ⟨A, f1, f2, f3, tok, s, b, nu, HE.rf⟩
          · refine r_aload_n dX4_copy_53 rfl ?_
            refine r_ldc kX4_197 dX4_copy_54 ?_
            refine r_v1r (Z_tell 5 (by decide) (by decide)) (Nat.le_of_ble_eq_true rfl) mrX4_tell lkX4_46 rfl rfl rfl dX4_copy_56 (Nat.le_of_ble_eq_true rfl) ?_
            refine r_iret dX4_copy_59 rfl rfl ?_ ?_
            · first | (rw [if_pos (of_decide_eq_true c42)]; rfl) | (rw [if_neg (of_decide_eq_false c42), if_pos (of_decide_eq_true c50)]; rfl)
            · first | (rw [if_pos (of_decide_eq_true c42)]; exact ⟨A, f1, f2, f3, tok, s, b, nu, HE.rf⟩) | (rw [if_neg (of_decide_eq_false c42), if_pos (of_decide_eq_true c50)]; exact ⟨A, f1, f2, f3, tok, s, b, nu, HE.rf⟩)
      · refine r_aload_n dX4_copy_21 rfl ?_
        refine r_getfield dX4_copy_22 gfX4_31 rfl rfl ?_
        refine r_iload_n dX4_copy_25 rfl ?_
        refine r_aaldN dX4_copy_26 rfl (by first | decide | omega) (Nat.le_of_ble_eq_true rfl) rfl ?_
        refine r_astore (lv' := [_, _, _, _, _, _, _, _]) dX4_copy_27 (by decide) rfl ?_
        refine r_aload_n dX4_copy_29 rfl ?_
        refine r_getfield dX4_copy_30 gfX4_31 rfl rfl ?_
        refine r_iload_n dX4_copy_33 rfl ?_
        refine r_aaldN dX4_copy_34 rfl (by first | decide | omega) (Nat.le_of_ble_eq_true rfl) rfl ?_
        refine r_astore (lv' := [_, _, _, _, _, _, _, _]) dX4_copy_35 (by decide) rfl ?_
        refine r_aload dX4_copy_37 rfl ?_
        refine r_v0r Z_isMissing0 (Nat.le_of_ble_eq_true rfl) mrX2_isMissing lkX4_194 rfl rfl rfl dX4_copy_39 (Nat.le_of_ble_eq_true rfl) ?_
        refine r_if_neB 53 dX4_copy_42 (by decide) (fun c42 => ?_) (fun c42 => ?_)
        · refine r_aload_n dX4_copy_53 rfl ?_
          refine r_ldc kX4_197 dX4_copy_54 ?_
          refine r_v1r (Z_tell 5 (by decide) (by decide)) (Nat.le_of_ble_eq_true rfl) mrX4_tell lkX4_46 rfl rfl rfl dX4_copy_56 (Nat.le_of_ble_eq_true rfl) ?_
          refine r_iret dX4_copy_59 rfl rfl ?_ ?_
          · first | (rw [if_pos (of_decide_eq_true c42)]; rfl) | (rw [if_neg (of_decide_eq_false c42), if_pos (of_decide_eq_true c50)]; rfl)
          · first | (rw [if_pos (of_decide_eq_true c42)]; exact ⟨A, f1, f2, f3, tok, s, b, nu, HE.rf⟩) | (rw [if_neg (of_decide_eq_false c42), if_pos (of_decide_eq_true c50)]; exact ⟨A, f1, f2, f3, tok, s, b, nu, HE.rf⟩)
        · refine r_aload dX4_copy_45 rfl ?_
          refine r_v0r Z_isMissing2 (Nat.le_of_ble_eq_true rfl) mrX2_isMissing lkX4_194 rfl rfl rfl dX4_copy_47 (Nat.le_of_ble_eq_true rfl) ?_
          refine r_if_eqB 60 dX4_copy_50 (by decide) (fun c50 => ?_) (fun c50 => ?_)
          · refine r_aload dX4_copy_60 rfl ?_
            refine r_getfield dX4_copy_62 gfX4_205 rfl rfl ?_
            refine r_aload dX4_copy_65 rfl ?_
            refine r_getfield dX4_copy_67 gfX4_205 rfl rfl ?_
            refine r_icmp_eq 80 dX4_copy_70 (by decide) (fun c70 => ?_) (fun c70 => ?_)
            · refine r_aload dX4_copy_80 rfl ?_
              refine r_iload_n dX4_copy_82 rfl ?_
              refine r_iload dX4_copy_83 rfl ?_
              refine r_v2r (Z_spans0 ez hz) (Nat.le_of_ble_eq_true rfl) mrX2_spans lkX4_208 rfl rfl rfl dX4_copy_85 (Nat.le_of_ble_eq_true rfl) ?_
              refine r_if_eqB 103 dX4_copy_88 (by decide) (fun c88 => ?_) (fun c88 => ?_)
              · refine r_aload_n dX4_copy_103 rfl ?_
                refine r_ldc kX4_45 dX4_copy_104 ?_
                refine r_v1r (Z_tell 0 (by decide) (by decide)) (Nat.le_of_ble_eq_true rfl) mrX4_tell lkX4_46 rfl rfl rfl dX4_copy_106 (Nat.le_of_ble_eq_true rfl) ?_
                refine r_iret dX4_copy_109 rfl rfl ?_ ?_
                · first | (rw [if_neg (of_decide_eq_false c42), if_neg (of_decide_eq_false c50), if_pos c70, c88]; rfl) | (rw [if_neg (of_decide_eq_false c42), if_neg (of_decide_eq_false c50), if_pos c70, c88, c100]; rfl)
                · first | (rw [if_neg (of_decide_eq_false c42), if_neg (of_decide_eq_false c50), if_pos c70, c88]; exact ⟨A, f1, f2, f3, tok, s, b, nu, HE.rf⟩) | (rw [if_neg (of_decide_eq_false c42), if_neg (of_decide_eq_false c50), if_pos c70, c88, c100]; exact ⟨A, f1, f2, f3, tok, s, b, nu, HE.rf⟩)
              · refine r_aload dX4_copy_91 rfl ?_
                refine r_iload dX4_copy_93 rfl ?_
                refine r_iload dX4_copy_95 rfl ?_
                refine r_v2r (Z_spans2 ew hw) (Nat.le_of_ble_eq_true rfl) mrX2_spans lkX4_208 rfl rfl rfl dX4_copy_97 (Nat.le_of_ble_eq_true rfl) ?_
                refine r_if_neB 110 dX4_copy_100 (by decide) (fun c100 => ?_) (fun c100 => ?_)
                · have p1 := spn_of hz c88
                  have p2 := spn_of hw c100
                  refine r_aload dX4_copy_110 rfl ?_
                  refine r_getfield dX4_copy_112 gfX4_198 rfl rfl ?_
                  refine r_iload_n dX4_copy_115 rfl ?_
                  refine r_aload dX4_copy_116 rfl ?_
                  refine r_getfield dX4_copy_118 gfX4_198 rfl rfl ?_
                  refine r_iload dX4_copy_121 rfl ?_
                  refine r_iload dX4_copy_123 rfl ?_
                  refine r_acpl (h' := hX R K kp tc n T (updZ Z 2 ((Z 2).1, (Z 2).2.1, va_cpy (Z 0).2.2 (Z 2).2.2 (tn f) (tn t) (tn m))) A f1 f2 f3 tok s b nu) cpL dX4_copy_125 (by decide) rfl rfl rfl p1.1 p2.1 p1.2.1 (by omega) (by omega) rfl ?_
                  refine r_iload dX4_copy_128 rfl ?_
                  refine r_iret dX4_copy_130 rfl rfl ?_ ?_
                  · rw [if_neg (of_decide_eq_false c42), if_neg (of_decide_eq_false c50), if_pos c70, c88, c100]
                  · rw [if_neg (of_decide_eq_false c42), if_neg (of_decide_eq_false c50), if_pos c70, c88, c100]
                    exact ⟨A, f1, f2, f3, tok, s, b, nu, HE.rf⟩
                · refine r_aload_n dX4_copy_103 rfl ?_
                  refine r_ldc kX4_45 dX4_copy_104 ?_
                  refine r_v1r (Z_tell 0 (by decide) (by decide)) (Nat.le_of_ble_eq_true rfl) mrX4_tell lkX4_46 rfl rfl rfl dX4_copy_106 (Nat.le_of_ble_eq_true rfl) ?_
                  refine r_iret dX4_copy_109 rfl rfl ?_ ?_
                  · first | (rw [if_neg (of_decide_eq_false c42), if_neg (of_decide_eq_false c50), if_pos c70, c88]; rfl) | (rw [if_neg (of_decide_eq_false c42), if_neg (of_decide_eq_false c50), if_pos c70, c88, c100]; rfl)
                  · first | (rw [if_neg (of_decide_eq_false c42), if_neg (of_decide_eq_false c50), if_pos c70, c88]; exact ⟨A, f1, f2, f3, tok, s, b, nu, HE.rf⟩) | (rw [if_neg (of_decide_eq_false c42), if_neg (of_decide_eq_false c50), if_pos c70, c88, c100]; exact ⟨A, f1, f2, f3, tok, s, b, nu, HE.rf⟩)
            · refine r_aload_n dX4_copy_73 rfl ?_
              refine r_ldc kX4_134 dX4_copy_74 ?_
              refine r_v1r (Z_tell 2 (by decide) (by decide)) (Nat.le_of_ble_eq_true rfl) mrX4_tell lkX4_46 rfl rfl rfl dX4_copy_76 (Nat.le_of_ble_eq_true rfl) ?_
              refine r_iret dX4_copy_79 rfl rfl ?_ ?_
              · rw [if_neg (of_decide_eq_false c42), if_neg (of_decide_eq_false c50), if_neg c70]; rfl
              · rw [if_neg (of_decide_eq_false c42), if_neg (of_decide_eq_false c50), if_neg c70]
                exact ⟨A, f1, f2, f3, tok, s, b, nu, HE.rf⟩
          · refine r_aload_n dX4_copy_53 rfl ?_
            refine r_ldc kX4_197 dX4_copy_54 ?_
            refine r_v1r (Z_tell 5 (by decide) (by decide)) (Nat.le_of_ble_eq_true rfl) mrX4_tell lkX4_46 rfl rfl rfl dX4_copy_56 (Nat.le_of_ble_eq_true rfl) ?_
            refine r_iret dX4_copy_59 rfl rfl ?_ ?_
            · first | (rw [if_pos (of_decide_eq_true c42)]; rfl) | (rw [if_neg (of_decide_eq_false c42), if_pos (of_decide_eq_true c50)]; rfl)
            · first | (rw [if_pos (of_decide_eq_true c42)]; exact ⟨A, f1, f2, f3, tok, s, b, nu, HE.rf⟩) | (rw [if_neg (of_decide_eq_false c42), if_pos (of_decide_eq_true c50)]; exact ⟨A, f1, f2, f3, tok, s, b, nu, HE.rf⟩)
      · refine r_aload_n dX4_copy_21 rfl ?_
        refine r_getfield dX4_copy_22 gfX4_31 rfl rfl ?_
        refine r_iload_n dX4_copy_25 rfl ?_
        refine r_aaldN dX4_copy_26 rfl (by first | decide | omega) (Nat.le_of_ble_eq_true rfl) rfl ?_
        refine r_astore (lv' := [_, _, _, _, _, _, _, _]) dX4_copy_27 (by decide) rfl ?_
        refine r_aload_n dX4_copy_29 rfl ?_
        refine r_getfield dX4_copy_30 gfX4_31 rfl rfl ?_
        refine r_iload_n dX4_copy_33 rfl ?_
        refine r_aaldN dX4_copy_34 rfl (by first | decide | omega) (Nat.le_of_ble_eq_true rfl) rfl ?_
        refine r_astore (lv' := [_, _, _, _, _, _, _, _]) dX4_copy_35 (by decide) rfl ?_
        refine r_aload dX4_copy_37 rfl ?_
        refine r_v0r Z_isMissing0 (Nat.le_of_ble_eq_true rfl) mrX2_isMissing lkX4_194 rfl rfl rfl dX4_copy_39 (Nat.le_of_ble_eq_true rfl) ?_
        refine r_if_neB 53 dX4_copy_42 (by decide) (fun c42 => ?_) (fun c42 => ?_)
        · refine r_aload_n dX4_copy_53 rfl ?_
          refine r_ldc kX4_197 dX4_copy_54 ?_
          refine r_v1r (Z_tell 5 (by decide) (by decide)) (Nat.le_of_ble_eq_true rfl) mrX4_tell lkX4_46 rfl rfl rfl dX4_copy_56 (Nat.le_of_ble_eq_true rfl) ?_
          refine r_iret dX4_copy_59 rfl rfl ?_ ?_
          · first | (rw [if_pos (of_decide_eq_true c42)]; rfl) | (rw [if_neg (of_decide_eq_false c42), if_pos (of_decide_eq_true c50)]; rfl)
          · first | (rw [if_pos (of_decide_eq_true c42)]; exact ⟨A, f1, f2, f3, tok, s, b, nu, HE.rf⟩) | (rw [if_neg (of_decide_eq_false c42), if_pos (of_decide_eq_true c50)]; exact ⟨A, f1, f2, f3, tok, s, b, nu, HE.rf⟩)
        · refine r_aload dX4_copy_45 rfl ?_
          refine r_v0r Z_isMissing3 (Nat.le_of_ble_eq_true rfl) mrX2_isMissing lkX4_194 rfl rfl rfl dX4_copy_47 (Nat.le_of_ble_eq_true rfl) ?_
          refine r_if_eqB 60 dX4_copy_50 (by decide) (fun c50 => ?_) (fun c50 => ?_)
          · refine r_aload dX4_copy_60 rfl ?_
            refine r_getfield dX4_copy_62 gfX4_205 rfl rfl ?_
            refine r_aload dX4_copy_65 rfl ?_
            refine r_getfield dX4_copy_67 gfX4_205 rfl rfl ?_
            refine r_icmp_eq 80 dX4_copy_70 (by decide) (fun c70 => ?_) (fun c70 => ?_)
            · refine r_aload dX4_copy_80 rfl ?_
              refine r_iload_n dX4_copy_82 rfl ?_
              refine r_iload dX4_copy_83 rfl ?_
              refine r_v2r (Z_spans0 ez hz) (Nat.le_of_ble_eq_true rfl) mrX2_spans lkX4_208 rfl rfl rfl dX4_copy_85 (Nat.le_of_ble_eq_true rfl) ?_
              refine r_if_eqB 103 dX4_copy_88 (by decide) (fun c88 => ?_) (fun c88 => ?_)
              · refine r_aload_n dX4_copy_103 rfl ?_
                refine r_ldc kX4_45 dX4_copy_104 ?_
                refine r_v1r (Z_tell 0 (by decide) (by decide)) (Nat.le_of_ble_eq_true rfl) mrX4_tell lkX4_46 rfl rfl rfl dX4_copy_106 (Nat.le_of_ble_eq_true rfl) ?_
                refine r_iret dX4_copy_109 rfl rfl ?_ ?_
                · first | (rw [if_neg (of_decide_eq_false c42), if_neg (of_decide_eq_false c50), if_pos c70, c88]; rfl) | (rw [if_neg (of_decide_eq_false c42), if_neg (of_decide_eq_false c50), if_pos c70, c88, c100]; rfl)
                · first | (rw [if_neg (of_decide_eq_false c42), if_neg (of_decide_eq_false c50), if_pos c70, c88]; exact ⟨A, f1, f2, f3, tok, s, b, nu, HE.rf⟩) | (rw [if_neg (of_decide_eq_false c42), if_neg (of_decide_eq_false c50), if_pos c70, c88, c100]; exact ⟨A, f1, f2, f3, tok, s, b, nu, HE.rf⟩)
              · refine r_aload dX4_copy_91 rfl ?_
                refine r_iload dX4_copy_93 rfl ?_
                refine r_iload dX4_copy_95 rfl ?_
                refine r_v2r (Z_spans3 ew hw) (Nat.le_of_ble_eq_true rfl) mrX2_spans lkX4_208 rfl rfl rfl dX4_copy_97 (Nat.le_of_ble_eq_true rfl) ?_
                refine r_if_neB 110 dX4_copy_100 (by decide) (fun c100 => ?_) (fun c100 => ?_)
                · have p1 := spn_of hz c88
                  have p2 := spn_of hw c100
                  refine r_aload dX4_copy_110 rfl ?_
                  refine r_getfield dX4_copy_112 gfX4_198 rfl rfl ?_
                  refine r_iload_n dX4_copy_115 rfl ?_
                  refine r_aload dX4_copy_116 rfl ?_
                  refine r_getfield dX4_copy_118 gfX4_198 rfl rfl ?_
                  refine r_iload dX4_copy_121 rfl ?_
                  refine r_iload dX4_copy_123 rfl ?_
                  refine r_acpl (h' := hX R K kp tc n T (updZ Z 3 ((Z 3).1, (Z 3).2.1, va_cpy (Z 0).2.2 (Z 3).2.2 (tn f) (tn t) (tn m))) A f1 f2 f3 tok s b nu) cpL dX4_copy_125 (by decide) rfl rfl rfl p1.1 p2.1 p1.2.1 (by omega) (by omega) rfl ?_
                  refine r_iload dX4_copy_128 rfl ?_
                  refine r_iret dX4_copy_130 rfl rfl ?_ ?_
                  · rw [if_neg (of_decide_eq_false c42), if_neg (of_decide_eq_false c50), if_pos c70, c88, c100]
                  · rw [if_neg (of_decide_eq_false c42), if_neg (of_decide_eq_false c50), if_pos c70, c88, c100]
                    exact ⟨A, f1, f2, f3, tok, s, b, nu, HE.rf⟩
                · refine r_aload_n dX4_copy_103 rfl ?_
                  refine r_ldc kX4_45 dX4_copy_104 ?_
                  refine r_v1r (Z_tell 0 (by decide) (by decide)) (Nat.le_of_ble_eq_true rfl) mrX4_tell lkX4_46 rfl rfl rfl dX4_copy_106 (Nat.le_of_ble_eq_true rfl) ?_
                  refine r_iret dX4_copy_109 rfl rfl ?_ ?_
                  · first | (rw [if_neg (of_decide_eq_false c42), if_neg (of_decide_eq_false c50), if_pos c70, c88]; rfl) | (rw [if_neg (of_decide_eq_false c42), if_neg (of_decide_eq_false c50), if_pos c70, c88, c100]; rfl)
                  · first | (rw [if_neg (of_decide_eq_false c42), if_neg (of_decide_eq_false c50), if_pos c70, c88]; exact ⟨A, f1, f2, f3, tok, s, b, nu, HE.rf⟩) | (rw [if_neg (of_decide_eq_false c42), if_neg (of_decide_eq_false c50), if_pos c70, c88, c100]; exact ⟨A, f1, f2, f3, tok, s, b, nu, HE.rf⟩)
            · refine r_aload_n dX4_copy_73 rfl ?_
              refine r_ldc kX4_134 dX4_copy_74 ?_
              refine r_v1r (Z_tell 2 (by decide) (by decide)) (Nat.le_of_ble_eq_true rfl) mrX4_tell lkX4_46 rfl rfl rfl dX4_copy_76 (Nat.le_of_ble_eq_true rfl) ?_
              refine r_iret dX4_copy_79 rfl rfl ?_ ?_
              · rw [if_neg (of_decide_eq_false c42), if_neg (of_decide_eq_false c50), if_neg c70]; rfl
              · rw [if_neg (of_decide_eq_false c42), if_neg (of_decide_eq_false c50), if_neg c70]
                exact ⟨A, f1, f2, f3, tok, s, b, nu, HE.rf⟩
          · refine r_aload_n dX4_copy_53 rfl ?_
            refine r_ldc kX4_197 dX4_copy_54 ?_
            refine r_v1r (Z_tell 5 (by decide) (by decide)) (Nat.le_of_ble_eq_true rfl) mrX4_tell lkX4_46 rfl rfl rfl dX4_copy_56 (Nat.le_of_ble_eq_true rfl) ?_
            refine r_iret dX4_copy_59 rfl rfl ?_ ?_
            · first | (rw [if_pos (of_decide_eq_true c42)]; rfl) | (rw [if_neg (of_decide_eq_false c42), if_pos (of_decide_eq_true c50)]; rfl)
            · first | (rw [if_pos (of_decide_eq_true c42)]; exact ⟨A, f1, f2, f3, tok, s, b, nu, HE.rf⟩) | (rw [if_neg (of_decide_eq_false c42), if_pos (of_decide_eq_true c50)]; exact ⟨A, f1, f2, f3, tok, s, b, nu, HE.rf⟩)
    · rcases (show j = 0 ∨ j = 1 ∨ j = 2 ∨ j = 3 by omega) with rfl | rfl | rfl | rfl
      · refine r_aload_n dX4_copy_21 rfl ?_
        refine r_getfield dX4_copy_22 gfX4_31 rfl rfl ?_
        refine r_iload_n dX4_copy_25 rfl ?_
        refine r_aaldN dX4_copy_26 rfl (by first | decide | omega) (Nat.le_of_ble_eq_true rfl) rfl ?_
        refine r_astore (lv' := [_, _, _, _, _, _, _, _]) dX4_copy_27 (by decide) rfl ?_
        refine r_aload_n dX4_copy_29 rfl ?_
        refine r_getfield dX4_copy_30 gfX4_31 rfl rfl ?_
        refine r_iload_n dX4_copy_33 rfl ?_
        refine r_aaldN dX4_copy_34 rfl (by first | decide | omega) (Nat.le_of_ble_eq_true rfl) rfl ?_
        refine r_astore (lv' := [_, _, _, _, _, _, _, _]) dX4_copy_35 (by decide) rfl ?_
        refine r_aload dX4_copy_37 rfl ?_
        refine r_v0r Z_isMissing1 (Nat.le_of_ble_eq_true rfl) mrX2_isMissing lkX4_194 rfl rfl rfl dX4_copy_39 (Nat.le_of_ble_eq_true rfl) ?_
        refine r_if_neB 53 dX4_copy_42 (by decide) (fun c42 => ?_) (fun c42 => ?_)
        · refine r_aload_n dX4_copy_53 rfl ?_
          refine r_ldc kX4_197 dX4_copy_54 ?_
          refine r_v1r (Z_tell 5 (by decide) (by decide)) (Nat.le_of_ble_eq_true rfl) mrX4_tell lkX4_46 rfl rfl rfl dX4_copy_56 (Nat.le_of_ble_eq_true rfl) ?_
          refine r_iret dX4_copy_59 rfl rfl ?_ ?_
          · first | (rw [if_pos (of_decide_eq_true c42)]; rfl) | (rw [if_neg (of_decide_eq_false c42), if_pos (of_decide_eq_true c50)]; rfl)
          · first | (rw [if_pos (of_decide_eq_true c42)]; exact ⟨A, f1, f2, f3, tok, s, b, nu, HE.rf⟩) | (rw [if_neg (of_decide_eq_false c42), if_pos (of_decide_eq_true c50)]; exact ⟨A, f1, f2, f3, tok, s, b, nu, HE.rf⟩)
        · refine r_aload dX4_copy_45 rfl ?_
          refine r_v0r Z_isMissing0 (Nat.le_of_ble_eq_true rfl) mrX2_isMissing lkX4_194 rfl rfl rfl dX4_copy_47 (Nat.le_of_ble_eq_true rfl) ?_
          refine r_if_eqB 60 dX4_copy_50 (by decide) (fun c50 => ?_) (fun c50 => ?_)
          · refine r_aload dX4_copy_60 rfl ?_
            refine r_getfield dX4_copy_62 gfX4_205 rfl rfl ?_
            refine r_aload dX4_copy_65 rfl ?_
            refine r_getfield dX4_copy_67 gfX4_205 rfl rfl ?_
            refine r_icmp_eq 80 dX4_copy_70 (by decide) (fun c70 => ?_) (fun c70 => ?_)
            · refine r_aload dX4_copy_80 rfl ?_
              refine r_iload_n dX4_copy_82 rfl ?_
              refine r_iload dX4_copy_83 rfl ?_
              refine r_v2r (Z_spans1 ez hz) (Nat.le_of_ble_eq_true rfl) mrX2_spans lkX4_208 rfl rfl rfl dX4_copy_85 (Nat.le_of_ble_eq_true rfl) ?_
              refine r_if_eqB 103 dX4_copy_88 (by decide) (fun c88 => ?_) (fun c88 => ?_)
              · refine r_aload_n dX4_copy_103 rfl ?_
                refine r_ldc kX4_45 dX4_copy_104 ?_
                refine r_v1r (Z_tell 0 (by decide) (by decide)) (Nat.le_of_ble_eq_true rfl) mrX4_tell lkX4_46 rfl rfl rfl dX4_copy_106 (Nat.le_of_ble_eq_true rfl) ?_
                refine r_iret dX4_copy_109 rfl rfl ?_ ?_
                · first | (rw [if_neg (of_decide_eq_false c42), if_neg (of_decide_eq_false c50), if_pos c70, c88]; rfl) | (rw [if_neg (of_decide_eq_false c42), if_neg (of_decide_eq_false c50), if_pos c70, c88, c100]; rfl)
                · first | (rw [if_neg (of_decide_eq_false c42), if_neg (of_decide_eq_false c50), if_pos c70, c88]; exact ⟨A, f1, f2, f3, tok, s, b, nu, HE.rf⟩) | (rw [if_neg (of_decide_eq_false c42), if_neg (of_decide_eq_false c50), if_pos c70, c88, c100]; exact ⟨A, f1, f2, f3, tok, s, b, nu, HE.rf⟩)
              · refine r_aload dX4_copy_91 rfl ?_
                refine r_iload dX4_copy_93 rfl ?_
                refine r_iload dX4_copy_95 rfl ?_
                refine r_v2r (Z_spans0 ew hw) (Nat.le_of_ble_eq_true rfl) mrX2_spans lkX4_208 rfl rfl rfl dX4_copy_97 (Nat.le_of_ble_eq_true rfl) ?_
                refine r_if_neB 110 dX4_copy_100 (by decide) (fun c100 => ?_) (fun c100 => ?_)
                · have p1 := spn_of hz c88
                  have p2 := spn_of hw c100
                  refine r_aload dX4_copy_110 rfl ?_
                  refine r_getfield dX4_copy_112 gfX4_198 rfl rfl ?_
                  refine r_iload_n dX4_copy_115 rfl ?_
                  refine r_aload dX4_copy_116 rfl ?_
                  refine r_getfield dX4_copy_118 gfX4_198 rfl rfl ?_
                  refine r_iload dX4_copy_121 rfl ?_
                  refine r_iload dX4_copy_123 rfl ?_
                  refine r_acpl (h' := hX R K kp tc n T (updZ Z 0 ((Z 0).1, (Z 0).2.1, va_cpy (Z 1).2.2 (Z 0).2.2 (tn f) (tn t) (tn m))) A f1 f2 f3 tok s b nu) cpL dX4_copy_125 (by decide) rfl rfl rfl p1.1 p2.1 p1.2.1 (by omega) (by omega) rfl ?_
                  refine r_iload dX4_copy_128 rfl ?_
                  refine r_iret dX4_copy_130 rfl rfl ?_ ?_
                  · rw [if_neg (of_decide_eq_false c42), if_neg (of_decide_eq_false c50), if_pos c70, c88, c100]
                  · rw [if_neg (of_decide_eq_false c42), if_neg (of_decide_eq_false c50), if_pos c70, c88, c100]
                    exact ⟨A, f1, f2, f3, tok, s, b, nu, HE.rf⟩
                · refine r_aload_n dX4_copy_103 rfl ?_
                  refine r_ldc kX4_45 dX4_copy_104 ?_
                  refine r_v1r (Z_tell 0 (by decide) (by decide)) (Nat.le_of_ble_eq_true rfl) mrX4_tell lkX4_46 rfl rfl rfl dX4_copy_106 (Nat.le_of_ble_eq_true rfl) ?_
                  refine r_iret dX4_copy_109 rfl rfl ?_ ?_
                  · first | (rw [if_neg (of_decide_eq_false c42), if_neg (of_decide_eq_false c50), if_pos c70, c88]; rfl) | (rw [if_neg (of_decide_eq_false c42), if_neg (of_decide_eq_false c50), if_pos c70, c88, c100]; rfl)
                  · first | (rw [if_neg (of_decide_eq_false c42), if_neg (of_decide_eq_false c50), if_pos c70, c88]; exact ⟨A, f1, f2, f3, tok, s, b, nu, HE.rf⟩) | (rw [if_neg (of_decide_eq_false c42), if_neg (of_decide_eq_false c50), if_pos c70, c88, c100]; exact ⟨A, f1, f2, f3, tok, s, b, nu, HE.rf⟩)
            · refine r_aload_n dX4_copy_73 rfl ?_
              refine r_ldc kX4_134 dX4_copy_74 ?_
              refine r_v1r (Z_tell 2 (by decide) (by decide)) (Nat.le_of_ble_eq_true rfl) mrX4_tell lkX4_46 rfl rfl rfl dX4_copy_76 (Nat.le_of_ble_eq_true rfl) ?_
              refine r_iret dX4_copy_79 rfl rfl ?_ ?_
              · rw [if_neg (of_decide_eq_false c42), if_neg (of_decide_eq_false c50), if_neg c70]; rfl
              · rw [if_neg (of_decide_eq_false c42), if_neg (of_decide_eq_false c50), if_neg c70]
                exact ⟨A, f1, f2, f3, tok, s, b, nu, HE.rf⟩
          · refine r_aload_n dX4_copy_53 rfl ?_
            refine r_ldc kX4_197 dX4_copy_54 ?_
            refine r_v1r (Z_tell 5 (by decide) (by decide)) (Nat.le_of_ble_eq_true rfl) mrX4_tell lkX4_46 rfl rfl rfl dX4_copy_56 (Nat.le_of_ble_eq_true rfl) ?_
            refine r_iret dX4_copy_59 rfl rfl ?_ ?_
            · first | (rw [if_pos (of_decide_eq_true c42)]; rfl) | (rw [if_neg (of_decide_eq_false c42), if_pos (of_decide_eq_true c50)]; rfl)
            · first | (rw [if_pos (of_decide_eq_true c42)]; exact ⟨A, f1, f2, f3, tok, s, b, nu, HE.rf⟩) | (rw [if_neg (of_decide_eq_false c42), if_pos (of_decide_eq_true c50)]; exact ⟨A, f1, f2, f3, tok, s, b, nu, HE.rf⟩)
      · refine r_aload_n dX4_copy_21 rfl ?_
        refine r_getfield dX4_copy_22 gfX4_31 rfl rfl ?_
        refine r_iload_n dX4_copy_25 rfl ?_
        refine r_aaldN dX4_copy_26 rfl (by first | decide | omega) (Nat.le_of_ble_eq_true rfl) rfl ?_
        refine r_astore (lv' := [_, _, _, _, _, _, _, _]) dX4_copy_27 (by decide) rfl ?_
        refine r_aload_n dX4_copy_29 rfl ?_
        refine r_getfield dX4_copy_30 gfX4_31 rfl rfl ?_
        refine r_iload_n dX4_copy_33 rfl ?_
        refine r_aaldN dX4_copy_34 rfl (by first | decide | omega) (Nat.le_of_ble_eq_true rfl) rfl ?_
        refine r_astore (lv' := [_, _, _, _, _, _, _, _]) dX4_copy_35 (by decide) rfl ?_
        refine r_aload dX4_copy_37 rfl ?_
        refine r_v0r Z_isMissing1 (Nat.le_of_ble_eq_true rfl) mrX2_isMissing lkX4_194 rfl rfl rfl dX4_copy_39 (Nat.le_of_ble_eq_true rfl) ?_
        refine r_if_neB 53 dX4_copy_42 (by decide) (fun c42 => ?_) (fun c42 => ?_)
        · refine r_aload_n dX4_copy_53 rfl ?_
          refine r_ldc kX4_197 dX4_copy_54 ?_
          refine r_v1r (Z_tell 5 (by decide) (by decide)) (Nat.le_of_ble_eq_true rfl) mrX4_tell lkX4_46 rfl rfl rfl dX4_copy_56 (Nat.le_of_ble_eq_true rfl) ?_
          refine r_iret dX4_copy_59 rfl rfl ?_ ?_
          · first | (rw [if_pos (of_decide_eq_true c42)]; rfl) | (rw [if_neg (of_decide_eq_false c42), if_pos (of_decide_eq_true c50)]; rfl)
          · first | (rw [if_pos (of_decide_eq_true c42)]; exact ⟨A, f1, f2, f3, tok, s, b, nu, HE.rf⟩) | (rw [if_neg (of_decide_eq_false c42), if_pos (of_decide_eq_true c50)]; exact ⟨A, f1, f2, f3, tok, s, b, nu, HE.rf⟩)
        · refine r_aload dX4_copy_45 rfl ?_
          refine r_v0r Z_isMissing1 (Nat.le_of_ble_eq_true rfl) mrX2_isMissing lkX4_194 rfl rfl rfl dX4_copy_47 (Nat.le_of_ble_eq_true rfl) ?_
          refine r_if_eqB 60 dX4_copy_50 (by decide) (fun c50 => ?_) (fun c50 => ?_)
          · refine r_aload dX4_copy_60 rfl ?_
            refine r_getfield dX4_copy_62 gfX4_205 rfl rfl ?_
            refine r_aload dX4_copy_65 rfl ?_
            refine r_getfield dX4_copy_67 gfX4_205 rfl rfl ?_
            refine r_icmp_eq 80 dX4_copy_70 (by decide) (fun c70 => ?_) (fun c70 => ?_)
            · refine r_aload dX4_copy_80 rfl ?_
              refine r_iload_n dX4_copy_82 rfl ?_
              refine r_iload dX4_copy_83 rfl ?_
              refine r_v2r (Z_spans1 ez hz) (Nat.le_of_ble_eq_true rfl) mrX2_spans lkX4_208 rfl rfl rfl dX4_copy_85 (Nat.le_of_ble_eq_true rfl) ?_
              refine r_if_eqB 103 dX4_copy_88 (by decide) (fun c88 => ?_) (fun c88 => ?_)
              · refine r_aload_n dX4_copy_103 rfl ?_
                refine r_ldc kX4_45 dX4_copy_104 ?_
                refine r_v1r (Z_tell 0 (by decide) (by decide)) (Nat.le_of_ble_eq_true rfl) mrX4_tell lkX4_46 rfl rfl rfl dX4_copy_106 (Nat.le_of_ble_eq_true rfl) ?_
                refine r_iret dX4_copy_109 rfl rfl ?_ ?_
                · first | (rw [if_neg (of_decide_eq_false c42), if_neg (of_decide_eq_false c50), if_pos c70, c88]; rfl) | (rw [if_neg (of_decide_eq_false c42), if_neg (of_decide_eq_false c50), if_pos c70, c88, c100]; rfl)
                · first | (rw [if_neg (of_decide_eq_false c42), if_neg (of_decide_eq_false c50), if_pos c70, c88]; exact ⟨A, f1, f2, f3, tok, s, b, nu, HE.rf⟩) | (rw [if_neg (of_decide_eq_false c42), if_neg (of_decide_eq_false c50), if_pos c70, c88, c100]; exact ⟨A, f1, f2, f3, tok, s, b, nu, HE.rf⟩)
              · refine r_aload dX4_copy_91 rfl ?_
                refine r_iload dX4_copy_93 rfl ?_
                refine r_iload dX4_copy_95 rfl ?_
                refine r_v2r (Z_spans1 ew hw) (Nat.le_of_ble_eq_true rfl) mrX2_spans lkX4_208 rfl rfl rfl dX4_copy_97 (Nat.le_of_ble_eq_true rfl) ?_
                refine r_if_neB 110 dX4_copy_100 (by decide) (fun c100 => ?_) (fun c100 => ?_)
                · have p1 := spn_of hz c88
                  have p2 := spn_of hw c100
                  refine r_aload dX4_copy_110 rfl ?_
                  refine r_getfield dX4_copy_112 gfX4_198 rfl rfl ?_
                  refine r_iload_n dX4_copy_115 rfl ?_
                  refine r_aload dX4_copy_116 rfl ?_
                  refine r_getfield dX4_copy_118 gfX4_198 rfl rfl ?_
                  refine r_iload dX4_copy_121 rfl ?_
                  refine r_iload dX4_copy_123 rfl ?_
                  refine r_acpl (h' := hX R K kp tc n T (updZ Z 1 ((Z 1).1, (Z 1).2.1, va_cpy (Z 1).2.2 (Z 1).2.2 (tn f) (tn t) (tn m))) A f1 f2 f3 tok s b nu) cpL dX4_copy_125 (by decide) rfl rfl rfl p1.1 p2.1 p1.2.1 (by omega) (by omega) rfl ?_
                  refine r_iload dX4_copy_128 rfl ?_
                  refine r_iret dX4_copy_130 rfl rfl ?_ ?_
                  · rw [if_neg (of_decide_eq_false c42), if_neg (of_decide_eq_false c50), if_pos c70, c88, c100]
                  · rw [if_neg (of_decide_eq_false c42), if_neg (of_decide_eq_false c50), if_pos c70, c88, c100]
                    exact ⟨A, f1, f2, f3, tok, s, b, nu, HE.rf⟩
                · refine r_aload_n dX4_copy_103 rfl ?_
                  refine r_ldc kX4_45 dX4_copy_104 ?_
                  refine r_v1r (Z_tell 0 (by decide) (by decide)) (Nat.le_of_ble_eq_true rfl) mrX4_tell lkX4_46 rfl rfl rfl dX4_copy_106 (Nat.le_of_ble_eq_true rfl) ?_
                  refine r_iret dX4_copy_109 rfl rfl ?_ ?_
                  · first | (rw [if_neg (of_decide_eq_false c42), if_neg (of_decide_eq_false c50), if_pos c70, c88]; rfl) | (rw [if_neg (of_decide_eq_false c42), if_neg (of_decide_eq_false c50), if_pos c70, c88, c100]; rfl)
                  · first | (rw [if_neg (of_decide_eq_false c42), if_neg (of_decide_eq_false c50), if_pos c70, c88]; exact ⟨A, f1, f2, f3, tok, s, b, nu, HE.rf⟩) | (rw [if_neg (of_decide_eq_false c42), if_neg (of_decide_eq_false c50), if_pos c70, c88, c100]; exact ⟨A, f1, f2, f3, tok, s, b, nu, HE.rf⟩)
            · refine r_aload_n dX4_copy_73 rfl ?_
              refine r_ldc kX4_134 dX4_copy_74 ?_
              refine r_v1r (Z_tell 2 (by decide) (by decide)) (Nat.le_of_ble_eq_true rfl) mrX4_tell lkX4_46 rfl rfl rfl dX4_copy_76 (Nat.le_of_ble_eq_true rfl) ?_
              refine r_iret dX4_copy_79 rfl rfl ?_ ?_
              · rw [if_neg (of_decide_eq_false c42), if_neg (of_decide_eq_false c50), if_neg c70]; rfl
              · rw [if_neg (of_decide_eq_false c42), if_neg (of_decide_eq_false c50), if_neg c70]
                exact ⟨A, f1, f2, f3, tok, s, b, nu, HE.rf⟩
          · refine r_aload_n dX4_copy_53 rfl ?_
            refine r_ldc kX4_197 dX4_copy_54 ?_
            refine r_v1r (Z_tell 5 (by decide) (by decide)) (Nat.le_of_ble_eq_true rfl) mrX4_tell lkX4_46 rfl rfl rfl dX4_copy_56 (Nat.le_of_ble_eq_true rfl) ?_
            refine r_iret dX4_copy_59 rfl rfl ?_ ?_
            · first | (rw [if_pos (of_decide_eq_true c42)]; rfl) | (rw [if_neg (of_decide_eq_false c42), if_pos (of_decide_eq_true c50)]; rfl)
            · first | (rw [if_pos (of_decide_eq_true c42)]; exact ⟨A, f1, f2, f3, tok, s, b, nu, HE.rf⟩) | (rw [if_neg (of_decide_eq_false c42), if_pos (of_decide_eq_true c50)]; exact ⟨A, f1, f2, f3, tok, s, b, nu, HE.rf⟩)
      · refine r_aload_n dX4_copy_21 rfl ?_
        refine r_getfield dX4_copy_22 gfX4_31 rfl rfl ?_
        refine r_iload_n dX4_copy_25 rfl ?_
        refine r_aaldN dX4_copy_26 rfl (by first | decide | omega) (Nat.le_of_ble_eq_true rfl) rfl ?_
        refine r_astore (lv' := [_, _, _, _, _, _, _, _]) dX4_copy_27 (by decide) rfl ?_
        refine r_aload_n dX4_copy_29 rfl ?_
        refine r_getfield dX4_copy_30 gfX4_31 rfl rfl ?_
        refine r_iload_n dX4_copy_33 rfl ?_
        refine r_aaldN dX4_copy_34 rfl (by first | decide | omega) (Nat.le_of_ble_eq_true rfl) rfl ?_
        refine r_astore (lv' := [_, _, _, _, _, _, _, _]) dX4_copy_35 (by decide) rfl ?_
        refine r_aload dX4_copy_37 rfl ?_
        refine r_v0r Z_isMissing1 (Nat.le_of_ble_eq_true rfl) mrX2_isMissing lkX4_194 rfl rfl rfl dX4_copy_39 (Nat.le_of_ble_eq_true rfl) ?_
        refine r_if_neB 53 dX4_copy_42 (by decide) (fun c42 => ?_) (fun c42 => ?_)
        · refine r_aload_n dX4_copy_53 rfl ?_
          refine r_ldc kX4_197 dX4_copy_54 ?_
          refine r_v1r (Z_tell 5 (by decide) (by decide)) (Nat.le_of_ble_eq_true rfl) mrX4_tell lkX4_46 rfl rfl rfl dX4_copy_56 (Nat.le_of_ble_eq_true rfl) ?_
          refine r_iret dX4_copy_59 rfl rfl ?_ ?_
          · first | (rw [if_pos (of_decide_eq_true c42)]; rfl) | (rw [if_neg (of_decide_eq_false c42), if_pos (of_decide_eq_true c50)]; rfl)
          · first | (rw [if_pos (of_decide_eq_true c42)]; exact ⟨A, f1, f2, f3, tok, s, b, nu, HE.rf⟩) | (rw [if_neg (of_decide_eq_false c42), if_pos (of_decide_eq_true c50)]; exact ⟨A, f1, f2, f3, tok, s, b, nu, HE.rf⟩)
        · refine r_aload dX4_copy_45 rfl ?_
          refine r_v0r Z_isMissing2 (Nat.le_of_ble_eq_true rfl) mrX2_isMissing lkX4_194 rfl rfl rfl dX4_copy_47 (Nat.le_of_ble_eq_true rfl) ?_
          refine r_if_eqB 60 dX4_copy_50 (by decide) (fun c50 => ?_) (fun c50 => ?_)
          · refine r_aload dX4_copy_60 rfl ?_
            refine r_getfield dX4_copy_62 gfX4_205 rfl rfl ?_
            refine r_aload dX4_copy_65 rfl ?_
            refine r_getfield dX4_copy_67 gfX4_205 rfl rfl ?_
            refine r_icmp_eq 80 dX4_copy_70 (by decide) (fun c70 => ?_) (fun c70 => ?_)
            · refine r_aload dX4_copy_80 rfl ?_
              refine r_iload_n dX4_copy_82 rfl ?_
              refine r_iload dX4_copy_83 rfl ?_
              refine r_v2r (Z_spans1 ez hz) (Nat.le_of_ble_eq_true rfl) mrX2_spans lkX4_208 rfl rfl rfl dX4_copy_85 (Nat.le_of_ble_eq_true rfl) ?_
              refine r_if_eqB 103 dX4_copy_88 (by decide) (fun c88 => ?_) (fun c88 => ?_)
              · refine r_aload_n dX4_copy_103 rfl ?_
                refine r_ldc kX4_45 dX4_copy_104 ?_
                refine r_v1r (Z_tell 0 (by decide) (by decide)) (Nat.le_of_ble_eq_true rfl) mrX4_tell lkX4_46 rfl rfl rfl dX4_copy_106 (Nat.le_of_ble_eq_true rfl) ?_
                refine r_iret dX4_copy_109 rfl rfl ?_ ?_
                · first | (rw [if_neg (of_decide_eq_false c42), if_neg (of_decide_eq_false c50), if_pos c70, c88]; rfl) | (rw [if_neg (of_decide_eq_false c42), if_neg (of_decide_eq_false c50), if_pos c70, c88, c100]; rfl)
                · first | (rw [if_neg (of_decide_eq_false c42), if_neg (of_decide_eq_false c50), if_pos c70, c88]; exact ⟨A, f1, f2, f3, tok, s, b, nu, HE.rf⟩) | (rw [if_neg (of_decide_eq_false c42), if_neg (of_decide_eq_false c50), if_pos c70, c88, c100]; exact ⟨A, f1, f2, f3, tok, s, b, nu, HE.rf⟩)
              · refine r_aload dX4_copy_91 rfl ?_
                refine r_iload dX4_copy_93 rfl ?_
                refine r_iload dX4_copy_95 rfl ?_
                refine r_v2r (Z_spans2 ew hw) (Nat.le_of_ble_eq_true rfl) mrX2_spans lkX4_208 rfl rfl rfl dX4_copy_97 (Nat.le_of_ble_eq_true rfl) ?_
                refine r_if_neB 110 dX4_copy_100 (by decide) (fun c100 => ?_) (fun c100 => ?_)
                · have p1 := spn_of hz c88
                  have p2 := spn_of hw c100
                  refine r_aload dX4_copy_110 rfl ?_
                  refine r_getfield dX4_copy_112 gfX4_198 rfl rfl ?_
                  refine r_iload_n dX4_copy_115 rfl ?_
                  refine r_aload dX4_copy_116 rfl ?_
                  refine r_getfield dX4_copy_118 gfX4_198 rfl rfl ?_
                  refine r_iload dX4_copy_121 rfl ?_
                  refine r_iload dX4_copy_123 rfl ?_
                  refine r_acpl (h' := hX R K kp tc n T (updZ Z 2 ((Z 2).1, (Z 2).2.1, va_cpy (Z 1).2.2 (Z 2).2.2 (tn f) (tn t) (tn m))) A f1 f2 f3 tok s b nu) cpL dX4_copy_125 (by decide) rfl rfl rfl p1.1 p2.1 p1.2.1 (by omega) (by omega) rfl ?_
                  refine r_iload dX4_copy_128 rfl ?_
                  refine r_iret dX4_copy_130 rfl rfl ?_ ?_
                  · rw [if_neg (of_decide_eq_false c42), if_neg (of_decide_eq_false c50), if_pos c70, c88, c100]
                  · rw [if_neg (of_decide_eq_false c42), if_neg (of_decide_eq_false c50), if_pos c70, c88, c100]
                    exact ⟨A, f1, f2, f3, tok, s, b, nu, HE.rf⟩
                · refine r_aload_n dX4_copy_103 rfl ?_
                  refine r_ldc kX4_45 dX4_copy_104 ?_
                  refine r_v1r (Z_tell 0 (by decide) (by decide)) (Nat.le_of_ble_eq_true rfl) mrX4_tell lkX4_46 rfl rfl rfl dX4_copy_106 (Nat.le_of_ble_eq_true rfl) ?_
                  refine r_iret dX4_copy_109 rfl rfl ?_ ?_
                  · first | (rw [if_neg (of_decide_eq_false c42), if_neg (of_decide_eq_false c50), if_pos c70, c88]; rfl) | (rw [if_neg (of_decide_eq_false c42), if_neg (of_decide_eq_false c50), if_pos c70, c88, c100]; rfl)
                  · first | (rw [if_neg (of_decide_eq_false c42), if_neg (of_decide_eq_false c50), if_pos c70, c88]; exact ⟨A, f1, f2, f3, tok, s, b, nu, HE.rf⟩) | (rw [if_neg (of_decide_eq_false c42), if_neg (of_decide_eq_false c50), if_pos c70, c88, c100]; exact ⟨A, f1, f2, f3, tok, s, b, nu, HE.rf⟩)
            · refine r_aload_n dX4_copy_73 rfl ?_
              refine r_ldc kX4_134 dX4_copy_74 ?_
              refine r_v1r (Z_tell 2 (by decide) (by decide)) (Nat.le_of_ble_eq_true rfl) mrX4_tell lkX4_46 rfl rfl rfl dX4_copy_76 (Nat.le_of_ble_eq_true rfl) ?_
              refine r_iret dX4_copy_79 rfl rfl ?_ ?_
              · rw [if_neg (of_decide_eq_false c42), if_neg (of_decide_eq_false c50), if_neg c70]; rfl
              · rw [if_neg (of_decide_eq_false c42), if_neg (of_decide_eq_false c50), if_neg c70]
                exact ⟨A, f1, f2, f3, tok, s, b, nu, HE.rf⟩
          · refine r_aload_n dX4_copy_53 rfl ?_
            refine r_ldc kX4_197 dX4_copy_54 ?_
            refine r_v1r (Z_tell 5 (by decide) (by decide)) (Nat.le_of_ble_eq_true rfl) mrX4_tell lkX4_46 rfl rfl rfl dX4_copy_56 (Nat.le_of_ble_eq_true rfl) ?_
            refine r_iret dX4_copy_59 rfl rfl ?_ ?_
            · first | (rw [if_pos (of_decide_eq_true c42)]; rfl) | (rw [if_neg (of_decide_eq_false c42), if_pos (of_decide_eq_true c50)]; rfl)
            · first | (rw [if_pos (of_decide_eq_true c42)]; exact ⟨A, f1, f2, f3, tok, s, b, nu, HE.rf⟩) | (rw [if_neg (of_decide_eq_false c42), if_pos (of_decide_eq_true c50)]; exact ⟨A, f1, f2, f3, tok, s, b, nu, HE.rf⟩)
      · refine r_aload_n dX4_copy_21 rfl ?_
        refine r_getfield dX4_copy_22 gfX4_31 rfl rfl ?_
        refine r_iload_n dX4_copy_25 rfl ?_
        refine r_aaldN dX4_copy_26 rfl (by first | decide | omega) (Nat.le_of_ble_eq_true rfl) rfl ?_
        refine r_astore (lv' := [_, _, _, _, _, _, _, _]) dX4_copy_27 (by decide) rfl ?_
        refine r_aload_n dX4_copy_29 rfl ?_
        refine r_getfield dX4_copy_30 gfX4_31 rfl rfl ?_
        refine r_iload_n dX4_copy_33 rfl ?_
        refine r_aaldN dX4_copy_34 rfl (by first | decide | omega) (Nat.le_of_ble_eq_true rfl) rfl ?_
        refine r_astore (lv' := [_, _, _, _, _, _, _, _]) dX4_copy_35 (by decide) rfl ?_
        refine r_aload dX4_copy_37 rfl ?_
        refine r_v0r Z_isMissing1 (Nat.le_of_ble_eq_true rfl) mrX2_isMissing lkX4_194 rfl rfl rfl dX4_copy_39 (Nat.le_of_ble_eq_true rfl) ?_
        refine r_if_neB 53 dX4_copy_42 (by decide) (fun c42 => ?_) (fun c42 => ?_)
        · refine r_aload_n dX4_copy_53 rfl ?_
          refine r_ldc kX4_197 dX4_copy_54 ?_
          refine r_v1r (Z_tell 5 (by decide) (by decide)) (Nat.le_of_ble_eq_true rfl) mrX4_tell lkX4_46 rfl rfl rfl dX4_copy_56 (Nat.le_of_ble_eq_true rfl) ?_
          refine r_iret dX4_copy_59 rfl rfl ?_ ?_
          · first | (rw [if_pos (of_decide_eq_true c42)]; rfl) | (rw [if_neg (of_decide_eq_false c42), if_pos (of_decide_eq_true c50)]; rfl)
          · first | (rw [if_pos (of_decide_eq_true c42)]; exact ⟨A, f1, f2, f3, tok, s, b, nu, HE.rf⟩) | (rw [if_neg (of_decide_eq_false c42), if_pos (of_decide_eq_true c50)]; exact ⟨A, f1, f2, f3, tok, s, b, nu, HE.rf⟩)
        · refine r_aload dX4_copy_45 rfl ?_
          refine r_v0r Z_isMissing3 (Nat.le_of_ble_eq_true rfl) mrX2_isMissing lkX4_194 rfl rfl rfl dX4_copy_47 (Nat.le_of_ble_eq_true rfl) ?_
          refine r_if_eqB 60 dX4_copy_50 (by decide) (fun c50 => ?_) (fun c50 => ?_)
          · refine r_aload dX4_copy_60 rfl ?_
            refine r_getfield dX4_copy_62 gfX4_205 rfl rfl ?_
            refine r_aload dX4_copy_65 rfl ?_
            refine r_getfield dX4_copy_67 gfX4_205 rfl rfl ?_
            refine r_icmp_eq 80 dX4_copy_70 (by decide) (fun c70 => ?_) (fun c70 => ?_)
            · refine r_aload dX4_copy_80 rfl ?_
              refine r_iload_n dX4_copy_82 rfl ?_
              refine r_iload dX4_copy_83 rfl ?_
              refine r_v2r (Z_spans1 ez hz) (Nat.le_of_ble_eq_true rfl) mrX2_spans lkX4_208 rfl rfl rfl dX4_copy_85 (Nat.le_of_ble_eq_true rfl) ?_
              refine r_if_eqB 103 dX4_copy_88 (by decide) (fun c88 => ?_) (fun c88 => ?_)
              · refine r_aload_n dX4_copy_103 rfl ?_
                refine r_ldc kX4_45 dX4_copy_104 ?_
                refine r_v1r (Z_tell 0 (by decide) (by decide)) (Nat.le_of_ble_eq_true rfl) mrX4_tell lkX4_46 rfl rfl rfl dX4_copy_106 (Nat.le_of_ble_eq_true rfl) ?_
                refine r_iret dX4_copy_109 rfl rfl ?_ ?_
                · first | (rw [if_neg (of_decide_eq_false c42), if_neg (of_decide_eq_false c50), if_pos c70, c88]; rfl) | (rw [if_neg (of_decide_eq_false c42), if_neg (of_decide_eq_false c50), if_pos c70, c88, c100]; rfl)
                · first | (rw [if_neg (of_decide_eq_false c42), if_neg (of_decide_eq_false c50), if_pos c70, c88]; exact ⟨A, f1, f2, f3, tok, s, b, nu, HE.rf⟩) | (rw [if_neg (of_decide_eq_false c42), if_neg (of_decide_eq_false c50), if_pos c70, c88, c100]; exact ⟨A, f1, f2, f3, tok, s, b, nu, HE.rf⟩)
              · refine r_aload dX4_copy_91 rfl ?_
                refine r_iload dX4_copy_93 rfl ?_
                refine r_iload dX4_copy_95 rfl ?_
                refine r_v2r (Z_spans3 ew hw) (Nat.le_of_ble_eq_true rfl) mrX2_spans lkX4_208 rfl rfl rfl dX4_copy_97 (Nat.le_of_ble_eq_true rfl) ?_
                refine r_if_neB 110 dX4_copy_100 (by decide) (fun c100 => ?_) (fun c100 => ?_)
                · have p1 := spn_of hz c88
                  have p2 := spn_of hw c100
                  refine r_aload dX4_copy_110 rfl ?_
                  refine r_getfield dX4_copy_112 gfX4_198 rfl rfl ?_
                  refine r_iload_n dX4_copy_115 rfl ?_
                  refine r_aload dX4_copy_116 rfl ?_
                  refine r_getfield dX4_copy_118 gfX4_198 rfl rfl ?_
                  refine r_iload dX4_copy_121 rfl ?_
                  refine r_iload dX4_copy_123 rfl ?_
                  refine r_acpl (h' := hX R K kp tc n T (updZ Z 3 ((Z 3).1, (Z 3).2.1, va_cpy (Z 1).2.2 (Z 3).2.2 (tn f) (tn t) (tn m))) A f1 f2 f3 tok s b nu) cpL dX4_copy_125 (by decide) rfl rfl rfl p1.1 p2.1 p1.2.1 (by omega) (by omega) rfl ?_
                  refine r_iload dX4_copy_128 rfl ?_
                  refine r_iret dX4_copy_130 rfl rfl ?_ ?_
                  · rw [if_neg (of_decide_eq_false c42), if_neg (of_decide_eq_false c50), if_pos c70, c88, c100]
                  · rw [if_neg (of_decide_eq_false c42), if_neg (of_decide_eq_false c50), if_pos c70, c88, c100]
                    exact ⟨A, f1, f2, f3, tok, s, b, nu, HE.rf⟩
                · refine r_aload_n dX4_copy_103 rfl ?_
                  refine r_ldc kX4_45 dX4_copy_104 ?_
                  refine r_v1r (Z_tell 0 (by decide) (by decide)) (Nat.le_of_ble_eq_true rfl) mrX4_tell lkX4_46 rfl rfl rfl dX4_copy_106 (Nat.le_of_ble_eq_true rfl) ?_
                  refine r_iret dX4_copy_109 rfl rfl ?_ ?_
                  · first | (rw [if_neg (of_decide_eq_false c42), if_neg (of_decide_eq_false c50), if_pos c70, c88]; rfl) | (rw [if_neg (of_decide_eq_false c42), if_neg (of_decide_eq_false c50), if_pos c70, c88, c100]; rfl)
                  · first | (rw [if_neg (of_decide_eq_false c42), if_neg (of_decide_eq_false c50), if_pos c70, c88]; exact ⟨A, f1, f2, f3, tok, s, b, nu, HE.rf⟩) | (rw [if_neg (of_decide_eq_false c42), if_neg (of_decide_eq_false c50), if_pos c70, c88, c100]; exact ⟨A, f1, f2, f3, tok, s, b, nu, HE.rf⟩)
            · refine r_aload_n dX4_copy_73 rfl ?_
              refine r_ldc kX4_134 dX4_copy_74 ?_
              refine r_v1r (Z_tell 2 (by decide) (by decide)) (Nat.le_of_ble_eq_true rfl) mrX4_tell lkX4_46 rfl rfl rfl dX4_copy_76 (Nat.le_of_ble_eq_true rfl) ?_
              refine r_iret dX4_copy_79 rfl rfl ?_ ?_
              · rw [if_neg (of_decide_eq_false c42), if_neg (of_decide_eq_false c50), if_neg c70]; rfl
              · rw [if_neg (of_decide_eq_false c42), if_neg (of_decide_eq_false c50), if_neg c70]
                exact ⟨A, f1, f2, f3, tok, s, b, nu, HE.rf⟩
          · refine r_aload_n dX4_copy_53 rfl ?_
            refine r_ldc kX4_197 dX4_copy_54 ?_
            refine r_v1r (Z_tell 5 (by decide) (by decide)) (Nat.le_of_ble_eq_true rfl) mrX4_tell lkX4_46 rfl rfl rfl dX4_copy_56 (Nat.le_of_ble_eq_true rfl) ?_
            refine r_iret dX4_copy_59 rfl rfl ?_ ?_
            · first | (rw [if_pos (of_decide_eq_true c42)]; rfl) | (rw [if_neg (of_decide_eq_false c42), if_pos (of_decide_eq_true c50)]; rfl)
            · first | (rw [if_pos (of_decide_eq_true c42)]; exact ⟨A, f1, f2, f3, tok, s, b, nu, HE.rf⟩) | (rw [if_neg (of_decide_eq_false c42), if_pos (of_decide_eq_true c50)]; exact ⟨A, f1, f2, f3, tok, s, b, nu, HE.rf⟩)
    · rcases (show j = 0 ∨ j = 1 ∨ j = 2 ∨ j = 3 by omega) with rfl | rfl | rfl | rfl
      · refine r_aload_n dX4_copy_21 rfl ?_
        refine r_getfield dX4_copy_22 gfX4_31 rfl rfl ?_
        refine r_iload_n dX4_copy_25 rfl ?_
        refine r_aaldN dX4_copy_26 rfl (by first | decide | omega) (Nat.le_of_ble_eq_true rfl) rfl ?_
        refine r_astore (lv' := [_, _, _, _, _, _, _, _]) dX4_copy_27 (by decide) rfl ?_
        refine r_aload_n dX4_copy_29 rfl ?_
        refine r_getfield dX4_copy_30 gfX4_31 rfl rfl ?_
        refine r_iload_n dX4_copy_33 rfl ?_
        refine r_aaldN dX4_copy_34 rfl (by first | decide | omega) (Nat.le_of_ble_eq_true rfl) rfl ?_
        refine r_astore (lv' := [_, _, _, _, _, _, _, _]) dX4_copy_35 (by decide) rfl ?_
        refine r_aload dX4_copy_37 rfl ?_
        refine r_v0r Z_isMissing2 (Nat.le_of_ble_eq_true rfl) mrX2_isMissing lkX4_194 rfl rfl rfl dX4_copy_39 (Nat.le_of_ble_eq_true rfl) ?_
        refine r_if_neB 53 dX4_copy_42 (by decide) (fun c42 => ?_) (fun c42 => ?_)
        · refine r_aload_n dX4_copy_53 rfl ?_
          refine r_ldc kX4_197 dX4_copy_54 ?_
          refine r_v1r (Z_tell 5 (by decide) (by decide)) (Nat.le_of_ble_eq_true rfl) mrX4_tell lkX4_46 rfl rfl rfl dX4_copy_56 (Nat.le_of_ble_eq_true rfl) ?_
          refine r_iret dX4_copy_59 rfl rfl ?_ ?_
          · first | (rw [if_pos (of_decide_eq_true c42)]; rfl) | (rw [if_neg (of_decide_eq_false c42), if_pos (of_decide_eq_true c50)]; rfl)
          · first | (rw [if_pos (of_decide_eq_true c42)]; exact ⟨A, f1, f2, f3, tok, s, b, nu, HE.rf⟩) | (rw [if_neg (of_decide_eq_false c42), if_pos (of_decide_eq_true c50)]; exact ⟨A, f1, f2, f3, tok, s, b, nu, HE.rf⟩)
        · refine r_aload dX4_copy_45 rfl ?_
          refine r_v0r Z_isMissing0 (Nat.le_of_ble_eq_true rfl) mrX2_isMissing lkX4_194 rfl rfl rfl dX4_copy_47 (Nat.le_of_ble_eq_true rfl) ?_
          refine r_if_eqB 60 dX4_copy_50 (by decide) (fun c50 => ?_) (fun c50 => ?_)
          · refine r_aload dX4_copy_60 rfl ?_
            refine r_getfield dX4_copy_62 gfX4_205 rfl rfl ?_
            refine r_aload dX4_copy_65 rfl ?_
            refine r_getfield dX4_copy_67 gfX4_205 rfl rfl ?_
            refine r_icmp_eq 80 dX4_copy_70 (by decide) (fun c70 => ?_) (fun c70 => ?_)
            · refine r_aload dX4_copy_80 rfl ?_
              refine r_iload_n dX4_copy_82 rfl ?_
              refine r_iload dX4_copy_83 rfl ?_
              refine r_v2r (Z_spans2 ez hz) (Nat.le_of_ble_eq_true rfl) mrX2_spans lkX4_208 rfl rfl rfl dX4_copy_85 (Nat.le_of_ble_eq_true rfl) ?_
              refine r_if_eqB 103 dX4_copy_88 (by decide) (fun c88 => ?_) (fun c88 => ?_)
              · refine r_aload_n dX4_copy_103 rfl ?_
                refine r_ldc kX4_45 dX4_copy_104 ?_
                refine r_v1r (Z_tell 0 (by decide) (by decide)) (Nat.le_of_ble_eq_true rfl) mrX4_tell lkX4_46 rfl rfl rfl dX4_copy_106 (Nat.le_of_ble_eq_true rfl) ?_
                refine r_iret dX4_copy_109 rfl rfl ?_ ?_
                · first | (rw [if_neg (of_decide_eq_false c42), if_neg (of_decide_eq_false c50), if_pos c70, c88]; rfl) | (rw [if_neg (of_decide_eq_false c42), if_neg (of_decide_eq_false c50), if_pos c70, c88, c100]; rfl)
                · first | (rw [if_neg (of_decide_eq_false c42), if_neg (of_decide_eq_false c50), if_pos c70, c88]; exact ⟨A, f1, f2, f3, tok, s, b, nu, HE.rf⟩) | (rw [if_neg (of_decide_eq_false c42), if_neg (of_decide_eq_false c50), if_pos c70, c88, c100]; exact ⟨A, f1, f2, f3, tok, s, b, nu, HE.rf⟩)
              · refine r_aload dX4_copy_91 rfl ?_
                refine r_iload dX4_copy_93 rfl ?_
                refine r_iload dX4_copy_95 rfl ?_
                refine r_v2r (Z_spans0 ew hw) (Nat.le_of_ble_eq_true rfl) mrX2_spans lkX4_208 rfl rfl rfl dX4_copy_97 (Nat.le_of_ble_eq_true rfl) ?_
                refine r_if_neB 110 dX4_copy_100 (by decide) (fun c100 => ?_) (fun c100 => ?_)
                · have p1 := spn_of hz c88
                  have p2 := spn_of hw c100
                  refine r_aload dX4_copy_110 rfl ?_
                  refine r_getfield dX4_copy_112 gfX4_198 rfl rfl ?_
                  refine r_iload_n dX4_copy_115 rfl ?_
                  refine r_aload dX4_copy_116 rfl ?_
                  refine r_getfield dX4_copy_118 gfX4_198 rfl rfl ?_
                  refine r_iload dX4_copy_121 rfl ?_
                  refine r_iload dX4_copy_123 rfl ?_
                  refine r_acpl (h' := hX R K kp tc n T (updZ Z 0 ((Z 0).1, (Z 0).2.1, va_cpy (Z 2).2.2 (Z 0).2.2 (tn f) (tn t) (tn m))) A f1 f2 f3 tok s b nu) cpL dX4_copy_125 (by decide) rfl rfl rfl p1.1 p2.1 p1.2.1 (by omega) (by omega) rfl ?_
                  refine r_iload dX4_copy_128 rfl ?_
                  refine r_iret dX4_copy_130 rfl rfl ?_ ?_
                  · rw [if_neg (of_decide_eq_false c42), if_neg (of_decide_eq_false c50), if_pos c70, c88, c100]
                  · rw [if_neg (of_decide_eq_false c42), if_neg (of_decide_eq_false c50), if_pos c70, c88, c100]
                    exact ⟨A, f1, f2, f3, tok, s, b, nu, HE.rf⟩
                · refine r_aload_n dX4_copy_103 rfl ?_
                  refine r_ldc kX4_45 dX4_copy_104 ?_
                  refine r_v1r (Z_tell 0 (by decide) (by decide)) (Nat.le_of_ble_eq_true rfl) mrX4_tell lkX4_46 rfl rfl rfl dX4_copy_106 (Nat.le_of_ble_eq_true rfl) ?_
                  refine r_iret dX4_copy_109 rfl rfl ?_ ?_
                  · first | (rw [if_neg (of_decide_eq_false c42), if_neg (of_decide_eq_false c50), if_pos c70, c88]; rfl) | (rw [if_neg (of_decide_eq_false c42), if_neg (of_decide_eq_false c50), if_pos c70, c88, c100]; rfl)
                  · first | (rw [if_neg (of_decide_eq_false c42), if_neg (of_decide_eq_false c50), if_pos c70, c88]; exact ⟨A, f1, f2, f3, tok, s, b, nu, HE.rf⟩) | (rw [if_neg (of_decide_eq_false c42), if_neg (of_decide_eq_false c50), if_pos c70, c88, c100]; exact ⟨A, f1, f2, f3, tok, s, b, nu, HE.rf⟩)
            · refine r_aload_n dX4_copy_73 rfl ?_
              refine r_ldc kX4_134 dX4_copy_74 ?_
              refine r_v1r (Z_tell 2 (by decide) (by decide)) (Nat.le_of_ble_eq_true rfl) mrX4_tell lkX4_46 rfl rfl rfl dX4_copy_76 (Nat.le_of_ble_eq_true rfl) ?_
              refine r_iret dX4_copy_79 rfl rfl ?_ ?_
              · rw [if_neg (of_decide_eq_false c42), if_neg (of_decide_eq_false c50), if_neg c70]; rfl
              · rw [if_neg (of_decide_eq_false c42), if_neg (of_decide_eq_false c50), if_neg c70]
                exact ⟨A, f1, f2, f3, tok, s, b, nu, HE.rf⟩
          · refine r_aload_n dX4_copy_53 rfl ?_
            refine r_ldc kX4_197 dX4_copy_54 ?_
            refine r_v1r (Z_tell 5 (by decide) (by decide)) (Nat.le_of_ble_eq_true rfl) mrX4_tell lkX4_46 rfl rfl rfl dX4_copy_56 (Nat.le_of_ble_eq_true rfl) ?_
            refine r_iret dX4_copy_59 rfl rfl ?_ ?_
            · first | (rw [if_pos (of_decide_eq_true c42)]; rfl) | (rw [if_neg (of_decide_eq_false c42), if_pos (of_decide_eq_true c50)]; rfl)
            · first | (rw [if_pos (of_decide_eq_true c42)]; exact ⟨A, f1, f2, f3, tok, s, b, nu, HE.rf⟩) | (rw [if_neg (of_decide_eq_false c42), if_pos (of_decide_eq_true c50)]; exact ⟨A, f1, f2, f3, tok, s, b, nu, HE.rf⟩)
      · refine r_aload_n dX4_copy_21 rfl ?_
        refine r_getfield dX4_copy_22 gfX4_31 rfl rfl ?_
        refine r_iload_n dX4_copy_25 rfl ?_
        refine r_aaldN dX4_copy_26 rfl (by first | decide | omega) (Nat.le_of_ble_eq_true rfl) rfl ?_
        refine r_astore (lv' := [_, _, _, _, _, _, _, _]) dX4_copy_27 (by decide) rfl ?_
        refine r_aload_n dX4_copy_29 rfl ?_
        refine r_getfield dX4_copy_30 gfX4_31 rfl rfl ?_
        refine r_iload_n dX4_copy_33 rfl ?_
        refine r_aaldN dX4_copy_34 rfl (by first | decide | omega) (Nat.le_of_ble_eq_true rfl) rfl ?_
        refine r_astore (lv' := [_, _, _, _, _, _, _, _]) dX4_copy_35 (by decide) rfl ?_
        refine r_aload dX4_copy_37 rfl ?_
        refine r_v0r Z_isMissing2 (Nat.le_of_ble_eq_true rfl) mrX2_isMissing lkX4_194 rfl rfl rfl dX4_copy_39 (Nat.le_of_ble_eq_true rfl) ?_
        refine r_if_neB 53 dX4_copy_42 (by decide) (fun c42 => ?_) (fun c42 => ?_)
        · refine r_aload_n dX4_copy_53 rfl ?_
          refine r_ldc kX4_197 dX4_copy_54 ?_
          refine r_v1r (Z_tell 5 (by decide) (by decide)) (Nat.le_of_ble_eq_true rfl) mrX4_tell lkX4_46 rfl rfl rfl dX4_copy_56 (Nat.le_of_ble_eq_true rfl) ?_
          refine r_iret dX4_copy_59 rfl rfl ?_ ?_
          · first | (rw [if_pos (of_decide_eq_true c42)]; rfl) | (rw [if_neg (of_decide_eq_false c42), if_pos (of_decide_eq_true c50)]; rfl)
          · first | (rw [if_pos (of_decide_eq_true c42)]; exact ⟨A, f1, f2, f3, tok, s, b, nu, HE.rf⟩) | (rw [if_neg (of_decide_eq_false c42), if_pos (of_decide_eq_true c50)]; exact ⟨A, f1, f2, f3, tok, s, b, nu, HE.rf⟩)
        · refine r_aload dX4_copy_45 rfl ?_
          refine r_v0r Z_isMissing1 (Nat.le_of_ble_eq_true rfl) mrX2_isMissing lkX4_194 rfl rfl rfl dX4_copy_47 (Nat.le_of_ble_eq_true rfl) ?_
          refine r_if_eqB 60 dX4_copy_50 (by decide) (fun c50 => ?_) (fun c50 => ?_)
          · refine r_aload dX4_copy_60 rfl ?_
            refine r_getfield dX4_copy_62 gfX4_205 rfl rfl ?_
            refine r_aload dX4_copy_65 rfl ?_
            refine r_getfield dX4_copy_67 gfX4_205 rfl rfl ?_
            refine r_icmp_eq 80 dX4_copy_70 (by decide) (fun c70 => ?_) (fun c70 => ?_)
            · refine r_aload dX4_copy_80 rfl ?_
              refine r_iload_n dX4_copy_82 rfl ?_
              refine r_iload dX4_copy_83 rfl ?_
              refine r_v2r (Z_spans2 ez hz) (Nat.le_of_ble_eq_true rfl) mrX2_spans lkX4_208 rfl rfl rfl dX4_copy_85 (Nat.le_of_ble_eq_true rfl) ?_
              refine r_if_eqB 103 dX4_copy_88 (by decide) (fun c88 => ?_) (fun c88 => ?_)
              · refine r_aload_n dX4_copy_103 rfl ?_
                refine r_ldc kX4_45 dX4_copy_104 ?_
                refine r_v1r (Z_tell 0 (by decide) (by decide)) (Nat.le_of_ble_eq_true rfl) mrX4_tell lkX4_46 rfl rfl rfl dX4_copy_106 (Nat.le_of_ble_eq_true rfl) ?_
                refine r_iret dX4_copy_109 rfl rfl ?_ ?_
                · first | (rw [if_neg (of_decide_eq_false c42), if_neg (of_decide_eq_false c50), if_pos c70, c88]; rfl) | (rw [if_neg (of_decide_eq_false c42), if_neg (of_decide_eq_false c50), if_pos c70, c88, c100]; rfl)
                · first | (rw [if_neg (of_decide_eq_false c42), if_neg (of_decide_eq_false c50), if_pos c70, c88]; exact ⟨A, f1, f2, f3, tok, s, b, nu, HE.rf⟩) | (rw [if_neg (of_decide_eq_false c42), if_neg (of_decide_eq_false c50), if_pos c70, c88, c100]; exact ⟨A, f1, f2, f3, tok, s, b, nu, HE.rf⟩)
              · refine r_aload dX4_copy_91 rfl ?_
                refine r_iload dX4_copy_93 rfl ?_
                refine r_iload dX4_copy_95 rfl ?_
                refine r_v2r (Z_spans1 ew hw) (Nat.le_of_ble_eq_true rfl) mrX2_spans lkX4_208 rfl rfl rfl dX4_copy_97 (Nat.le_of_ble_eq_true rfl) ?_
                refine r_if_neB 110 dX4_copy_100 (by decide) (fun c100 => ?_) (fun c100 => ?_)
                · have p1 := spn_of hz c88
                  have p2 := spn_of hw c100
                  refine r_aload dX4_copy_110 rfl ?_
                  refine r_getfield dX4_copy_112 gfX4_198 rfl rfl ?_
                  refine r_iload_n dX4_copy_115 rfl ?_
                  refine r_aload dX4_copy_116 rfl ?_
                  refine r_getfield dX4_copy_118 gfX4_198 rfl rfl ?_
                  refine r_iload dX4_copy_121 rfl ?_
                  refine r_iload dX4_copy_123 rfl ?_
                  refine r_acpl (h' := hX R K kp tc n T (updZ Z 1 ((Z 1).1, (Z 1).2.1, va_cpy (Z 2).2.2 (Z 1).2.2 (tn f) (tn t) (tn m))) A f1 f2 f3 tok s b nu) cpL dX4_copy_125 (by decide) rfl rfl rfl p1.1 p2.1 p1.2.1 (by omega) (by omega) rfl ?_
                  refine r_iload dX4_copy_128 rfl ?_
                  refine r_iret dX4_copy_130 rfl rfl ?_ ?_
                  · rw [if_neg (of_decide_eq_false c42), if_neg (of_decide_eq_false c50), if_pos c70, c88, c100]
                  · rw [if_neg (of_decide_eq_false c42), if_neg (of_decide_eq_false c50), if_pos c70, c88, c100]
                    exact ⟨A, f1, f2, f3, tok, s, b, nu, HE.rf⟩
                · refine r_aload_n dX4_copy_103 rfl ?_
                  refine r_ldc kX4_45 dX4_copy_104 ?_
                  refine r_v1r (Z_tell 0 (by decide) (by decide)) (Nat.le_of_ble_eq_true rfl) mrX4_tell lkX4_46 rfl rfl rfl dX4_copy_106 (Nat.le_of_ble_eq_true rfl) ?_
                  refine r_iret dX4_copy_109 rfl rfl ?_ ?_
                  · first | (rw [if_neg (of_decide_eq_false c42), if_neg (of_decide_eq_false c50), if_pos c70, c88]; rfl) | (rw [if_neg (of_decide_eq_false c42), if_neg (of_decide_eq_false c50), if_pos c70, c88, c100]; rfl)
                  · first | (rw [if_neg (of_decide_eq_false c42), if_neg (of_decide_eq_false c50), if_pos c70, c88]; exact ⟨A, f1, f2, f3, tok, s, b, nu, HE.rf⟩) | (rw [if_neg (of_decide_eq_false c42), if_neg (of_decide_eq_false c50), if_pos c70, c88, c100]; exact ⟨A, f1, f2, f3, tok, s, b, nu, HE.rf⟩)
            · refine r_aload_n dX4_copy_73 rfl ?_
              refine r_ldc kX4_134 dX4_copy_74 ?_
              refine r_v1r (Z_tell 2 (by decide) (by decide)) (Nat.le_of_ble_eq_true rfl) mrX4_tell lkX4_46 rfl rfl rfl dX4_copy_76 (Nat.le_of_ble_eq_true rfl) ?_
              refine r_iret dX4_copy_79 rfl rfl ?_ ?_
              · rw [if_neg (of_decide_eq_false c42), if_neg (of_decide_eq_false c50), if_neg c70]; rfl
              · rw [if_neg (of_decide_eq_false c42), if_neg (of_decide_eq_false c50), if_neg c70]
                exact ⟨A, f1, f2, f3, tok, s, b, nu, HE.rf⟩
          · refine r_aload_n dX4_copy_53 rfl ?_
            refine r_ldc kX4_197 dX4_copy_54 ?_
            refine r_v1r (Z_tell 5 (by decide) (by decide)) (Nat.le_of_ble_eq_true rfl) mrX4_tell lkX4_46 rfl rfl rfl dX4_copy_56 (Nat.le_of_ble_eq_true rfl) ?_
            refine r_iret dX4_copy_59 rfl rfl ?_ ?_
            · first | (rw [if_pos (of_decide_eq_true c42)]; rfl) | (rw [if_neg (of_decide_eq_false c42), if_pos (of_decide_eq_true c50)]; rfl)
            · first | (rw [if_pos (of_decide_eq_true c42)]; exact ⟨A, f1, f2, f3, tok, s, b, nu, HE.rf⟩) | (rw [if_neg (of_decide_eq_false c42), if_pos (of_decide_eq_true c50)]; exact ⟨A, f1, f2, f3, tok, s, b, nu, HE.rf⟩)
      · refine r_aload_n dX4_copy_21 rfl ?_
        refine r_getfield dX4_copy_22 gfX4_31 rfl rfl ?_
        refine r_iload_n dX4_copy_25 rfl ?_
        refine r_aaldN dX4_copy_26 rfl (by first | decide | omega) (Nat.le_of_ble_eq_true rfl) rfl ?_
        refine r_astore (lv' := [_, _, _, _, _, _, _, _]) dX4_copy_27 (by decide) rfl ?_
        refine r_aload_n dX4_copy_29 rfl ?_
        refine r_getfield dX4_copy_30 gfX4_31 rfl rfl ?_
        refine r_iload_n dX4_copy_33 rfl ?_
        refine r_aaldN dX4_copy_34 rfl (by first | decide | omega) (Nat.le_of_ble_eq_true rfl) rfl ?_
        refine r_astore (lv' := [_, _, _, _, _, _, _, _]) dX4_copy_35 (by decide) rfl ?_
        refine r_aload dX4_copy_37 rfl ?_
        refine r_v0r Z_isMissing2 (Nat.le_of_ble_eq_true rfl) mrX2_isMissing lkX4_194 rfl rfl rfl dX4_copy_39 (Nat.le_of_ble_eq_true rfl) ?_
        refine r_if_neB 53 dX4_copy_42 (by decide) (fun c42 => ?_) (fun c42 => ?_)
        · refine r_aload_n dX4_copy_53 rfl ?_
          refine r_ldc kX4_197 dX4_copy_54 ?_
          refine r_v1r (Z_tell 5 (by decide) (by decide)) (Nat.le_of_ble_eq_true rfl) mrX4_tell lkX4_46 rfl rfl rfl dX4_copy_56 (Nat.le_of_ble_eq_true rfl) ?_
          refine r_iret dX4_copy_59 rfl rfl ?_ ?_
          · first | (rw [if_pos (of_decide_eq_true c42)]; rfl) | (rw [if_neg (of_decide_eq_false c42), if_pos (of_decide_eq_true c50)]; rfl)
          · first | (rw [if_pos (of_decide_eq_true c42)]; exact ⟨A, f1, f2, f3, tok, s, b, nu, HE.rf⟩) | (rw [if_neg (of_decide_eq_false c42), if_pos (of_decide_eq_true c50)]; exact ⟨A, f1, f2, f3, tok, s, b, nu, HE.rf⟩)
        · refine r_aload dX4_copy_45 rfl ?_
          refine r_v0r Z_isMissing2 (Nat.le_of_ble_eq_true rfl) mrX2_isMissing lkX4_194 rfl rfl rfl dX4_copy_47 (Nat.le_of_ble_eq_true rfl) ?_
          refine r_if_eqB 60 dX4_copy_50 (by decide) (fun c50 => ?_) (fun c50 => ?_)
          · refine r_aload dX4_copy_60 rfl ?_
            refine r_getfield dX4_copy_62 gfX4_205 rfl rfl ?_
            refine r_aload dX4_copy_65 rfl ?_
            refine r_getfield dX4_copy_67 gfX4_205 rfl rfl ?_
            refine r_icmp_eq 80 dX4_copy_70 (by decide) (fun c70 => ?_) (fun c70 => ?_)
            · refine r_aload dX4_copy_80 rfl ?_
              refine r_iload_n dX4_copy_82 rfl ?_
              refine r_iload dX4_copy_83 rfl ?_
              refine r_v2r (Z_spans2 ez hz) (Nat.le_of_ble_eq_true rfl) mrX2_spans lkX4_208 rfl rfl rfl dX4_copy_85 (Nat.le_of_ble_eq_true rfl) ?_
              refine r_if_eqB 103 dX4_copy_88 (by decide) (fun c88 => ?_) (fun c88 => ?_)
              · refine r_aload_n dX4_copy_103 rfl ?_
                refine r_ldc kX4_45 dX4_copy_104 ?_
                refine r_v1r (Z_tell 0 (by decide) (by decide)) (Nat.le_of_ble_eq_true rfl) mrX4_tell lkX4_46 rfl rfl rfl dX4_copy_106 (Nat.le_of_ble_eq_true rfl) ?_
                refine r_iret dX4_copy_109 rfl rfl ?_ ?_
                · first | (rw [if_neg (of_decide_eq_false c42), if_neg (of_decide_eq_false c50), if_pos c70, c88]; rfl) | (rw [if_neg (of_decide_eq_false c42), if_neg (of_decide_eq_false c50), if_pos c70, c88, c100]; rfl)
                · first | (rw [if_neg (of_decide_eq_false c42), if_neg (of_decide_eq_false c50), if_pos c70, c88]; exact ⟨A, f1, f2, f3, tok, s, b, nu, HE.rf⟩) | (rw [if_neg (of_decide_eq_false c42), if_neg (of_decide_eq_false c50), if_pos c70, c88, c100]; exact ⟨A, f1, f2, f3, tok, s, b, nu, HE.rf⟩)
              · refine r_aload dX4_copy_91 rfl ?_
                refine r_iload dX4_copy_93 rfl ?_
                refine r_iload dX4_copy_95 rfl ?_
                refine r_v2r (Z_spans2 ew hw) (Nat.le_of_ble_eq_true rfl) mrX2_spans lkX4_208 rfl rfl rfl dX4_copy_97 (Nat.le_of_ble_eq_true rfl) ?_
                refine r_if_neB 110 dX4_copy_100 (by decide) (fun c100 => ?_) (fun c100 => ?_)
                · have p1 := spn_of hz c88
                  have p2 := spn_of hw c100
                  refine r_aload dX4_copy_110 rfl ?_
                  refine r_getfield dX4_copy_112 gfX4_198 rfl rfl ?_
                  refine r_iload_n dX4_copy_115 rfl ?_
                  refine r_aload dX4_copy_116 rfl ?_
                  refine r_getfield dX4_copy_118 gfX4_198 rfl rfl ?_
                  refine r_iload dX4_copy_121 rfl ?_
                  refine r_iload dX4_copy_123 rfl ?_
                  refine r_acpl (h' := hX R K kp tc n T (updZ Z 2 ((Z 2).1, (Z 2).2.1, va_cpy (Z 2).2.2 (Z 2).2.2 (tn f) (tn t) (tn m))) A f1 f2 f3 tok s b nu) cpL dX4_copy_125 (by decide) rfl rfl rfl p1.1 p2.1 p1.2.1 (by omega) (by omega) rfl ?_
                  refine r_iload dX4_copy_128 rfl ?_
                  refine r_iret dX4_copy_130 rfl rfl ?_ ?_
                  · rw [if_neg (of_decide_eq_false c42), if_neg (of_decide_eq_false c50), if_pos c70, c88, c100]
                  · rw [if_neg (of_decide_eq_false c42), if_neg (of_decide_eq_false c50), if_pos c70, c88, c100]
                    exact ⟨A, f1, f2, f3, tok, s, b, nu, HE.rf⟩
                · refine r_aload_n dX4_copy_103 rfl ?_
                  refine r_ldc kX4_45 dX4_copy_104 ?_
                  refine r_v1r (Z_tell 0 (by decide) (by decide)) (Nat.le_of_ble_eq_true rfl) mrX4_tell lkX4_46 rfl rfl rfl dX4_copy_106 (Nat.le_of_ble_eq_true rfl) ?_
                  refine r_iret dX4_copy_109 rfl rfl ?_ ?_
                  · first | (rw [if_neg (of_decide_eq_false c42), if_neg (of_decide_eq_false c50), if_pos c70, c88]; rfl) | (rw [if_neg (of_decide_eq_false c42), if_neg (of_decide_eq_false c50), if_pos c70, c88, c100]; rfl)
                  · first | (rw [if_neg (of_decide_eq_false c42), if_neg (of_decide_eq_false c50), if_pos c70, c88]; exact ⟨A, f1, f2, f3, tok, s, b, nu, HE.rf⟩) | (rw [if_neg (of_decide_eq_false c42), if_neg (of_decide_eq_false c50), if_pos c70, c88, c100]; exact ⟨A, f1, f2, f3, tok, s, b, nu, HE.rf⟩)
            · refine r_aload_n dX4_copy_73 rfl ?_
              refine r_ldc kX4_134 dX4_copy_74 ?_
              refine r_v1r (Z_tell 2 (by decide) (by decide)) (Nat.le_of_ble_eq_true rfl) mrX4_tell lkX4_46 rfl rfl rfl dX4_copy_76 (Nat.le_of_ble_eq_true rfl) ?_
              refine r_iret dX4_copy_79 rfl rfl ?_ ?_
              · rw [if_neg (of_decide_eq_false c42), if_neg (of_decide_eq_false c50), if_neg c70]; rfl
              · rw [if_neg (of_decide_eq_false c42), if_neg (of_decide_eq_false c50), if_neg c70]
                exact ⟨A, f1, f2, f3, tok, s, b, nu, HE.rf⟩
          · refine r_aload_n dX4_copy_53 rfl ?_
            refine r_ldc kX4_197 dX4_copy_54 ?_
            refine r_v1r (Z_tell 5 (by decide) (by decide)) (Nat.le_of_ble_eq_true rfl) mrX4_tell lkX4_46 rfl rfl rfl dX4_copy_56 (Nat.le_of_ble_eq_true rfl) ?_
            refine r_iret dX4_copy_59 rfl rfl ?_ ?_
            · first | (rw [if_pos (of_decide_eq_true c42)]; rfl) | (rw [if_neg (of_decide_eq_false c42), if_pos (of_decide_eq_true c50)]; rfl)
            · first | (rw [if_pos (of_decide_eq_true c42)]; exact ⟨A, f1, f2, f3, tok, s, b, nu, HE.rf⟩) | (rw [if_neg (of_decide_eq_false c42), if_pos (of_decide_eq_true c50)]; exact ⟨A, f1, f2, f3, tok, s, b, nu, HE.rf⟩)
      · refine r_aload_n dX4_copy_21 rfl ?_
        refine r_getfield dX4_copy_22 gfX4_31 rfl rfl ?_
        refine r_iload_n dX4_copy_25 rfl ?_
        refine r_aaldN dX4_copy_26 rfl (by first | decide | omega) (Nat.le_of_ble_eq_true rfl) rfl ?_
        refine r_astore (lv' := [_, _, _, _, _, _, _, _]) dX4_copy_27 (by decide) rfl ?_
        refine r_aload_n dX4_copy_29 rfl ?_
        refine r_getfield dX4_copy_30 gfX4_31 rfl rfl ?_
        refine r_iload_n dX4_copy_33 rfl ?_
        refine r_aaldN dX4_copy_34 rfl (by first | decide | omega) (Nat.le_of_ble_eq_true rfl) rfl ?_
        refine r_astore (lv' := [_, _, _, _, _, _, _, _]) dX4_copy_35 (by decide) rfl ?_
        refine r_aload dX4_copy_37 rfl ?_
        refine r_v0r Z_isMissing2 (Nat.le_of_ble_eq_true rfl) mrX2_isMissing lkX4_194 rfl rfl rfl dX4_copy_39 (Nat.le_of_ble_eq_true rfl) ?_
        refine r_if_neB 53 dX4_copy_42 (by decide) (fun c42 => ?_) (fun c42 => ?_)
        · refine r_aload_n dX4_copy_53 rfl ?_
          refine r_ldc kX4_197 dX4_copy_54 ?_
          refine r_v1r (Z_tell 5 (by decide) (by decide)) (Nat.le_of_ble_eq_true rfl) mrX4_tell lkX4_46 rfl rfl rfl dX4_copy_56 (Nat.le_of_ble_eq_true rfl) ?_
          refine r_iret dX4_copy_59 rfl rfl ?_ ?_
          · first | (rw [if_pos (of_decide_eq_true c42)]; rfl) | (rw [if_neg (of_decide_eq_false c42), if_pos (of_decide_eq_true c50)]; rfl)
          · first | (rw [if_pos (of_decide_eq_true c42)]; exact ⟨A, f1, f2, f3, tok, s, b, nu, HE.rf⟩) | (rw [if_neg (of_decide_eq_false c42), if_pos (of_decide_eq_true c50)]; exact ⟨A, f1, f2, f3, tok, s, b, nu, HE.rf⟩)
        · refine r_aload dX4_copy_45 rfl ?_
          refine r_v0r Z_isMissing3 (Nat.le_of_ble_eq_true rfl) mrX2_isMissing lkX4_194 rfl rfl rfl dX4_copy_47 (Nat.le_of_ble_eq_true rfl) ?_
          refine r_if_eqB 60 dX4_copy_50 (by decide) (fun c50 => ?_) (fun c50 => ?_)
          · refine r_aload dX4_copy_60 rfl ?_
            refine r_getfield dX4_copy_62 gfX4_205 rfl rfl ?_
            refine r_aload dX4_copy_65 rfl ?_
            refine r_getfield dX4_copy_67 gfX4_205 rfl rfl ?_
            refine r_icmp_eq 80 dX4_copy_70 (by decide) (fun c70 => ?_) (fun c70 => ?_)
            · refine r_aload dX4_copy_80 rfl ?_
              refine r_iload_n dX4_copy_82 rfl ?_
              refine r_iload dX4_copy_83 rfl ?_
              refine r_v2r (Z_spans2 ez hz) (Nat.le_of_ble_eq_true rfl) mrX2_spans lkX4_208 rfl rfl rfl dX4_copy_85 (Nat.le_of_ble_eq_true rfl) ?_
              refine r_if_eqB 103 dX4_copy_88 (by decide) (fun c88 => ?_) (fun c88 => ?_)
              · refine r_aload_n dX4_copy_103 rfl ?_
                refine r_ldc kX4_45 dX4_copy_104 ?_
                refine r_v1r (Z_tell 0 (by decide) (by decide)) (Nat.le_of_ble_eq_true rfl) mrX4_tell lkX4_46 rfl rfl rfl dX4_copy_106 (Nat.le_of_ble_eq_true rfl) ?_
                refine r_iret dX4_copy_109 rfl rfl ?_ ?_
                · first | (rw [if_neg (of_decide_eq_false c42), if_neg (of_decide_eq_false c50), if_pos c70, c88]; rfl) | (rw [if_neg (of_decide_eq_false c42), if_neg (of_decide_eq_false c50), if_pos c70, c88, c100]; rfl)
                · first | (rw [if_neg (of_decide_eq_false c42), if_neg (of_decide_eq_false c50), if_pos c70, c88]; exact ⟨A, f1, f2, f3, tok, s, b, nu, HE.rf⟩) | (rw [if_neg (of_decide_eq_false c42), if_neg (of_decide_eq_false c50), if_pos c70, c88, c100]; exact ⟨A, f1, f2, f3, tok, s, b, nu, HE.rf⟩)
              · refine r_aload dX4_copy_91 rfl ?_
                refine r_iload dX4_copy_93 rfl ?_
                refine r_iload dX4_copy_95 rfl ?_
                refine r_v2r (Z_spans3 ew hw) (Nat.le_of_ble_eq_true rfl) mrX2_spans lkX4_208 rfl rfl rfl dX4_copy_97 (Nat.le_of_ble_eq_true rfl) ?_
                refine r_if_neB 110 dX4_copy_100 (by decide) (fun c100 => ?_) (fun c100 => ?_)
                · have p1 := spn_of hz c88
                  have p2 := spn_of hw c100
                  refine r_aload dX4_copy_110 rfl ?_
                  refine r_getfield dX4_copy_112 gfX4_198 rfl rfl ?_
                  refine r_iload_n dX4_copy_115 rfl ?_
                  refine r_aload dX4_copy_116 rfl ?_
                  refine r_getfield dX4_copy_118 gfX4_198 rfl rfl ?_
                  refine r_iload dX4_copy_121 rfl ?_
                  refine r_iload dX4_copy_123 rfl ?_
                  refine r_acpl (h' := hX R K kp tc n T (updZ Z 3 ((Z 3).1, (Z 3).2.1, va_cpy (Z 2).2.2 (Z 3).2.2 (tn f) (tn t) (tn m))) A f1 f2 f3 tok s b nu) cpL dX4_copy_125 (by decide) rfl rfl rfl p1.1 p2.1 p1.2.1 (by omega) (by omega) rfl ?_
                  refine r_iload dX4_copy_128 rfl ?_
                  refine r_iret dX4_copy_130 rfl rfl ?_ ?_
                  · rw [if_neg (of_decide_eq_false c42), if_neg (of_decide_eq_false c50), if_pos c70, c88, c100]
                  · rw [if_neg (of_decide_eq_false c42), if_neg (of_decide_eq_false c50), if_pos c70, c88, c100]
                    exact ⟨A, f1, f2, f3, tok, s, b, nu, HE.rf⟩
                · refine r_aload_n dX4_copy_103 rfl ?_
                  refine r_ldc kX4_45 dX4_copy_104 ?_
                  refine r_v1r (Z_tell 0 (by decide) (by decide)) (Nat.le_of_ble_eq_true rfl) mrX4_tell lkX4_46 rfl rfl rfl dX4_copy_106 (Nat.le_of_ble_eq_true rfl) ?_
                  refine r_iret dX4_copy_109 rfl rfl ?_ ?_
                  · first | (rw [if_neg (of_decide_eq_false c42), if_neg (of_decide_eq_false c50), if_pos c70, c88]; rfl) | (rw [if_neg (of_decide_eq_false c42), if_neg (of_decide_eq_false c50), if_pos c70, c88, c100]; rfl)
                  · first | (rw [if_neg (of_decide_eq_false c42), if_neg (of_decide_eq_false c50), if_pos c70, c88]; exact ⟨A, f1, f2, f3, tok, s, b, nu, HE.rf⟩) | (rw [if_neg (of_decide_eq_false c42), if_neg (of_decide_eq_false c50), if_pos c70, c88, c100]; exact ⟨A, f1, f2, f3, tok, s, b, nu, HE.rf⟩)
            · refine r_aload_n dX4_copy_73 rfl ?_
              refine r_ldc kX4_134 dX4_copy_74 ?_
              refine r_v1r (Z_tell 2 (by decide) (by decide)) (Nat.le_of_ble_eq_true rfl) mrX4_tell lkX4_46 rfl rfl rfl dX4_copy_76 (Nat.le_of_ble_eq_true rfl) ?_
              refine r_iret dX4_copy_79 rfl rfl ?_ ?_
              · rw [if_neg (of_decide_eq_false c42), if_neg (of_decide_eq_false c50), if_neg c70]; rfl
              · rw [if_neg (of_decide_eq_false c42), if_neg (of_decide_eq_false c50), if_neg c70]
                exact ⟨A, f1, f2, f3, tok, s, b, nu, HE.rf⟩
          · refine r_aload_n dX4_copy_53 rfl ?_
            refine r_ldc kX4_197 dX4_copy_54 ?_
            refine r_v1r (Z_tell 5 (by decide) (by decide)) (Nat.le_of_ble_eq_true rfl) mrX4_tell lkX4_46 rfl rfl rfl dX4_copy_56 (Nat.le_of_ble_eq_true rfl) ?_
            refine r_iret dX4_copy_59 rfl rfl ?_ ?_
            · first | (rw [if_pos (of_decide_eq_true c42)]; rfl) | (rw [if_neg (of_decide_eq_false c42), if_pos (of_decide_eq_true c50)]; rfl)
            · first | (rw [if_pos (of_decide_eq_true c42)]; exact ⟨A, f1, f2, f3, tok, s, b, nu, HE.rf⟩) | (rw [if_neg (of_decide_eq_false c42), if_pos (of_decide_eq_true c50)]; exact ⟨A, f1, f2, f3, tok, s, b, nu, HE.rf⟩)
    · rcases (show j = 0 ∨ j = 1 ∨ j = 2 ∨ j = 3 by omega) with rfl | rfl | rfl | rfl
      · refine r_aload_n dX4_copy_21 rfl ?_
        refine r_getfield dX4_copy_22 gfX4_31 rfl rfl ?_
        refine r_iload_n dX4_copy_25 rfl ?_
        refine r_aaldN dX4_copy_26 rfl (by first | decide | omega) (Nat.le_of_ble_eq_true rfl) rfl ?_
        refine r_astore (lv' := [_, _, _, _, _, _, _, _]) dX4_copy_27 (by decide) rfl ?_
        refine r_aload_n dX4_copy_29 rfl ?_
        refine r_getfield dX4_copy_30 gfX4_31 rfl rfl ?_
        refine r_iload_n dX4_copy_33 rfl ?_
        refine r_aaldN dX4_copy_34 rfl (by first | decide | omega) (Nat.le_of_ble_eq_true rfl) rfl ?_
        refine r_astore (lv' := [_, _, _, _, _, _, _, _]) dX4_copy_35 (by decide) rfl ?_
        refine r_aload dX4_copy_37 rfl ?_
        refine r_v0r Z_isMissing3 (Nat.le_of_ble_eq_true rfl) mrX2_isMissing lkX4_194 rfl rfl rfl dX4_copy_39 (Nat.le_of_ble_eq_true rfl) ?_
        refine r_if_neB 53 dX4_copy_42 (by decide) (fun c42 => ?_) (fun c42 => ?_)
        · refine r_aload_n dX4_copy_53 rfl ?_
          refine r_ldc kX4_197 dX4_copy_54 ?_
          refine r_v1r (Z_tell 5 (by decide) (by decide)) (Nat.le_of_ble_eq_true rfl) mrX4_tell lkX4_46 rfl rfl rfl dX4_copy_56 (Nat.le_of_ble_eq_true rfl) ?_
          refine r_iret dX4_copy_59 rfl rfl ?_ ?_
          · first | (rw [if_pos (of_decide_eq_true c42)]; rfl) | (rw [if_neg (of_decide_eq_false c42), if_pos (of_decide_eq_true c50)]; rfl)
          · first | (rw [if_pos (of_decide_eq_true c42)]; exact ⟨A, f1, f2, f3, tok, s, b, nu, HE.rf⟩) | (rw [if_neg (of_decide_eq_false c42), if_pos (of_decide_eq_true c50)]; exact ⟨A, f1, f2, f3, tok, s, b, nu, HE.rf⟩)
        · refine r_aload dX4_copy_45 rfl ?_
          refine r_v0r Z_isMissing0 (Nat.le_of_ble_eq_true rfl) mrX2_isMissing lkX4_194 rfl rfl rfl dX4_copy_47 (Nat.le_of_ble_eq_true rfl) ?_
          refine r_if_eqB 60 dX4_copy_50 (by decide) (fun c50 => ?_) (fun c50 => ?_)
          · refine r_aload dX4_copy_60 rfl ?_
            refine r_getfield dX4_copy_62 gfX4_205 rfl rfl ?_
            refine r_aload dX4_copy_65 rfl ?_
            refine r_getfield dX4_copy_67 gfX4_205 rfl rfl ?_
            refine r_icmp_eq 80 dX4_copy_70 (by decide) (fun c70 => ?_) (fun c70 => ?_)
            · refine r_aload dX4_copy_80 rfl ?_
              refine r_iload_n dX4_copy_82 rfl ?_
              refine r_iload dX4_copy_83 rfl ?_
              refine r_v2r (Z_spans3 ez hz) (Nat.le_of_ble_eq_true rfl) mrX2_spans lkX4_208 rfl rfl rfl dX4_copy_85 (Nat.le_of_ble_eq_true rfl) ?_
              refine r_if_eqB 103 dX4_copy_88 (by decide) (fun c88 => ?_) (fun c88 => ?_)
              · refine r_aload_n dX4_copy_103 rfl ?_
                refine r_ldc kX4_45 dX4_copy_104 ?_
                refine r_v1r (Z_tell 0 (by decide) (by decide)) (Nat.le_of_ble_eq_true rfl) mrX4_tell lkX4_46 rfl rfl rfl dX4_copy_106 (Nat.le_of_ble_eq_true rfl) ?_
                refine r_iret dX4_copy_109 rfl rfl ?_ ?_
                · first | (rw [if_neg (of_decide_eq_false c42), if_neg (of_decide_eq_false c50), if_pos c70, c88]; rfl) | (rw [if_neg (of_decide_eq_false c42), if_neg (of_decide_eq_false c50), if_pos c70, c88, c100]; rfl)
                · first | (rw [if_neg (of_decide_eq_false c42), if_neg (of_decide_eq_false c50), if_pos c70, c88]; exact ⟨A, f1, f2, f3, tok, s, b, nu, HE.rf⟩) | (rw [if_neg (of_decide_eq_false c42), if_neg (of_decide_eq_false c50), if_pos c70, c88, c100]; exact ⟨A, f1, f2, f3, tok, s, b, nu, HE.rf⟩)
              · refine r_aload dX4_copy_91 rfl ?_
                refine r_iload dX4_copy_93 rfl ?_
                refine r_iload dX4_copy_95 rfl ?_
                refine r_v2r (Z_spans0 ew hw) (Nat.le_of_ble_eq_true rfl) mrX2_spans lkX4_208 rfl rfl rfl dX4_copy_97 (Nat.le_of_ble_eq_true rfl) ?_
                refine r_if_neB 110 dX4_copy_100 (by decide) (fun c100 => ?_) (fun c100 => ?_)
                · have p1 := spn_of hz c88
                  have p2 := spn_of hw c100
                  refine r_aload dX4_copy_110 rfl ?_
                  refine r_getfield dX4_copy_112 gfX4_198 rfl rfl ?_
                  refine r_iload_n dX4_copy_115 rfl ?_
                  refine r_aload dX4_copy_116 rfl ?_
                  refine r_getfield dX4_copy_118 gfX4_198 rfl rfl ?_
                  refine r_iload dX4_copy_121 rfl ?_
                  refine r_iload dX4_copy_123 rfl ?_
                  refine r_acpl (h' := hX R K kp tc n T (updZ Z 0 ((Z 0).1, (Z 0).2.1, va_cpy (Z 3).2.2 (Z 0).2.2 (tn f) (tn t) (tn m))) A f1 f2 f3 tok s b nu) cpL dX4_copy_125 (by decide) rfl rfl rfl p1.1 p2.1 p1.2.1 (by omega) (by omega) rfl ?_
                  refine r_iload dX4_copy_128 rfl ?_
                  refine r_iret dX4_copy_130 rfl rfl ?_ ?_
                  · rw [if_neg (of_decide_eq_false c42), if_neg (of_decide_eq_false c50), if_pos c70, c88, c100]
                  · rw [if_neg (of_decide_eq_false c42), if_neg (of_decide_eq_false c50), if_pos c70, c88, c100]
                    exact ⟨A, f1, f2, f3, tok, s, b, nu, HE.rf⟩
                · refine r_aload_n dX4_copy_103 rfl ?_
                  refine r_ldc kX4_45 dX4_copy_104 ?_
                  refine r_v1r (Z_tell 0 (by decide) (by decide)) (Nat.le_of_ble_eq_true rfl) mrX4_tell lkX4_46 rfl rfl rfl dX4_copy_106 (Nat.le_of_ble_eq_true rfl) ?_
                  refine r_iret dX4_copy_109 rfl rfl ?_ ?_
                  · first | (rw [if_neg (of_decide_eq_false c42), if_neg (of_decide_eq_false c50), if_pos c70, c88]; rfl) | (rw [if_neg (of_decide_eq_false c42), if_neg (of_decide_eq_false c50), if_pos c70, c88, c100]; rfl)
                  · first | (rw [if_neg (of_decide_eq_false c42), if_neg (of_decide_eq_false c50), if_pos c70, c88]; exact ⟨A, f1, f2, f3, tok, s, b, nu, HE.rf⟩) | (rw [if_neg (of_decide_eq_false c42), if_neg (of_decide_eq_false c50), if_pos c70, c88, c100]; exact ⟨A, f1, f2, f3, tok, s, b, nu, HE.rf⟩)
            · refine r_aload_n dX4_copy_73 rfl ?_
              refine r_ldc kX4_134 dX4_copy_74 ?_
              refine r_v1r (Z_tell 2 (by decide) (by decide)) (Nat.le_of_ble_eq_true rfl) mrX4_tell lkX4_46 rfl rfl rfl dX4_copy_76 (Nat.le_of_ble_eq_true rfl) ?_
              refine r_iret dX4_copy_79 rfl rfl ?_ ?_
              · rw [if_neg (of_decide_eq_false c42), if_neg (of_decide_eq_false c50), if_neg c70]; rfl
              · rw [if_neg (of_decide_eq_false c42), if_neg (of_decide_eq_false c50), if_neg c70]
                exact ⟨A, f1, f2, f3, tok, s, b, nu, HE.rf⟩
          · refine r_aload_n dX4_copy_53 rfl ?_
            refine r_ldc kX4_197 dX4_copy_54 ?_
            refine r_v1r (Z_tell 5 (by decide) (by decide)) (Nat.le_of_ble_eq_true rfl) mrX4_tell lkX4_46 rfl rfl rfl dX4_copy_56 (Nat.le_of_ble_eq_true rfl) ?_
            refine r_iret dX4_copy_59 rfl rfl ?_ ?_
            · first | (rw [if_pos (of_decide_eq_true c42)]; rfl) | (rw [if_neg (of_decide_eq_false c42), if_pos (of_decide_eq_true c50)]; rfl)
            · first | (rw [if_pos (of_decide_eq_true c42)]; exact ⟨A, f1, f2, f3, tok, s, b, nu, HE.rf⟩) | (rw [if_neg (of_decide_eq_false c42), if_pos (of_decide_eq_true c50)]; exact ⟨A, f1, f2, f3, tok, s, b, nu, HE.rf⟩)
      · refine r_aload_n dX4_copy_21 rfl ?_
        refine r_getfield dX4_copy_22 gfX4_31 rfl rfl ?_
        refine r_iload_n dX4_copy_25 rfl ?_
        refine r_aaldN dX4_copy_26 rfl (by first | decide | omega) (Nat.le_of_ble_eq_true rfl) rfl ?_
        refine r_astore (lv' := [_, _, _, _, _, _, _, _]) dX4_copy_27 (by decide) rfl ?_
        refine r_aload_n dX4_copy_29 rfl ?_
        refine r_getfield dX4_copy_30 gfX4_31 rfl rfl ?_
        refine r_iload_n dX4_copy_33 rfl ?_
        refine r_aaldN dX4_copy_34 rfl (by first | decide | omega) (Nat.le_of_ble_eq_true rfl) rfl ?_
        refine r_astore (lv' := [_, _, _, _, _, _, _, _]) dX4_copy_35 (by decide) rfl ?_
        refine r_aload dX4_copy_37 rfl ?_
        refine r_v0r Z_isMissing3 (Nat.le_of_ble_eq_true rfl) mrX2_isMissing lkX4_194 rfl rfl rfl dX4_copy_39 (Nat.le_of_ble_eq_true rfl) ?_
        refine r_if_neB 53 dX4_copy_42 (by decide) (fun c42 => ?_) (fun c42 => ?_)
        · refine r_aload_n dX4_copy_53 rfl ?_
          refine r_ldc kX4_197 dX4_copy_54 ?_
          refine r_v1r (Z_tell 5 (by decide) (by decide)) (Nat.le_of_ble_eq_true rfl) mrX4_tell lkX4_46 rfl rfl rfl dX4_copy_56 (Nat.le_of_ble_eq_true rfl) ?_
          refine r_iret dX4_copy_59 rfl rfl ?_ ?_
          · first | (rw [if_pos (of_decide_eq_true c42)]; rfl) | (rw [if_neg (of_decide_eq_false c42), if_pos (of_decide_eq_true c50)]; rfl)
          · first | (rw [if_pos (of_decide_eq_true c42)]; exact ⟨A, f1, f2, f3, tok, s, b, nu, HE.rf⟩) | (rw [if_neg (of_decide_eq_false c42), if_pos (of_decide_eq_true c50)]; exact ⟨A, f1, f2, f3, tok, s, b, nu, HE.rf⟩)
        · refine r_aload dX4_copy_45 rfl ?_
          refine r_v0r Z_isMissing1 (Nat.le_of_ble_eq_true rfl) mrX2_isMissing lkX4_194 rfl rfl rfl dX4_copy_47 (Nat.le_of_ble_eq_true rfl) ?_
          refine r_if_eqB 60 dX4_copy_50 (by decide) (fun c50 => ?_) (fun c50 => ?_)
          · refine r_aload dX4_copy_60 rfl ?_
            refine r_getfield dX4_copy_62 gfX4_205 rfl rfl ?_
            refine r_aload dX4_copy_65 rfl ?_
            refine r_getfield dX4_copy_67 gfX4_205 rfl rfl ?_
            refine r_icmp_eq 80 dX4_copy_70 (by decide) (fun c70 => ?_) (fun c70 => ?_)
            · refine r_aload dX4_copy_80 rfl ?_
              refine r_iload_n dX4_copy_82 rfl ?_
              refine r_iload dX4_copy_83 rfl ?_
              refine r_v2r (Z_spans3 ez hz) (Nat.le_of_ble_eq_true rfl) mrX2_spans lkX4_208 rfl rfl rfl dX4_copy_85 (Nat.le_of_ble_eq_true rfl) ?_
              refine r_if_eqB 103 dX4_copy_88 (by decide) (fun c88 => ?_) (fun c88 => ?_)
              · refine r_aload_n dX4_copy_103 rfl ?_
                refine r_ldc kX4_45 dX4_copy_104 ?_
                refine r_v1r (Z_tell 0 (by decide) (by decide)) (Nat.le_of_ble_eq_true rfl) mrX4_tell lkX4_46 rfl rfl rfl dX4_copy_106 (Nat.le_of_ble_eq_true rfl) ?_
                refine r_iret dX4_copy_109 rfl rfl ?_ ?_
                · first | (rw [if_neg (of_decide_eq_false c42), if_neg (of_decide_eq_false c50), if_pos c70, c88]; rfl) | (rw [if_neg (of_decide_eq_false c42), if_neg (of_decide_eq_false c50), if_pos c70, c88, c100]; rfl)
                · first | (rw [if_neg (of_decide_eq_false c42), if_neg (of_decide_eq_false c50), if_pos c70, c88]; exact ⟨A, f1, f2, f3, tok, s, b, nu, HE.rf⟩) | (rw [if_neg (of_decide_eq_false c42), if_neg (of_decide_eq_false c50), if_pos c70, c88, c100]; exact ⟨A, f1, f2, f3, tok, s, b, nu, HE.rf⟩)
              · refine r_aload dX4_copy_91 rfl ?_
                refine r_iload dX4_copy_93 rfl ?_
                refine r_iload dX4_copy_95 rfl ?_
                refine r_v2r (Z_spans1 ew hw) (Nat.le_of_ble_eq_true rfl) mrX2_spans lkX4_208 rfl rfl rfl dX4_copy_97 (Nat.le_of_ble_eq_true rfl) ?_
                refine r_if_neB 110 dX4_copy_100 (by decide) (fun c100 => ?_) (fun c100 => ?_)
                · have p1 := spn_of hz c88
                  have p2 := spn_of hw c100
                  refine r_aload dX4_copy_110 rfl ?_
                  refine r_getfield dX4_copy_112 gfX4_198 rfl rfl ?_
                  refine r_iload_n dX4_copy_115 rfl ?_
                  refine r_aload dX4_copy_116 rfl ?_
                  refine r_getfield dX4_copy_118 gfX4_198 rfl rfl ?_
                  refine r_iload dX4_copy_121 rfl ?_
                  refine r_iload dX4_copy_123 rfl ?_
                  refine r_acpl (h' := hX R K kp tc n T (updZ Z 1 ((Z 1).1, (Z 1).2.1, va_cpy (Z 3).2.2 (Z 1).2.2 (tn f) (tn t) (tn m))) A f1 f2 f3 tok s b nu) cpL dX4_copy_125 (by decide) rfl rfl rfl p1.1 p2.1 p1.2.1 (by omega) (by omega) rfl ?_
                  refine r_iload dX4_copy_128 rfl ?_
                  refine r_iret dX4_copy_130 rfl rfl ?_ ?_
                  · rw [if_neg (of_decide_eq_false c42), if_neg (of_decide_eq_false c50), if_pos c70, c88, c100]
                  · rw [if_neg (of_decide_eq_false c42), if_neg (of_decide_eq_false c50), if_pos c70, c88, c100]
                    exact ⟨A, f1, f2, f3, tok, s, b, nu, HE.rf⟩
                · refine r_aload_n dX4_copy_103 rfl ?_
                  refine r_ldc kX4_45 dX4_copy_104 ?_
                  refine r_v1r (Z_tell 0 (by decide) (by decide)) (Nat.le_of_ble_eq_true rfl) mrX4_tell lkX4_46 rfl rfl rfl dX4_copy_106 (Nat.le_of_ble_eq_true rfl) ?_
                  refine r_iret dX4_copy_109 rfl rfl ?_ ?_
                  · first | (rw [if_neg (of_decide_eq_false c42), if_neg (of_decide_eq_false c50), if_pos c70, c88]; rfl) | (rw [if_neg (of_decide_eq_false c42), if_neg (of_decide_eq_false c50), if_pos c70, c88, c100]; rfl)
                  · first | (rw [if_neg (of_decide_eq_false c42), if_neg (of_decide_eq_false c50), if_pos c70, c88]; exact ⟨A, f1, f2, f3, tok, s, b, nu, HE.rf⟩) | (rw [if_neg (of_decide_eq_false c42), if_neg (of_decide_eq_false c50), if_pos c70, c88, c100]; exact ⟨A, f1, f2, f3, tok, s, b, nu, HE.rf⟩)
            · refine r_aload_n dX4_copy_73 rfl ?_
              refine r_ldc kX4_134 dX4_copy_74 ?_
              refine r_v1r (Z_tell 2 (by decide) (by decide)) (Nat.le_of_ble_eq_true rfl) mrX4_tell lkX4_46 rfl rfl rfl dX4_copy_76 (Nat.le_of_ble_eq_true rfl) ?_
              refine r_iret dX4_copy_79 rfl rfl ?_ ?_
              · rw [if_neg (of_decide_eq_false c42), if_neg (of_decide_eq_false c50), if_neg c70]; rfl
              · rw [if_neg (of_decide_eq_false c42), if_neg (of_decide_eq_false c50), if_neg c70]
                exact ⟨A, f1, f2, f3, tok, s, b, nu, HE.rf⟩
          · refine r_aload_n dX4_copy_53 rfl ?_
            refine r_ldc kX4_197 dX4_copy_54 ?_
            refine r_v1r (Z_tell 5 (by decide) (by decide)) (Nat.le_of_ble_eq_true rfl) mrX4_tell lkX4_46 rfl rfl rfl dX4_copy_56 (Nat.le_of_ble_eq_true rfl) ?_
            refine r_iret dX4_copy_59 rfl rfl ?_ ?_
            · first | (rw [if_pos (of_decide_eq_true c42)]; rfl) | (rw [if_neg (of_decide_eq_false c42), if_pos (of_decide_eq_true c50)]; rfl)
            · first | (rw [if_pos (of_decide_eq_true c42)]; exact ⟨A, f1, f2, f3, tok, s, b, nu, HE.rf⟩) | (rw [if_neg (of_decide_eq_false c42), if_pos (of_decide_eq_true c50)]; exact ⟨A, f1, f2, f3, tok, s, b, nu, HE.rf⟩)
      · refine r_aload_n dX4_copy_21 rfl ?_
        refine r_getfield dX4_copy_22 gfX4_31 rfl rfl ?_
        refine r_iload_n dX4_copy_25 rfl ?_
        refine r_aaldN dX4_copy_26 rfl (by first | decide | omega) (Nat.le_of_ble_eq_true rfl) rfl ?_
        refine r_astore (lv' := [_, _, _, _, _, _, _, _]) dX4_copy_27 (by decide) rfl ?_
        refine r_aload_n dX4_copy_29 rfl ?_
        refine r_getfield dX4_copy_30 gfX4_31 rfl rfl ?_
        refine r_iload_n dX4_copy_33 rfl ?_
        refine r_aaldN dX4_copy_34 rfl (by first | decide | omega) (Nat.le_of_ble_eq_true rfl) rfl ?_
        refine r_astore (lv' := [_, _, _, _, _, _, _, _]) dX4_copy_35 (by decide) rfl ?_
        refine r_aload dX4_copy_37 rfl ?_
        refine r_v0r Z_isMissing3 (Nat.le_of_ble_eq_true rfl) mrX2_isMissing lkX4_194 rfl rfl rfl dX4_copy_39 (Nat.le_of_ble_eq_true rfl) ?_
        refine r_if_neB 53 dX4_copy_42 (by decide) (fun c42 => ?_) (fun c42 => ?_)
        · refine r_aload_n dX4_copy_53 rfl ?_
          refine r_ldc kX4_197 dX4_copy_54 ?_
          refine r_v1r (Z_tell 5 (by decide) (by decide)) (Nat.le_of_ble_eq_true rfl) mrX4_tell lkX4_46 rfl rfl rfl dX4_copy_56 (Nat.le_of_ble_eq_true rfl) ?_
          refine r_iret dX4_copy_59 rfl rfl ?_ ?_
          · first | (rw [if_pos (of_decide_eq_true c42)]; rfl) | (rw [if_neg (of_decide_eq_false c42), if_pos (of_decide_eq_true c50)]; rfl)
          · first | (rw [if_pos (of_decide_eq_true c42)]; exact ⟨A, f1, f2, f3, tok, s, b, nu, HE.rf⟩) | (rw [if_neg (of_decide_eq_false c42), if_pos (of_decide_eq_true c50)]; exact ⟨A, f1, f2, f3, tok, s, b, nu, HE.rf⟩)
        · refine r_aload dX4_copy_45 rfl ?_
          refine r_v0r Z_isMissing2 (Nat.le_of_ble_eq_true rfl) mrX2_isMissing lkX4_194 rfl rfl rfl dX4_copy_47 (Nat.le_of_ble_eq_true rfl) ?_
          refine r_if_eqB 60 dX4_copy_50 (by decide) (fun c50 => ?_) (fun c50 => ?_)
          · refine r_aload dX4_copy_60 rfl ?_
            refine r_getfield dX4_copy_62 gfX4_205 rfl rfl ?_
            refine r_aload dX4_copy_65 rfl ?_
            refine r_getfield dX4_copy_67 gfX4_205 rfl rfl ?_
            refine r_icmp_eq 80 dX4_copy_70 (by decide) (fun c70 => ?_) (fun c70 => ?_)
            · refine r_aload dX4_copy_80 rfl ?_
              refine r_iload_n dX4_copy_82 rfl ?_
              refine r_iload dX4_copy_83 rfl ?_
              refine r_v2r (Z_spans3 ez hz) (Nat.le_of_ble_eq_true rfl) mrX2_spans lkX4_208 rfl rfl rfl dX4_copy_85 (Nat.le_of_ble_eq_true rfl) ?_
              refine r_if_eqB 103 dX4_copy_88 (by decide) (fun c88 => ?_) (fun c88 => ?_)
              · refine r_aload_n dX4_copy_103 rfl ?_
                refine r_ldc kX4_45 dX4_copy_104 ?_
                refine r_v1r (Z_tell 0 (by decide) (by decide)) (Nat.le_of_ble_eq_true rfl) mrX4_tell lkX4_46 rfl rfl rfl dX4_copy_106 (Nat.le_of_ble_eq_true rfl) ?_
                refine r_iret dX4_copy_109 rfl rfl ?_ ?_
                · first | (rw [if_neg (of_decide_eq_false c42), if_neg (of_decide_eq_false c50), if_pos c70, c88]; rfl) | (rw [if_neg (of_decide_eq_false c42), if_neg (of_decide_eq_false c50), if_pos c70, c88, c100]; rfl)
                · first | (rw [if_neg (of_decide_eq_false c42), if_neg (of_decide_eq_false c50), if_pos c70, c88]; exact ⟨A, f1, f2, f3, tok, s, b, nu, HE.rf⟩) | (rw [if_neg (of_decide_eq_false c42), if_neg (of_decide_eq_false c50), if_pos c70, c88, c100]; exact ⟨A, f1, f2, f3, tok, s, b, nu, HE.rf⟩)
              · refine r_aload dX4_copy_91 rfl ?_
                refine r_iload dX4_copy_93 rfl ?_
                refine r_iload dX4_copy_95 rfl ?_
                refine r_v2r (Z_spans2 ew hw) (Nat.le_of_ble_eq_true rfl) mrX2_spans lkX4_208 rfl rfl rfl dX4_copy_97 (Nat.le_of_ble_eq_true rfl) ?_
                refine r_if_neB 110 dX4_copy_100 (by decide) (fun c100 => ?_) (fun c100 => ?_)
                · have p1 := spn_of hz c88
                  have p2 := spn_of hw c100
                  refine r_aload dX4_copy_110 rfl ?_
                  refine r_getfield dX4_copy_112 gfX4_198 rfl rfl ?_
                  refine r_iload_n dX4_copy_115 rfl ?_
                  refine r_aload dX4_copy_116 rfl ?_
                  refine r_getfield dX4_copy_118 gfX4_198 rfl rfl ?_
                  refine r_iload dX4_copy_121 rfl ?_
                  refine r_iload dX4_copy_123 rfl ?_
                  refine r_acpl (h' := hX R K kp tc n T (updZ Z 2 ((Z 2).1, (Z 2).2.1, va_cpy (Z 3).2.2 (Z 2).2.2 (tn f) (tn t) (tn m))) A f1 f2 f3 tok s b nu) cpL dX4_copy_125 (by decide) rfl rfl rfl p1.1 p2.1 p1.2.1 (by omega) (by omega) rfl ?_
                  refine r_iload dX4_copy_128 rfl ?_
                  refine r_iret dX4_copy_130 rfl rfl ?_ ?_
                  · rw [if_neg (of_decide_eq_false c42), if_neg (of_decide_eq_false c50), if_pos c70, c88, c100]
                  · rw [if_neg (of_decide_eq_false c42), if_neg (of_decide_eq_false c50), if_pos c70, c88, c100]
                    exact ⟨A, f1, f2, f3, tok, s, b, nu, HE.rf⟩
                · refine r_aload_n dX4_copy_103 rfl ?_
                  refine r_ldc kX4_45 dX4_copy_104 ?_
                  refine r_v1r (Z_tell 0 (by decide) (by decide)) (Nat.le_of_ble_eq_true rfl) mrX4_tell lkX4_46 rfl rfl rfl dX4_copy_106 (Nat.le_of_ble_eq_true rfl) ?_
                  refine r_iret dX4_copy_109 rfl rfl ?_ ?_
                  · first | (rw [if_neg (of_decide_eq_false c42), if_neg (of_decide_eq_false c50), if_pos c70, c88]; rfl) | (rw [if_neg (of_decide_eq_false c42), if_neg (of_decide_eq_false c50), if_pos c70, c88, c100]; rfl)
                  · first | (rw [if_neg (of_decide_eq_false c42), if_neg (of_decide_eq_false c50), if_pos c70, c88]; exact ⟨A, f1, f2, f3, tok, s, b, nu, HE.rf⟩) | (rw [if_neg (of_decide_eq_false c42), if_neg (of_decide_eq_false c50), if_pos c70, c88, c100]; exact ⟨A, f1, f2, f3, tok, s, b, nu, HE.rf⟩)
            · refine r_aload_n dX4_copy_73 rfl ?_
              refine r_ldc kX4_134 dX4_copy_74 ?_
              refine r_v1r (Z_tell 2 (by decide) (by decide)) (Nat.le_of_ble_eq_true rfl) mrX4_tell lkX4_46 rfl rfl rfl dX4_copy_76 (Nat.le_of_ble_eq_true rfl) ?_
              refine r_iret dX4_copy_79 rfl rfl ?_ ?_
              · rw [if_neg (of_decide_eq_false c42), if_neg (of_decide_eq_false c50), if_neg c70]; rfl
              · rw [if_neg (of_decide_eq_false c42), if_neg (of_decide_eq_false c50), if_neg c70]
                exact ⟨A, f1, f2, f3, tok, s, b, nu, HE.rf⟩
          · refine r_aload_n dX4_copy_53 rfl ?_
            refine r_ldc kX4_197 dX4_copy_54 ?_
            refine r_v1r (Z_tell 5 (by decide) (by decide)) (Nat.le_of_ble_eq_true rfl) mrX4_tell lkX4_46 rfl rfl rfl dX4_copy_56 (Nat.le_of_ble_eq_true rfl) ?_
            refine r_iret dX4_copy_59 rfl rfl ?_ ?_
            · first | (rw [if_pos (of_decide_eq_true c42)]; rfl) | (rw [if_neg (of_decide_eq_false c42), if_pos (of_decide_eq_true c50)]; rfl)
            · first | (rw [if_pos (of_decide_eq_true c42)]; exact ⟨A, f1, f2, f3, tok, s, b, nu, HE.rf⟩) | (rw [if_neg (of_decide_eq_false c42), if_pos (of_decide_eq_true c50)]; exact ⟨A, f1, f2, f3, tok, s, b, nu, HE.rf⟩)
      · refine r_aload_n dX4_copy_21 rfl ?_
        refine r_getfield dX4_copy_22 gfX4_31 rfl rfl ?_
        refine r_iload_n dX4_copy_25 rfl ?_
        refine r_aaldN dX4_copy_26 rfl (by first | decide | omega) (Nat.le_of_ble_eq_true rfl) rfl ?_
        refine r_astore (lv' := [_, _, _, _, _, _, _, _]) dX4_copy_27 (by decide) rfl ?_
        refine r_aload_n dX4_copy_29 rfl ?_
        refine r_getfield dX4_copy_30 gfX4_31 rfl rfl ?_
        refine r_iload_n dX4_copy_33 rfl ?_
        refine r_aaldN dX4_copy_34 rfl (by first | decide | omega) (Nat.le_of_ble_eq_true rfl) rfl ?_
        refine r_astore (lv' := [_, _, _, _, _, _, _, _]) dX4_copy_35 (by decide) rfl ?_
        refine r_aload dX4_copy_37 rfl ?_
        refine r_v0r Z_isMissing3 (Nat.le_of_ble_eq_true rfl) mrX2_isMissing lkX4_194 rfl rfl rfl dX4_copy_39 (Nat.le_of_ble_eq_true rfl) ?_
        refine r_if_neB 53 dX4_copy_42 (by decide) (fun c42 => ?_) (fun c42 => ?_)
        · refine r_aload_n dX4_copy_53 rfl ?_
          refine r_ldc kX4_197 dX4_copy_54 ?_
          refine r_v1r (Z_tell 5 (by decide) (by decide)) (Nat.le_of_ble_eq_true rfl) mrX4_tell lkX4_46 rfl rfl rfl dX4_copy_56 (Nat.le_of_ble_eq_true rfl) ?_
          refine r_iret dX4_copy_59 rfl rfl ?_ ?_
          · first | (rw [if_pos (of_decide_eq_true c42)]; rfl) | (rw [if_neg (of_decide_eq_false c42), if_pos (of_decide_eq_true c50)]; rfl)
          · first | (rw [if_pos (of_decide_eq_true c42)]; exact ⟨A, f1, f2, f3, tok, s, b, nu, HE.rf⟩) | (rw [if_neg (of_decide_eq_false c42), if_pos (of_decide_eq_true c50)]; exact ⟨A, f1, f2, f3, tok, s, b, nu, HE.rf⟩)
        · refine r_aload dX4_copy_45 rfl ?_
          refine r_v0r Z_isMissing3 (Nat.le_of_ble_eq_true rfl) mrX2_isMissing lkX4_194 rfl rfl rfl dX4_copy_47 (Nat.le_of_ble_eq_true rfl) ?_
          refine r_if_eqB 60 dX4_copy_50 (by decide) (fun c50 => ?_) (fun c50 => ?_)
          · refine r_aload dX4_copy_60 rfl ?_
            refine r_getfield dX4_copy_62 gfX4_205 rfl rfl ?_
            refine r_aload dX4_copy_65 rfl ?_
            refine r_getfield dX4_copy_67 gfX4_205 rfl rfl ?_
            refine r_icmp_eq 80 dX4_copy_70 (by decide) (fun c70 => ?_) (fun c70 => ?_)
            · refine r_aload dX4_copy_80 rfl ?_
              refine r_iload_n dX4_copy_82 rfl ?_
              refine r_iload dX4_copy_83 rfl ?_
              refine r_v2r (Z_spans3 ez hz) (Nat.le_of_ble_eq_true rfl) mrX2_spans lkX4_208 rfl rfl rfl dX4_copy_85 (Nat.le_of_ble_eq_true rfl) ?_
              refine r_if_eqB 103 dX4_copy_88 (by decide) (fun c88 => ?_) (fun c88 => ?_)
              · refine r_aload_n dX4_copy_103 rfl ?_
                refine r_ldc kX4_45 dX4_copy_104 ?_
                refine r_v1r (Z_tell 0 (by decide) (by decide)) (Nat.le_of_ble_eq_true rfl) mrX4_tell lkX4_46 rfl rfl rfl dX4_copy_106 (Nat.le_of_ble_eq_true rfl) ?_
                refine r_iret dX4_copy_109 rfl rfl ?_ ?_
                · first | (rw [if_neg (of_decide_eq_false c42), if_neg (of_decide_eq_false c50), if_pos c70, c88]; rfl) | (rw [if_neg (of_decide_eq_false c42), if_neg (of_decide_eq_false c50), if_pos c70, c88, c100]; rfl)
                · first | (rw [if_neg (of_decide_eq_false c42), if_neg (of_decide_eq_false c50), if_pos c70, c88]; exact ⟨A, f1, f2, f3, tok, s, b, nu, HE.rf⟩) | (rw [if_neg (of_decide_eq_false c42), if_neg (of_decide_eq_false c50), if_pos c70, c88, c100]; exact ⟨A, f1, f2, f3, tok, s, b, nu, HE.rf⟩)
              · refine r_aload dX4_copy_91 rfl ?_
                refine r_iload dX4_copy_93 rfl ?_
                refine r_iload dX4_copy_95 rfl ?_
                refine r_v2r (Z_spans3 ew hw) (Nat.le_of_ble_eq_true rfl) mrX2_spans lkX4_208 rfl rfl rfl dX4_copy_97 (Nat.le_of_ble_eq_true rfl) ?_
                refine r_if_neB 110 dX4_copy_100 (by decide) (fun c100 => ?_) (fun c100 => ?_)
                · have p1 := spn_of hz c88
                  have p2 := spn_of hw c100
                  refine r_aload dX4_copy_110 rfl ?_
                  refine r_getfield dX4_copy_112 gfX4_198 rfl rfl ?_
                  refine r_iload_n dX4_copy_115 rfl ?_
                  refine r_aload dX4_copy_116 rfl ?_
                  refine r_getfield dX4_copy_118 gfX4_198 rfl rfl ?_
                  refine r_iload dX4_copy_121 rfl ?_
                  refine r_iload dX4_copy_123 rfl ?_
                  refine r_acpl (h' := hX R K kp tc n T (updZ Z 3 ((Z 3).1, (Z 3).2.1, va_cpy (Z 3).2.2 (Z 3).2.2 (tn f) (tn t) (tn m))) A f1 f2 f3 tok s b nu) cpL dX4_copy_125 (by decide) rfl rfl rfl p1.1 p2.1 p1.2.1 (by omega) (by omega) rfl ?_
                  refine r_iload dX4_copy_128 rfl ?_
                  refine r_iret dX4_copy_130 rfl rfl ?_ ?_
                  · rw [if_neg (of_decide_eq_false c42), if_neg (of_decide_eq_false c50), if_pos c70, c88, c100]
                  · rw [if_neg (of_decide_eq_false c42), if_neg (of_decide_eq_false c50), if_pos c70, c88, c100]
                    exact ⟨A, f1, f2, f3, tok, s, b, nu, HE.rf⟩
                · refine r_aload_n dX4_copy_103 rfl ?_
                  refine r_ldc kX4_45 dX4_copy_104 ?_
                  refine r_v1r (Z_tell 0 (by decide) (by decide)) (Nat.le_of_ble_eq_true rfl) mrX4_tell lkX4_46 rfl rfl rfl dX4_copy_106 (Nat.le_of_ble_eq_true rfl) ?_
                  refine r_iret dX4_copy_109 rfl rfl ?_ ?_
                  · first | (rw [if_neg (of_decide_eq_false c42), if_neg (of_decide_eq_false c50), if_pos c70, c88]; rfl) | (rw [if_neg (of_decide_eq_false c42), if_neg (of_decide_eq_false c50), if_pos c70, c88, c100]; rfl)
                  · first | (rw [if_neg (of_decide_eq_false c42), if_neg (of_decide_eq_false c50), if_pos c70, c88]; exact ⟨A, f1, f2, f3, tok, s, b, nu, HE.rf⟩) | (rw [if_neg (of_decide_eq_false c42), if_neg (of_decide_eq_false c50), if_pos c70, c88, c100]; exact ⟨A, f1, f2, f3, tok, s, b, nu, HE.rf⟩)
            · refine r_aload_n dX4_copy_73 rfl ?_
              refine r_ldc kX4_134 dX4_copy_74 ?_
              refine r_v1r (Z_tell 2 (by decide) (by decide)) (Nat.le_of_ble_eq_true rfl) mrX4_tell lkX4_46 rfl rfl rfl dX4_copy_76 (Nat.le_of_ble_eq_true rfl) ?_
              refine r_iret dX4_copy_79 rfl rfl ?_ ?_
              · rw [if_neg (of_decide_eq_false c42), if_neg (of_decide_eq_false c50), if_neg c70]; rfl
              · rw [if_neg (of_decide_eq_false c42), if_neg (of_decide_eq_false c50), if_neg c70]
                exact ⟨A, f1, f2, f3, tok, s, b, nu, HE.rf⟩
          · refine r_aload_n dX4_copy_53 rfl ?_
            refine r_ldc kX4_197 dX4_copy_54 ?_
            refine r_v1r (Z_tell 5 (by decide) (by decide)) (Nat.le_of_ble_eq_true rfl) mrX4_tell lkX4_46 rfl rfl rfl dX4_copy_56 (Nat.le_of_ble_eq_true rfl) ?_
            refine r_iret dX4_copy_59 rfl rfl ?_ ?_
            · first | (rw [if_pos (of_decide_eq_true c42)]; rfl) | (rw [if_neg (of_decide_eq_false c42), if_pos (of_decide_eq_true c50)]; rfl)
            · first | (rw [if_pos (of_decide_eq_true c42)]; exact ⟨A, f1, f2, f3, tok, s, b, nu, HE.rf⟩) | (rw [if_neg (of_decide_eq_false c42), if_pos (of_decide_eq_true c50)]; exact ⟨A, f1, f2, f3, tok, s, b, nu, HE.rf⟩)
  refine r_iload_n dX4_copy_0 rfl ?_
  refine r_s1r S_X4_isSheet (Nat.le_of_ble_eq_true rfl) mrX4_isSheet lkX4_181 dX4_copy_1 (Nat.le_of_ble_eq_true rfl) ?_
  refine r_if_eqB 14 dX4_copy_4 (by decide) (fun c4 => ?_) (fun c4 => ?_)
  · refine r_aload_n dX4_copy_14 rfl ?_
    refine r_ldc kX4_45 dX4_copy_15 ?_
    refine r_v1r (Z_tell 0 (by decide) (by decide)) (Nat.le_of_ble_eq_true rfl) mrX4_tell lkX4_46 rfl rfl rfl dX4_copy_17 (Nat.le_of_ble_eq_true rfl) ?_
    refine r_iret dX4_copy_20 rfl rfl ?_ ?_
    · first | (rw [o_copy, c4]; rfl) | (rw [o_copy, c4, c11]; rfl)
    · first | (rw [o_copy, c4]; exact ⟨A, f1, f2, f3, tok, s, b, nu, HE.rf⟩) | (rw [o_copy, c4, c11]; exact ⟨A, f1, f2, f3, tok, s, b, nu, HE.rf⟩)
  · refine r_iload_n dX4_copy_7 rfl ?_
    refine r_s1r S_X4_isSheet (Nat.le_of_ble_eq_true rfl) mrX4_isSheet lkX4_181 dX4_copy_8 (Nat.le_of_ble_eq_true rfl) ?_
    refine r_if_neB 21 dX4_copy_11 (by decide) (fun c11 => ?_) (fun c11 => ?_)
    · obtain ⟨i, -, hi, rfl⟩ := inR_of c4 (by decide) (by decide)
      obtain ⟨j, -, hj, rfl⟩ := inR_of c11 (by decide) (by decide)
      exact G i (by omega) j (by omega) c4 c11
    · refine r_aload_n dX4_copy_14 rfl ?_
      refine r_ldc kX4_45 dX4_copy_15 ?_
      refine r_v1r (Z_tell 0 (by decide) (by decide)) (Nat.le_of_ble_eq_true rfl) mrX4_tell lkX4_46 rfl rfl rfl dX4_copy_17 (Nat.le_of_ble_eq_true rfl) ?_
      refine r_iret dX4_copy_20 rfl rfl ?_ ?_
      · first | (rw [o_copy, c4]; rfl) | (rw [o_copy, c4, c11]; rfl)
      · first | (rw [o_copy, c4]; exact ⟨A, f1, f2, f3, tok, s, b, nu, HE.rf⟩) | (rw [o_copy, c4, c11]; exact ⟨A, f1, f2, f3, tok, s, b, nu, HE.rf⟩)
def layN (f : Nat → Int64) (N : Nat → Int32) : Nat → (Nat → Int32) × Int32
  | 0 => (N, nI 0)
  | k + 1 => match inL (f k) 0 99 with
    | true => (upd (layN f N k).1 k (f k).toInt32, (layN f N k).2 + nI 1)
    | false => layN f N k
def o_lays (L : GS) (x : Int32) : Int32 × GS := match inR x (nI 0) (nI 3) with
  | false => bndL L 0
  | true => if (L.2.2 (tn x)).1 = 0 then bndL L 5 else ((layN (L.2.2 (tn x)).2.2 (rN L.1.1) (min (tn (L.2.2 (tn x)).2.1) (cnt L.1.1))).2, (sN L.1.1 (layN (L.2.2 (tn x)).2.2 (rN L.1.1) (min (tn (L.2.2 (tn x)).2.1) (cnt L.1.1))).1, L.1.2), L.2)
theorem inL_t {v : Int64} (h1 : ¬ lg_cmp v 0 < 0) (h2 : ¬ 0 < lg_cmp v 99) : inL v 0 99 = true := by
  rw [inL, decide_eq_true (Int64.not_lt.mp (fun z => h1 (cmp_lt.mpr z))), decide_eq_true (Int64.not_lt.mp (fun z => h2 (cmp_gt.mpr z)))]; rfl
theorem inL_f1 {v : Int64} (h1 : lg_cmp v 0 < 0) : inL v 0 99 = false := by
  rw [inL, decide_eq_false (Int64.not_le.mpr (cmp_lt.mp h1))]; rfl
theorem inL_f2 {v : Int64} (h1 : 0 < lg_cmp v 99) : inL v 0 99 = false := by
  rw [inL, decide_eq_false (Int64.not_le.mpr (cmp_gt.mp h1)), Bool.and_false]
theorem X_lays {R K : RS} {kp : Bool} {tc : Nat → Int32} {n : Nat} {T : Nat → Nat} {Z : Nat → SHT} {A : RS} {f1 f2 f3 tok : Int32} {s b : Nat} {nu : Int32} {x : Int32} (hZ : wfZ Z) (hc : cnt R ≤ 8) : SpQ 11 mX4_lays [.ref 0, .int x] (hX R K kp tc n T Z A f1 f2 f3 tok s b nu) (some (.int (o_lays ((R, K, kp, tc), (n, T), Z) x).1)) (qX (o_lays ((R, K, kp, tc), (n, T), Z) x).2) := by
  refine SpQ.of [some (.ref 0), some (.int x), none, none, none, none, none, none] mrX4_lays.1 (fun _ q => qX_len q) (Nat.le_of_ble_eq_true rfl) rfl (fun X => ?_)
  have e0 : ∀ i, i < 100 → tn (nI i) = i := fun i hi => nI_clamp (by omega)
  have G : ∀ i, i < 4 → inR (nI i) (nI 0) (nI 3) = true → RunQ X 11 mX4_lays 14 [some (.ref 0), some (.int (nI i)), none, none, none, none, none, none] [] (hX R K kp tc n T Z A f1 f2 f3 tok s b nu) (some (.int (o_lays ((R, K, kp, tc), (n, T), Z) (nI i)).1)) (qX (o_lays ((R, K, kp, tc), (n, T), Z) (nI i)).2) := by
    intro i hi c4
    obtain ⟨z, hz, ez⟩ := hZ i hi
    rw [o_lays, c4]
    dsimp only
    rw [e0 i (by omega), ez, e0 z (by omega)]
    rcases (show i = 0 ∨ i = 1 ∨ i = 2 ∨ i = 3 by omega) with rfl | rfl | rfl | rfl
    · have L : ∀ (k j : Nat), j + k = (min z (cnt R)) → RunQ X 11 mX4_lays 56 [some (.ref 0), some (.int (nI 0)), some (.ref 21), some (.int (layN (Z 0).2.2 (rN R) j).2), some (.int (nI (min z (cnt R)))), some (.int (nI j)), none, none] [] (hX (sN R (layN (Z 0).2.2 (rN R) j).1) K kp tc n T Z A f1 f2 f3 tok s b nu) (some (.int (layN (Z 0).2.2 (rN R) (min z (cnt R))).2)) (qX ((sN R (layN (Z 0).2.2 (rN R) (min z (cnt R))).1, K, kp, tc), (n, T), Z)) := by
        intro k
        induction k with
        | zero =>
          intro j hj
          obtain rfl : j = (min z (cnt R)) := by omega
          refine r_iload dX4_lays_56 rfl ?_
          refine r_iload dX4_lays_58 rfl ?_
          refine r_icmp_ge 110 dX4_lays_60 (by decide) (fun c60 => ?_) (fun c60 => ?_)
          · refine r_iload_n dX4_lays_110 rfl ?_
            refine r_iret dX4_lays_111 rfl rfl ?_ ?_
            · rfl
            · exact ⟨A, f1, f2, f3, tok, s, b, nu, HE.rf⟩
          · exact absurd (nI_le (Nat.le_refl _) (by omega)) c60
        | succ k ih =>
          intro j hj
          refine r_iload dX4_lays_56 rfl ?_
          refine r_iload dX4_lays_58 rfl ?_
          refine r_icmp_ge 110 dX4_lays_60 (by decide) (fun c60 => ?_) (fun c60 => ?_)
          · exact absurd c60 (nI_ge (by omega) (by omega))
          · refine r_aload_n dX4_lays_63 rfl ?_
            refine r_getfield dX4_lays_64 gfX4_198 rfl rfl ?_
            refine r_iload dX4_lays_67 rfl ?_
            refine r_laldN dX4_lays_69 rfl (by omega) (Nat.le_of_ble_eq_true rfl) rfl ?_
            refine r_lstore (lv' := [_, _, _, _, _, _, _, _]) dX4_lays_70 (by decide) rfl ?_
            refine r_lload dX4_lays_72 rfl ?_
            refine r_lconst (v := 0) dX4_lays_74 (by decide) ?_
            refine r_lcmp dX4_lays_75 ?_
            refine r_if_lt 104 dX4_lays_76 (by decide) (fun c76 => ?_) (fun c76 => ?_)
            · refine r_iinc (lv' := [_, _, _, _, _, _, _, _]) dX4_lays_104 (by decide) rfl (by first | exact inc1 _ | exact inc1_ _) rfl ?_
              refine r_goto 56 dX4_lays_107 (by decide) ?_
              refine r_lv (lv' := [_, _, _, _, _, _, none, none]) (lvDrop 6 rfl) ?_
              have e := ih (j + 1) (by omega)
              first
              | (rw [layN, inL_f1 c76] at e; exact e)
              | (rw [layN, inL_f2 c85] at e; exact e)
              | (rw [layN, inL_t c76 c85] at e; exact e)
            · refine r_lload dX4_lays_79 rfl ?_
              refine r_ldc2 kX4_223 dX4_lays_81 ?_
              refine r_lcmp dX4_lays_84 ?_
              refine r_if_gt 104 dX4_lays_85 (by decide) (fun c85 => ?_) (fun c85 => ?_)
              · refine r_iinc (lv' := [_, _, _, _, _, _, _, _]) dX4_lays_104 (by decide) rfl (by first | exact inc1 _ | exact inc1_ _) rfl ?_
                refine r_goto 56 dX4_lays_107 (by decide) ?_
                refine r_lv (lv' := [_, _, _, _, _, _, none, none]) (lvDrop 6 rfl) ?_
                have e := ih (j + 1) (by omega)
                first
                | (rw [layN, inL_f1 c76] at e; exact e)
                | (rw [layN, inL_f2 c85] at e; exact e)
                | (rw [layN, inL_t c76 c85] at e; exact e)
              · refine r_aload_n dX4_lays_88 rfl ?_
                refine r_getfield dX4_lays_89 gfX4_12 rfl rfl ?_
                refine r_getfield dX4_lays_92 gfX4_107 rfl rfl ?_
                refine r_iload dX4_lays_95 rfl ?_
                refine r_lload dX4_lays_97 rfl ?_
                refine r_l2i dX4_lays_99 ?_
                refine r_iastN (h' := [_, _, _, _, _, _, _, _, _, _, _, _, _, _, _, _, _, _, _, _, _, _, _, _, _, _, _, _, _]) dX4_lays_100 rfl (by omega) (Nat.le_of_ble_eq_true rfl) rfl ?_
                refine r_iinc (lv' := [_, _, _, _, _, _, _, _]) dX4_lays_101 (by decide) rfl (by first | exact inc1 _ | exact inc1_ _) rfl ?_
                refine r_iinc (lv' := [_, _, _, _, _, _, _, _]) dX4_lays_104 (by decide) rfl (by first | exact inc1 _ | exact inc1_ _) rfl ?_
                refine r_goto 56 dX4_lays_107 (by decide) ?_
                refine r_lv (lv' := [_, _, _, _, _, _, none, none]) (lvDrop 6 rfl) ?_
                have e := ih (j + 1) (by omega)
                first
                | (rw [layN, inL_f1 c76] at e; exact e)
                | (rw [layN, inL_f2 c85] at e; exact e)
                | (rw [layN, inL_t c76 c85] at e; exact e)
      refine r_aload_n dX4_lays_14 rfl ?_
      refine r_getfield dX4_lays_15 gfX4_31 rfl rfl ?_
      refine r_iload_n dX4_lays_18 rfl ?_
      refine r_aaldN dX4_lays_19 rfl (by first | decide | omega) (Nat.le_of_ble_eq_true rfl) rfl ?_
      refine r_astore_n (lv' := [_, _, _, _, _, _, _, _]) dX4_lays_20 (by decide) rfl ?_
      refine r_aload_n dX4_lays_21 rfl ?_
      refine r_v0r Z_isMissing0 (Nat.le_of_ble_eq_true rfl) mrX2_isMissing lkX4_194 rfl rfl rfl dX4_lays_22 (Nat.le_of_ble_eq_true rfl) ?_
      refine r_if_eqB 35 dX4_lays_25 (by decide) (fun c25 => ?_) (fun c25 => ?_)
      · refine r_iconst (v := nI 0) dX4_lays_35 (by decide) ?_
        refine r_istore_n (lv' := [_, _, _, _, _, _, _, _]) dX4_lays_36 (by decide) rfl ?_
        refine r_aload_n dX4_lays_37 rfl ?_
        refine r_getfield dX4_lays_38 gfX4_191 rfl rfl ?_
        rw [ez]
        refine r_aload_n dX4_lays_41 rfl ?_
        refine r_getfield dX4_lays_42 gfX4_12 rfl rfl ?_
        refine r_getfield dX4_lays_45 gfX4_92 rfl rfl ?_
        refine r_s2r S_J9_min_7cf53 (Nat.le_of_ble_eq_true rfl) mrJ9_min_7cf53 lkX4_217 dX4_lays_48 (Nat.le_of_ble_eq_true rfl) ?_
        rw [min_nI (by omega) (by omega)]
        refine r_istore (lv' := [_, _, _, _, _, _, _, _]) dX4_lays_51 (by decide) rfl ?_
        refine r_iconst (v := nI 0) dX4_lays_53 (by decide) ?_
        refine r_istore (lv' := [_, _, _, _, _, _, _, _]) dX4_lays_54 (by decide) rfl ?_
        rw [if_neg (of_decide_eq_false c25)]
        exact L (min z (cnt R)) 0 (by omega)
      · refine r_aload_n dX4_lays_28 rfl ?_
        refine r_ldc kX4_197 dX4_lays_29 ?_
        refine r_v1r (Z_tell 5 (by decide) (by decide)) (Nat.le_of_ble_eq_true rfl) mrX4_tell lkX4_46 rfl rfl rfl dX4_lays_31 (Nat.le_of_ble_eq_true rfl) ?_
        refine r_iret dX4_lays_34 rfl rfl ?_ ?_
        · rw [if_pos (of_decide_eq_true c25)]; rfl
        · rw [if_pos (of_decide_eq_true c25)]
          exact ⟨A, f1, f2, f3, tok, s, b, nu, HE.rf⟩
    · have L : ∀ (k j : Nat), j + k = (min z (cnt R)) → RunQ X 11 mX4_lays 56 [some (.ref 0), some (.int (nI 1)), some (.ref 23), some (.int (layN (Z 1).2.2 (rN R) j).2), some (.int (nI (min z (cnt R)))), some (.int (nI j)), none, none] [] (hX (sN R (layN (Z 1).2.2 (rN R) j).1) K kp tc n T Z A f1 f2 f3 tok s b nu) (some (.int (layN (Z 1).2.2 (rN R) (min z (cnt R))).2)) (qX ((sN R (layN (Z 1).2.2 (rN R) (min z (cnt R))).1, K, kp, tc), (n, T), Z)) := by
        intro k
        induction k with
        | zero =>
          intro j hj
          obtain rfl : j = (min z (cnt R)) := by omega
          refine r_iload dX4_lays_56 rfl ?_
          refine r_iload dX4_lays_58 rfl ?_
          refine r_icmp_ge 110 dX4_lays_60 (by decide) (fun c60 => ?_) (fun c60 => ?_)
          · refine r_iload_n dX4_lays_110 rfl ?_
            refine r_iret dX4_lays_111 rfl rfl ?_ ?_
            · rfl
            · exact ⟨A, f1, f2, f3, tok, s, b, nu, HE.rf⟩
          · exact absurd (nI_le (Nat.le_refl _) (by omega)) c60
        | succ k ih =>
          intro j hj
          refine r_iload dX4_lays_56 rfl ?_
          refine r_iload dX4_lays_58 rfl ?_
          refine r_icmp_ge 110 dX4_lays_60 (by decide) (fun c60 => ?_) (fun c60 => ?_)
          · exact absurd c60 (nI_ge (by omega) (by omega))
          · refine r_aload_n dX4_lays_63 rfl ?_
            refine r_getfield dX4_lays_64 gfX4_198 rfl rfl ?_
            refine r_iload dX4_lays_67 rfl ?_
            refine r_laldN dX4_lays_69 rfl (by omega) (Nat.le_of_ble_eq_true rfl) rfl ?_
            refine r_lstore (lv' := [_, _, _, _, _, _, _, _]) dX4_lays_70 (by decide) rfl ?_
            refine r_lload dX4_lays_72 rfl ?_
            refine r_lconst (v := 0) dX4_lays_74 (by decide) ?_
            refine r_lcmp dX4_lays_75 ?_
            refine r_if_lt 104 dX4_lays_76 (by decide) (fun c76 => ?_) (fun c76 => ?_)
            · refine r_iinc (lv' := [_, _, _, _, _, _, _, _]) dX4_lays_104 (by decide) rfl (by first | exact inc1 _ | exact inc1_ _) rfl ?_
              refine r_goto 56 dX4_lays_107 (by decide) ?_
              refine r_lv (lv' := [_, _, _, _, _, _, none, none]) (lvDrop 6 rfl) ?_
              have e := ih (j + 1) (by omega)
              first
              | (rw [layN, inL_f1 c76] at e; exact e)
              | (rw [layN, inL_f2 c85] at e; exact e)
              | (rw [layN, inL_t c76 c85] at e; exact e)
            · refine r_lload dX4_lays_79 rfl ?_
              refine r_ldc2 kX4_223 dX4_lays_81 ?_
              refine r_lcmp dX4_lays_84 ?_
              refine r_if_gt 104 dX4_lays_85 (by decide) (fun c85 => ?_) (fun c85 => ?_)
              · refine r_iinc (lv' := [_, _, _, _, _, _, _, _]) dX4_lays_104 (by decide) rfl (by first | exact inc1 _ | exact inc1_ _) rfl ?_
                refine r_goto 56 dX4_lays_107 (by decide) ?_
                refine r_lv (lv' := [_, _, _, _, _, _, none, none]) (lvDrop 6 rfl) ?_
                have e := ih (j + 1) (by omega)
                first
                | (rw [layN, inL_f1 c76] at e; exact e)
                | (rw [layN, inL_f2 c85] at e; exact e)
                | (rw [layN, inL_t c76 c85] at e; exact e)
              · refine r_aload_n dX4_lays_88 rfl ?_
                refine r_getfield dX4_lays_89 gfX4_12 rfl rfl ?_
                refine r_getfield dX4_lays_92 gfX4_107 rfl rfl ?_
                refine r_iload dX4_lays_95 rfl ?_
                refine r_lload dX4_lays_97 rfl ?_
                refine r_l2i dX4_lays_99 ?_
                refine r_iastN (h' := [_, _, _, _, _, _, _, _, _, _, _, _, _, _, _, _, _, _, _, _, _, _, _, _, _, _, _, _, _]) dX4_lays_100 rfl (by omega) (Nat.le_of_ble_eq_true rfl) rfl ?_
                refine r_iinc (lv' := [_, _, _, _, _, _, _, _]) dX4_lays_101 (by decide) rfl (by first | exact inc1 _ | exact inc1_ _) rfl ?_
                refine r_iinc (lv' := [_, _, _, _, _, _, _, _]) dX4_lays_104 (by decide) rfl (by first | exact inc1 _ | exact inc1_ _) rfl ?_
                refine r_goto 56 dX4_lays_107 (by decide) ?_
                refine r_lv (lv' := [_, _, _, _, _, _, none, none]) (lvDrop 6 rfl) ?_
                have e := ih (j + 1) (by omega)
                first
                | (rw [layN, inL_f1 c76] at e; exact e)
                | (rw [layN, inL_f2 c85] at e; exact e)
                | (rw [layN, inL_t c76 c85] at e; exact e)
      refine r_aload_n dX4_lays_14 rfl ?_
      refine r_getfield dX4_lays_15 gfX4_31 rfl rfl ?_
      refine r_iload_n dX4_lays_18 rfl ?_
      refine r_aaldN dX4_lays_19 rfl (by first | decide | omega) (Nat.le_of_ble_eq_true rfl) rfl ?_
      refine r_astore_n (lv' := [_, _, _, _, _, _, _, _]) dX4_lays_20 (by decide) rfl ?_
      refine r_aload_n dX4_lays_21 rfl ?_
      refine r_v0r Z_isMissing1 (Nat.le_of_ble_eq_true rfl) mrX2_isMissing lkX4_194 rfl rfl rfl dX4_lays_22 (Nat.le_of_ble_eq_true rfl) ?_
      refine r_if_eqB 35 dX4_lays_25 (by decide) (fun c25 => ?_) (fun c25 => ?_)
      · refine r_iconst (v := nI 0) dX4_lays_35 (by decide) ?_
        refine r_istore_n (lv' := [_, _, _, _, _, _, _, _]) dX4_lays_36 (by decide) rfl ?_
        refine r_aload_n dX4_lays_37 rfl ?_
        refine r_getfield dX4_lays_38 gfX4_191 rfl rfl ?_
        rw [ez]
        refine r_aload_n dX4_lays_41 rfl ?_
        refine r_getfield dX4_lays_42 gfX4_12 rfl rfl ?_
        refine r_getfield dX4_lays_45 gfX4_92 rfl rfl ?_
        refine r_s2r S_J9_min_7cf53 (Nat.le_of_ble_eq_true rfl) mrJ9_min_7cf53 lkX4_217 dX4_lays_48 (Nat.le_of_ble_eq_true rfl) ?_
        rw [min_nI (by omega) (by omega)]
        refine r_istore (lv' := [_, _, _, _, _, _, _, _]) dX4_lays_51 (by decide) rfl ?_
        refine r_iconst (v := nI 0) dX4_lays_53 (by decide) ?_
        refine r_istore (lv' := [_, _, _, _, _, _, _, _]) dX4_lays_54 (by decide) rfl ?_
        rw [if_neg (of_decide_eq_false c25)]
        exact L (min z (cnt R)) 0 (by omega)
      · refine r_aload_n dX4_lays_28 rfl ?_
        refine r_ldc kX4_197 dX4_lays_29 ?_
        refine r_v1r (Z_tell 5 (by decide) (by decide)) (Nat.le_of_ble_eq_true rfl) mrX4_tell lkX4_46 rfl rfl rfl dX4_lays_31 (Nat.le_of_ble_eq_true rfl) ?_
        refine r_iret dX4_lays_34 rfl rfl ?_ ?_
        · rw [if_pos (of_decide_eq_true c25)]; rfl
        · rw [if_pos (of_decide_eq_true c25)]
          exact ⟨A, f1, f2, f3, tok, s, b, nu, HE.rf⟩
    · have L : ∀ (k j : Nat), j + k = (min z (cnt R)) → RunQ X 11 mX4_lays 56 [some (.ref 0), some (.int (nI 2)), some (.ref 25), some (.int (layN (Z 2).2.2 (rN R) j).2), some (.int (nI (min z (cnt R)))), some (.int (nI j)), none, none] [] (hX (sN R (layN (Z 2).2.2 (rN R) j).1) K kp tc n T Z A f1 f2 f3 tok s b nu) (some (.int (layN (Z 2).2.2 (rN R) (min z (cnt R))).2)) (qX ((sN R (layN (Z 2).2.2 (rN R) (min z (cnt R))).1, K, kp, tc), (n, T), Z)) := by
        intro k
        induction k with
        | zero =>
          intro j hj
          obtain rfl : j = (min z (cnt R)) := by omega
          refine r_iload dX4_lays_56 rfl ?_
          refine r_iload dX4_lays_58 rfl ?_
          refine r_icmp_ge 110 dX4_lays_60 (by decide) (fun c60 => ?_) (fun c60 => ?_)
          · refine r_iload_n dX4_lays_110 rfl ?_
            refine r_iret dX4_lays_111 rfl rfl ?_ ?_
            · rfl
            · exact ⟨A, f1, f2, f3, tok, s, b, nu, HE.rf⟩
          · exact absurd (nI_le (Nat.le_refl _) (by omega)) c60
        | succ k ih =>
          intro j hj
          refine r_iload dX4_lays_56 rfl ?_
          refine r_iload dX4_lays_58 rfl ?_
          refine r_icmp_ge 110 dX4_lays_60 (by decide) (fun c60 => ?_) (fun c60 => ?_)
          · exact absurd c60 (nI_ge (by omega) (by omega))
          · refine r_aload_n dX4_lays_63 rfl ?_
            refine r_getfield dX4_lays_64 gfX4_198 rfl rfl ?_
            refine r_iload dX4_lays_67 rfl ?_
            refine r_laldN dX4_lays_69 rfl (by omega) (Nat.le_of_ble_eq_true rfl) rfl ?_
            refine r_lstore (lv' := [_, _, _, _, _, _, _, _]) dX4_lays_70 (by decide) rfl ?_
            refine r_lload dX4_lays_72 rfl ?_
            refine r_lconst (v := 0) dX4_lays_74 (by decide) ?_
            refine r_lcmp dX4_lays_75 ?_
            refine r_if_lt 104 dX4_lays_76 (by decide) (fun c76 => ?_) (fun c76 => ?_)
            · refine r_iinc (lv' := [_, _, _, _, _, _, _, _]) dX4_lays_104 (by decide) rfl (by first | exact inc1 _ | exact inc1_ _) rfl ?_
              refine r_goto 56 dX4_lays_107 (by decide) ?_
              refine r_lv (lv' := [_, _, _, _, _, _, none, none]) (lvDrop 6 rfl) ?_
              have e := ih (j + 1) (by omega)
              first
              | (rw [layN, inL_f1 c76] at e; exact e)
              | (rw [layN, inL_f2 c85] at e; exact e)
              | (rw [layN, inL_t c76 c85] at e; exact e)
            · refine r_lload dX4_lays_79 rfl ?_
              refine r_ldc2 kX4_223 dX4_lays_81 ?_
              refine r_lcmp dX4_lays_84 ?_
              refine r_if_gt 104 dX4_lays_85 (by decide) (fun c85 => ?_) (fun c85 => ?_)
              · refine r_iinc (lv' := [_, _, _, _, _, _, _, _]) dX4_lays_104 (by decide) rfl (by first | exact inc1 _ | exact inc1_ _) rfl ?_
                refine r_goto 56 dX4_lays_107 (by decide) ?_
                refine r_lv (lv' := [_, _, _, _, _, _, none, none]) (lvDrop 6 rfl) ?_
                have e := ih (j + 1) (by omega)
                first
                | (rw [layN, inL_f1 c76] at e; exact e)
                | (rw [layN, inL_f2 c85] at e; exact e)
                | (rw [layN, inL_t c76 c85] at e; exact e)
              · refine r_aload_n dX4_lays_88 rfl ?_
                refine r_getfield dX4_lays_89 gfX4_12 rfl rfl ?_
                refine r_getfield dX4_lays_92 gfX4_107 rfl rfl ?_
                refine r_iload dX4_lays_95 rfl ?_
                refine r_lload dX4_lays_97 rfl ?_
                refine r_l2i dX4_lays_99 ?_
                refine r_iastN (h' := [_, _, _, _, _, _, _, _, _, _, _, _, _, _, _, _, _, _, _, _, _, _, _, _, _, _, _, _, _]) dX4_lays_100 rfl (by omega) (Nat.le_of_ble_eq_true rfl) rfl ?_
                refine r_iinc (lv' := [_, _, _, _, _, _, _, _]) dX4_lays_101 (by decide) rfl (by first | exact inc1 _ | exact inc1_ _) rfl ?_
                refine r_iinc (lv' := [_, _, _, _, _, _, _, _]) dX4_lays_104 (by decide) rfl (by first | exact inc1 _ | exact inc1_ _) rfl ?_
                refine r_goto 56 dX4_lays_107 (by decide) ?_
                refine r_lv (lv' := [_, _, _, _, _, _, none, none]) (lvDrop 6 rfl) ?_
                have e := ih (j + 1) (by omega)
                first
                | (rw [layN, inL_f1 c76] at e; exact e)
                | (rw [layN, inL_f2 c85] at e; exact e)
                | (rw [layN, inL_t c76 c85] at e; exact e)
      refine r_aload_n dX4_lays_14 rfl ?_
      refine r_getfield dX4_lays_15 gfX4_31 rfl rfl ?_
      refine r_iload_n dX4_lays_18 rfl ?_
      refine r_aaldN dX4_lays_19 rfl (by first | decide | omega) (Nat.le_of_ble_eq_true rfl) rfl ?_
      refine r_astore_n (lv' := [_, _, _, _, _, _, _, _]) dX4_lays_20 (by decide) rfl ?_
      refine r_aload_n dX4_lays_21 rfl ?_
      refine r_v0r Z_isMissing2 (Nat.le_of_ble_eq_true rfl) mrX2_isMissing lkX4_194 rfl rfl rfl dX4_lays_22 (Nat.le_of_ble_eq_true rfl) ?_
      refine r_if_eqB 35 dX4_lays_25 (by decide) (fun c25 => ?_) (fun c25 => ?_)
      · refine r_iconst (v := nI 0) dX4_lays_35 (by decide) ?_
        refine r_istore_n (lv' := [_, _, _, _, _, _, _, _]) dX4_lays_36 (by decide) rfl ?_
        refine r_aload_n dX4_lays_37 rfl ?_
        refine r_getfield dX4_lays_38 gfX4_191 rfl rfl ?_
        rw [ez]
        refine r_aload_n dX4_lays_41 rfl ?_
        refine r_getfield dX4_lays_42 gfX4_12 rfl rfl ?_
        refine r_getfield dX4_lays_45 gfX4_92 rfl rfl ?_
        refine r_s2r S_J9_min_7cf53 (Nat.le_of_ble_eq_true rfl) mrJ9_min_7cf53 lkX4_217 dX4_lays_48 (Nat.le_of_ble_eq_true rfl) ?_
        rw [min_nI (by omega) (by omega)]
        refine r_istore (lv' := [_, _, _, _, _, _, _, _]) dX4_lays_51 (by decide) rfl ?_
        refine r_iconst (v := nI 0) dX4_lays_53 (by decide) ?_
        refine r_istore (lv' := [_, _, _, _, _, _, _, _]) dX4_lays_54 (by decide) rfl ?_
        rw [if_neg (of_decide_eq_false c25)]
        exact L (min z (cnt R)) 0 (by omega)
      · refine r_aload_n dX4_lays_28 rfl ?_
        refine r_ldc kX4_197 dX4_lays_29 ?_
        refine r_v1r (Z_tell 5 (by decide) (by decide)) (Nat.le_of_ble_eq_true rfl) mrX4_tell lkX4_46 rfl rfl rfl dX4_lays_31 (Nat.le_of_ble_eq_true rfl) ?_
        refine r_iret dX4_lays_34 rfl rfl ?_ ?_
        · rw [if_pos (of_decide_eq_true c25)]; rfl
        · rw [if_pos (of_decide_eq_true c25)]
          exact ⟨A, f1, f2, f3, tok, s, b, nu, HE.rf⟩
    · have L : ∀ (k j : Nat), j + k = (min z (cnt R)) → RunQ X 11 mX4_lays 56 [some (.ref 0), some (.int (nI 3)), some (.ref 27), some (.int (layN (Z 3).2.2 (rN R) j).2), some (.int (nI (min z (cnt R)))), some (.int (nI j)), none, none] [] (hX (sN R (layN (Z 3).2.2 (rN R) j).1) K kp tc n T Z A f1 f2 f3 tok s b nu) (some (.int (layN (Z 3).2.2 (rN R) (min z (cnt R))).2)) (qX ((sN R (layN (Z 3).2.2 (rN R) (min z (cnt R))).1, K, kp, tc), (n, T), Z)) := by
        intro k
        induction k with
        | zero =>
          intro j hj
          obtain rfl : j = (min z (cnt R)) := by omega
          refine r_iload dX4_lays_56 rfl ?_
          refine r_iload dX4_lays_58 rfl ?_
          refine r_icmp_ge 110 dX4_lays_60 (by decide) (fun c60 => ?_) (fun c60 => ?_)
          · refine r_iload_n dX4_lays_110 rfl ?_
            refine r_iret dX4_lays_111 rfl rfl ?_ ?_
            · rfl
            · exact ⟨A, f1, f2, f3, tok, s, b, nu, HE.rf⟩
          · exact absurd (nI_le (Nat.le_refl _) (by omega)) c60
        | succ k ih =>
          intro j hj
          refine r_iload dX4_lays_56 rfl ?_
          refine r_iload dX4_lays_58 rfl ?_
          refine r_icmp_ge 110 dX4_lays_60 (by decide) (fun c60 => ?_) (fun c60 => ?_)
          · exact absurd c60 (nI_ge (by omega) (by omega))
          · refine r_aload_n dX4_lays_63 rfl ?_
            refine r_getfield dX4_lays_64 gfX4_198 rfl rfl ?_
            refine r_iload dX4_lays_67 rfl ?_
            refine r_laldN dX4_lays_69 rfl (by omega) (Nat.le_of_ble_eq_true rfl) rfl ?_
            refine r_lstore (lv' := [_, _, _, _, _, _, _, _]) dX4_lays_70 (by decide) rfl ?_
            refine r_lload dX4_lays_72 rfl ?_
            refine r_lconst (v := 0) dX4_lays_74 (by decide) ?_
            refine r_lcmp dX4_lays_75 ?_
            refine r_if_lt 104 dX4_lays_76 (by decide) (fun c76 => ?_) (fun c76 => ?_)
            · refine r_iinc (lv' := [_, _, _, _, _, _, _, _]) dX4_lays_104 (by decide) rfl (by first | exact inc1 _ | exact inc1_ _) rfl ?_
              refine r_goto 56 dX4_lays_107 (by decide) ?_
              refine r_lv (lv' := [_, _, _, _, _, _, none, none]) (lvDrop 6 rfl) ?_
              have e := ih (j + 1) (by omega)
              first
              | (rw [layN, inL_f1 c76] at e; exact e)
              | (rw [layN, inL_f2 c85] at e; exact e)
              | (rw [layN, inL_t c76 c85] at e; exact e)
            · refine r_lload dX4_lays_79 rfl ?_
              refine r_ldc2 kX4_223 dX4_lays_81 ?_
              refine r_lcmp dX4_lays_84 ?_
              refine r_if_gt 104 dX4_lays_85 (by decide) (fun c85 => ?_) (fun c85 => ?_)
              · refine r_iinc (lv' := [_, _, _, _, _, _, _, _]) dX4_lays_104 (by decide) rfl (by first | exact inc1 _ | exact inc1_ _) rfl ?_
                refine r_goto 56 dX4_lays_107 (by decide) ?_
                refine r_lv (lv' := [_, _, _, _, _, _, none, none]) (lvDrop 6 rfl) ?_
                have e := ih (j + 1) (by omega)
                first
                | (rw [layN, inL_f1 c76] at e; exact e)
                | (rw [layN, inL_f2 c85] at e; exact e)
                | (rw [layN, inL_t c76 c85] at e; exact e)
              · refine r_aload_n dX4_lays_88 rfl ?_
                refine r_getfield dX4_lays_89 gfX4_12 rfl rfl ?_
                refine r_getfield dX4_lays_92 gfX4_107 rfl rfl ?_
                refine r_iload dX4_lays_95 rfl ?_
                refine r_lload dX4_lays_97 rfl ?_
                refine r_l2i dX4_lays_99 ?_
                refine r_iastN (h' := [_, _, _, _, _, _, _, _, _, _, _, _, _, _, _, _, _, _, _, _, _, _, _, _, _, _, _, _, _]) dX4_lays_100 rfl (by omega) (Nat.le_of_ble_eq_true rfl) rfl ?_
                refine r_iinc (lv' := [_, _, _, _, _, _, _, _]) dX4_lays_101 (by decide) rfl (by first | exact inc1 _ | exact inc1_ _) rfl ?_
                refine r_iinc (lv' := [_, _, _, _, _, _, _, _]) dX4_lays_104 (by decide) rfl (by first | exact inc1 _ | exact inc1_ _) rfl ?_
                refine r_goto 56 dX4_lays_107 (by decide) ?_
                refine r_lv (lv' := [_, _, _, _, _, _, none, none]) (lvDrop 6 rfl) ?_
                have e := ih (j + 1) (by omega)
                first
                | (rw [layN, inL_f1 c76] at e; exact e)
                | (rw [layN, inL_f2 c85] at e; exact e)
                | (rw [layN, inL_t c76 c85] at e; exact e)
      refine r_aload_n dX4_lays_14 rfl ?_
      refine r_getfield dX4_lays_15 gfX4_31 rfl rfl ?_
      refine r_iload_n dX4_lays_18 rfl ?_
      refine r_aaldN dX4_lays_19 rfl (by first | decide | omega) (Nat.le_of_ble_eq_true rfl) rfl ?_
      refine r_astore_n (lv' := [_, _, _, _, _, _, _, _]) dX4_lays_20 (by decide) rfl ?_
      refine r_aload_n dX4_lays_21 rfl ?_
      refine r_v0r Z_isMissing3 (Nat.le_of_ble_eq_true rfl) mrX2_isMissing lkX4_194 rfl rfl rfl dX4_lays_22 (Nat.le_of_ble_eq_true rfl) ?_
      refine r_if_eqB 35 dX4_lays_25 (by decide) (fun c25 => ?_) (fun c25 => ?_)
      · refine r_iconst (v := nI 0) dX4_lays_35 (by decide) ?_
        refine r_istore_n (lv' := [_, _, _, _, _, _, _, _]) dX4_lays_36 (by decide) rfl ?_
        refine r_aload_n dX4_lays_37 rfl ?_
        refine r_getfield dX4_lays_38 gfX4_191 rfl rfl ?_
        rw [ez]
        refine r_aload_n dX4_lays_41 rfl ?_
        refine r_getfield dX4_lays_42 gfX4_12 rfl rfl ?_
        refine r_getfield dX4_lays_45 gfX4_92 rfl rfl ?_
        refine r_s2r S_J9_min_7cf53 (Nat.le_of_ble_eq_true rfl) mrJ9_min_7cf53 lkX4_217 dX4_lays_48 (Nat.le_of_ble_eq_true rfl) ?_
        rw [min_nI (by omega) (by omega)]
        refine r_istore (lv' := [_, _, _, _, _, _, _, _]) dX4_lays_51 (by decide) rfl ?_
        refine r_iconst (v := nI 0) dX4_lays_53 (by decide) ?_
        refine r_istore (lv' := [_, _, _, _, _, _, _, _]) dX4_lays_54 (by decide) rfl ?_
        rw [if_neg (of_decide_eq_false c25)]
        exact L (min z (cnt R)) 0 (by omega)
      · refine r_aload_n dX4_lays_28 rfl ?_
        refine r_ldc kX4_197 dX4_lays_29 ?_
        refine r_v1r (Z_tell 5 (by decide) (by decide)) (Nat.le_of_ble_eq_true rfl) mrX4_tell lkX4_46 rfl rfl rfl dX4_lays_31 (Nat.le_of_ble_eq_true rfl) ?_
        refine r_iret dX4_lays_34 rfl rfl ?_ ?_
        · rw [if_pos (of_decide_eq_true c25)]; rfl
        · rw [if_pos (of_decide_eq_true c25)]
          exact ⟨A, f1, f2, f3, tok, s, b, nu, HE.rf⟩
  refine r_iload_n dX4_lays_0 rfl ?_
  refine r_s1r S_X4_isSheet (Nat.le_of_ble_eq_true rfl) mrX4_isSheet lkX4_181 dX4_lays_1 (Nat.le_of_ble_eq_true rfl) ?_
  refine r_if_neB 14 dX4_lays_4 (by decide) (fun c4 => ?_) (fun c4 => ?_)
  · obtain ⟨i, -, hi, rfl⟩ := inR_of c4 (by decide) (by decide)
    exact G i (by omega) c4
  · refine r_aload_n dX4_lays_7 rfl ?_
    refine r_ldc kX4_45 dX4_lays_8 ?_
    refine r_v1r (Z_tell 0 (by decide) (by decide)) (Nat.le_of_ble_eq_true rfl) mrX4_tell lkX4_46 rfl rfl rfl dX4_lays_10 (Nat.le_of_ble_eq_true rfl) ?_
    refine r_iret dX4_lays_13 rfl rfl ?_ ?_
    · rw [o_lays, c4]; rfl
    · rw [o_lays, c4]
      exact ⟨A, f1, f2, f3, tok, s, b, nu, HE.rf⟩

