/-! the law's loop -/
theorem lt6 {a b : Nat} (ha : a ≤ 3072) (hb : b ≤ 6000) : nI a - nI 6 < nI b ↔ a < b + 6 := by
  have e1 : (nI a).toInt = a := nI_toInt (by omega)
  have e2 : (nI 6).toInt = 6 := nI_toInt (by decide)
  have e3 : (nI b).toInt = b := nI_toInt (by omega)
  rw [Int32.lt_iff_toInt_lt, subI (by omega) (by omega), e1, e2, e3]
  omega
theorem law_back {X : SX} {i : Nat} {L : GS} (k : LW X 18 (i + 1) L) : LW X 1221 i L := by
  intro A f1 f2 f3 tok s b nu ks ot as fl a b' v w mv hk
  refine r_iinc (lv' := [_, _, _, _]) dL_law_1221 (by decide) rfl (show nI (6 * i) + Int32.ofInt 6 = nI (6 * (i + 1)) by rw [show Int32.ofInt 6 = nI 6 from rfl, nI_add]; congr 1) rfl ?_
  refine r_goto 18 dL_law_1224 (by decide) ?_
  exact k A f1 f2 f3 tok s b nu ks ot as fl a b' v w mv hk
theorem law_loop {X : SX} (hX9 : X.1 ≤ 3072) : ∀ (k i : Nat) (L : GS), wfG L → 6 * i ≤ 3078 → X.1 < 6 * (i + k) → LW X 18 i L := by
  intro k
  induction k with
  | zero =>
    intro i L hw hi hk0 A f1 f2 f3 tok s b nu ks ot as fl a b' v w mv hk
    refine r_iload_n dL_law_18 rfl ?_
    refine r_aload_n dL_law_19 rfl ?_
    refine r_tlen dL_law_20 ?_
    refine r_bipush (v := nI 6) dL_law_21 (by decide) ?_
    refine r_isub dL_law_23 ?_
    refine r_icmp_gt 1227 dL_law_24 (by decide) (fun c24 => ?_) (fun c24 => ?_)
    · refine r_iconst (v := nI 1) dL_law_1227 (by decide) ?_
      refine r_iret dL_law_1228 rfl (by first | exact bI_nar _ | rfl) ?_ ?_
      · rfl
      · trivial
    · exact absurd ((lt6 hX9 (by omega)).mpr (by omega)) c24
  | succ k ih =>
    intro i L hw hi hk0 A f1 f2 f3 tok s b nu ks ot as fl a b' v w mv hk
    refine r_iload_n dL_law_18 rfl ?_
    refine r_aload_n dL_law_19 rfl ?_
    refine r_tlen dL_law_20 ?_
    refine r_bipush (v := nI 6) dL_law_21 (by decide) ?_
    refine r_isub dL_law_23 ?_
    refine r_icmp_gt 1227 dL_law_24 (by decide) (fun c24 => ?_) (fun c24 => ?_)
    · refine r_iconst (v := nI 1) dL_law_1227 (by decide) ?_
      refine r_iret dL_law_1228 rfl (by first | exact bI_nar _ | rfl) ?_ ?_
      · rfl
      · trivial
    · have h6 : 6 * i + 6 ≤ X.1 := Nat.le_of_not_lt (fun z => c24 ((lt6 hX9 (by omega)).mpr z))
      have kk : ∀ L', wfG L' → LW X 1221 i L' := fun L' hw' => law_back (ih (i + 1) L' hw' (by omega) (by omega))
      refine r_aload_n dL_law_27 rfl ?_
      refine r_iload_n dL_law_28 rfl ?_
      refine r_taldN dL_law_29 (by omega) ?_
      refine r_bipush (v := nI 63) dL_law_30 (by decide) ?_
      refine r_iand dL_law_32 ?_
      refine r_tsw 1221 dL_law_33 (by decide) (fun v33 h33 g33 e33 => ?_) (fun e33 => ?_)
      · rcases (show v33 = 0 ∨ v33 = 1 ∨ v33 = 2 ∨ v33 = 3 ∨ v33 = 4 ∨ v33 = 5 ∨ v33 = 6 ∨ v33 = 7 ∨ v33 = 8 ∨ v33 = 9 ∨ v33 = 10 ∨ v33 = 11 ∨ v33 = 12 ∨ v33 = 13 ∨ v33 = 14 ∨ v33 = 15 ∨ v33 = 16 ∨ v33 = 17 ∨ v33 = 18 ∨ v33 = 19 ∨ v33 = 20 ∨ v33 = 21 ∨ v33 = 22 ∨ v33 = 23 ∨ v33 = 24 ∨ v33 = 25 ∨ v33 = 26 ∨ v33 = 27 ∨ v33 = 28 ∨ v33 = 29 ∨ v33 = 30 ∨ v33 = 31 ∨ v33 = 32 ∨ v33 = 33 ∨ v33 = 34 ∨ v33 = 35 by omega) with rfl | rfl | rfl | rfl | rfl | rfl | rfl | rfl | rfl | rfl | rfl | rfl | rfl | rfl | rfl | rfl | rfl | rfl | rfl | rfl | rfl | rfl | rfl | rfl | rfl | rfl | rfl | rfl | rfl | rfl | rfl | rfl | rfl | rfl | rfl | rfl
        · refine ⟨159, 192, by decide, by decide, ?_⟩
          have c33 := toI_eq 0 e33 (by decide)
          exact l_roots h6 hX9 hw kk A f1 f2 f3 tok s b nu ks ot as fl a b' v w mv hk
        · refine ⟨182, 215, by decide, by decide, ?_⟩
          have c33 := toI_eq 1 e33 (by decide)
          exact l_lantern h6 hX9 hw kk A f1 f2 f3 tok s b nu ks ot as fl a b' v w mv hk
        · refine ⟨205, 238, by decide, by decide, ?_⟩
          have c33 := toI_eq 2 e33 (by decide)
          exact l_bright h6 hX9 hw kk A f1 f2 f3 tok s b nu ks ot as fl a b' v w mv hk
        · refine ⟨228, 261, by decide, by decide, ?_⟩
          have c33 := toI_eq 3 e33 (by decide)
          exact l_now h6 hX9 hw kk A f1 f2 f3 tok s b nu ks ot as fl a b' v w mv hk
        · refine ⟨251, 284, by decide, by decide, ?_⟩
          have c33 := toI_eq 4 e33 (by decide)
          exact l_walker h6 hX9 hw kk A f1 f2 f3 tok s b nu ks ot as fl a b' v w mv hk
        · refine ⟨274, 307, by decide, by decide, ?_⟩
          have c33 := toI_eq 5 e33 (by decide)
          exact l_of h6 hX9 hw kk A f1 f2 f3 tok s b nu ks ot as fl a b' v w mv hk
        · refine ⟨307, 340, by decide, by decide, ?_⟩
          have c33 := toI_eq 6 e33 (by decide)
          exact l_set h6 hX9 hw kk A f1 f2 f3 tok s b nu ks ot as fl a b' v w mv hk
        · refine ⟨350, 383, by decide, by decide, ?_⟩
          have c33 := toI_eq 7 e33 (by decide)
          exact l_swap h6 hX9 hw kk A f1 f2 f3 tok s b nu ks ot as fl a b' v w mv hk
        · refine ⟨383, 416, by decide, by decide, ?_⟩
          have c33 := toI_eq 8 e33 (by decide)
          exact l_turn h6 hX9 hw kk A f1 f2 f3 tok s b nu ks ot as fl a b' v w mv hk
        · refine ⟨416, 449, by decide, by decide, ?_⟩
          have c33 := toI_eq 9 e33 (by decide)
          exact l_as h6 hX9 hw kk A f1 f2 f3 tok s b nu ks ot as fl a b' v w mv hk
        · refine ⟨449, 482, by decide, by decide, ?_⟩
          have c33 := toI_eq 10 e33 (by decide)
          exact l_steps h6 hX9 hw kk A f1 f2 f3 tok s b nu ks ot as fl a b' v w mv hk
        · refine ⟨472, 505, by decide, by decide, ?_⟩
          have c33 := toI_eq 11 e33 (by decide)
          exact l_on h6 hX9 hw kk A f1 f2 f3 tok s b nu ks ot as fl a b' v w mv hk
        · refine ⟨515, 548, by decide, by decide, ?_⟩
          have c33 := toI_eq 12 e33 (by decide)
          exact l_falls h6 hX9 hw kk A f1 f2 f3 tok s b nu ks ot as fl a b' v w mv hk
        · refine ⟨538, 571, by decide, by decide, ?_⟩
          have c33 := toI_eq 13 e33 (by decide)
          exact l_trips h6 hX9 hw kk A f1 f2 f3 tok s b nu ks ot as fl a b' v w mv hk
        · refine ⟨561, 594, by decide, by decide, ?_⟩
          have c33 := toI_eq 14 e33 (by decide)
          exact l_hears h6 hX9 hw kk A f1 f2 f3 tok s b nu ks ot as fl a b' v w mv hk
        · refine ⟨584, 617, by decide, by decide, ?_⟩
          have c33 := toI_eq 15 e33 (by decide)
          exact l_carry h6 hX9 hw kk A f1 f2 f3 tok s b nu ks ot as fl a b' v w mv hk
        · refine ⟨607, 640, by decide, by decide, ?_⟩
          have c33 := toI_eq 16 e33 (by decide)
          exact l_order h6 hX9 hw kk A f1 f2 f3 tok s b nu ks ot as fl a b' v w mv hk
        · refine ⟨630, 663, by decide, by decide, ?_⟩
          have c33 := toI_eq 17 e33 (by decide)
          exact l_kind h6 hX9 hw kk A f1 f2 f3 tok s b nu ks ot as fl a b' v w mv hk
        · refine ⟨663, 696, by decide, by decide, ?_⟩
          have c33 := toI_eq 18 e33 (by decide)
          exact l_least h6 hX9 hw kk A f1 f2 f3 tok s b nu ks ot as fl a b' v w mv hk
        · refine ⟨696, 729, by decide, by decide, ?_⟩
          have c33 := toI_eq 19 e33 (by decide)
          exact l_clear h6 hX9 hw kk A f1 f2 f3 tok s b nu ks ot as fl a b' v w mv hk
        · refine ⟨719, 752, by decide, by decide, ?_⟩
          have c33 := toI_eq 20 e33 (by decide)
          exact l_nerve h6 hX9 hw kk A f1 f2 f3 tok s b nu ks ot as fl a b' v w mv hk
        · refine ⟨752, 785, by decide, by decide, ?_⟩
          have c33 := toI_eq 21 e33 (by decide)
          exact l_worst h6 hX9 hw kk A f1 f2 f3 tok s b nu ks ot as fl a b' v w mv hk
        · refine ⟨775, 808, by decide, by decide, ?_⟩
          have c33 := toI_eq 22 e33 (by decide)
          exact l_feed h6 hX9 hw kk A f1 f2 f3 tok s b nu ks ot as fl a b' v w mv hk
        · refine ⟨808, 841, by decide, by decide, ?_⟩
          have c33 := toI_eq 23 e33 (by decide)
          exact l_wipe h6 hX9 hw kk A f1 f2 f3 tok s b nu ks ot as fl a b' v w mv hk
        · refine ⟨821, 854, by decide, by decide, ?_⟩
          have c33 := toI_eq 24 e33 (by decide)
          exact l_night h6 hX9 hw kk A f1 f2 f3 tok s b nu ks ot as fl a b' v w mv hk
        · refine ⟨834, 867, by decide, by decide, ?_⟩
          have c33 := toI_eq 25 e33 (by decide)
          exact l_sheet h6 hX9 hw kk A f1 f2 f3 tok s b nu ks ot as fl a b' v w mv hk
        · refine ⟨877, 910, by decide, by decide, ?_⟩
          have c33 := toI_eq 26 e33 (by decide)
          exact l_write h6 hX9 hw kk A f1 f2 f3 tok s b nu ks ot as fl a b' v w mv hk
        · refine ⟨951, 984, by decide, by decide, ?_⟩
          have c33 := toI_eq 27 e33 (by decide)
          exact l_copy h6 hX9 hw kk A f1 f2 f3 tok s b nu ks ot as fl a b' v w mv hk
        · refine ⟨1014, 1047, by decide, by decide, ?_⟩
          have c33 := toI_eq 28 e33 (by decide)
          exact l_lays h6 hX9 hw kk A f1 f2 f3 tok s b nu ks ot as fl a b' v w mv hk
        · refine ⟨1037, 1070, by decide, by decide, ?_⟩
          have c33 := toI_eq 29 e33 (by decide)
          exact l_book h6 hX9 hw kk A f1 f2 f3 tok s b nu ks ot as fl a b' v w mv hk
        · refine ⟨1070, 1103, by decide, by decide, ?_⟩
          have c33 := toI_eq 30 e33 (by decide)
          exact l_read h6 hX9 hw kk A f1 f2 f3 tok s b nu ks ot as fl a b' v w mv hk
        · refine ⟨1103, 1136, by decide, by decide, ?_⟩
          have c33 := toI_eq 31 e33 (by decide)
          exact l_image h6 hX9 hw kk A f1 f2 f3 tok s b nu ks ot as fl a b' v w mv hk
        · refine ⟨1116, 1149, by decide, by decide, ?_⟩
          have c33 := toI_eq 32 e33 (by decide)
          exact l_undo h6 hX9 hw kk A f1 f2 f3 tok s b nu ks ot as fl a b' v w mv hk
        · refine ⟨1129, 1162, by decide, by decide, ?_⟩
          have c33 := toI_eq 33 e33 (by decide)
          exact l_tear h6 hX9 hw kk A f1 f2 f3 tok s b nu ks ot as fl a b' v w mv hk
        · refine ⟨1142, 1175, by decide, by decide, ?_⟩
          have c33 := toI_eq 34 e33 (by decide)
          exact l_count h6 hX9 hw kk A f1 f2 f3 tok s b nu ks ot as fl a b' v w mv hk
        · refine ⟨1165, 1198, by decide, by decide, ?_⟩
          have c33 := toI_eq 35 e33 (by decide)
          exact l_status h6 hX9 hw kk A f1 f2 f3 tok s b nu ks ot as fl a b' v w mv hk
      · have c33_0 := toI_ne 0 e33 (by decide)
        have c33_1 := toI_ne 1 e33 (by decide)
        have c33_2 := toI_ne 2 e33 (by decide)
        have c33_3 := toI_ne 3 e33 (by decide)
        have c33_4 := toI_ne 4 e33 (by decide)
        have c33_5 := toI_ne 5 e33 (by decide)
        have c33_6 := toI_ne 6 e33 (by decide)
        have c33_7 := toI_ne 7 e33 (by decide)
        have c33_8 := toI_ne 8 e33 (by decide)
        have c33_9 := toI_ne 9 e33 (by decide)
        have c33_10 := toI_ne 10 e33 (by decide)
        have c33_11 := toI_ne 11 e33 (by decide)
        have c33_12 := toI_ne 12 e33 (by decide)
        have c33_13 := toI_ne 13 e33 (by decide)
        have c33_14 := toI_ne 14 e33 (by decide)
        have c33_15 := toI_ne 15 e33 (by decide)
        have c33_16 := toI_ne 16 e33 (by decide)
        have c33_17 := toI_ne 17 e33 (by decide)
        have c33_18 := toI_ne 18 e33 (by decide)
        have c33_19 := toI_ne 19 e33 (by decide)
        have c33_20 := toI_ne 20 e33 (by decide)
        have c33_21 := toI_ne 21 e33 (by decide)
        have c33_22 := toI_ne 22 e33 (by decide)
        have c33_23 := toI_ne 23 e33 (by decide)
        have c33_24 := toI_ne 24 e33 (by decide)
        have c33_25 := toI_ne 25 e33 (by decide)
        have c33_26 := toI_ne 26 e33 (by decide)
        have c33_27 := toI_ne 27 e33 (by decide)
        have c33_28 := toI_ne 28 e33 (by decide)
        have c33_29 := toI_ne 29 e33 (by decide)
        have c33_30 := toI_ne 30 e33 (by decide)
        have c33_31 := toI_ne 31 e33 (by decide)
        have c33_32 := toI_ne 32 e33 (by decide)
        have c33_33 := toI_ne 33 e33 (by decide)
        have c33_34 := toI_ne 34 e33 (by decide)
        have c33_35 := toI_ne 35 e33 (by decide)
        exact kk L hw A f1 f2 f3 tok s b nu ks ot as fl a b' v w mv hk

