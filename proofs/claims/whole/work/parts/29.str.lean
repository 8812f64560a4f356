/-! TEXTS: their fields, bytes, and calls on them -/
theorem r_svalue {X : SX} {d : Nat} {M : Mt} {pc : Nat} {lv : List (Option Value)} {st : List Value} {h : AH} {rv : Option Value} {Q : AH → Prop} {i idx : Nat} (hi : i < 13) (hw : Cond.fieldLink M.1.cls idx "java/lang/String" "value" "[B" ∈ gT) (hd : decode M.2.1 pc = .ok (.getfield idx, 3)) (k : RunQ X d M (pc + 3) lv (.ref (3000 + i) :: st) h rv Q) : RunQ X d M (pc) lv (.ref (2000 + i) :: st) h rv Q := by
  intro p l e R s m args below meth c cells slots Z ad D cs A H locs ls C w hl
  obtain ⟨hx, hb, hml, hown, hts, hN, hR, hcs, hK, hE, hA, hend⟩ := id C
  have h7 := (hE.2.2.2.2.2.2.1 i hi).2.2.1
  have e9 : 1000 + (1000 + i) = 2000 + i := by omega
  have e8 : 1000 + (2000 + i) = 3000 + i := by omega
  dsimp only at h7
  rw [e9, e8] at h7
  exact vk_getf hx hb h7 w.2.2 hown (hts _ hw) (fun _ z => z) hd (k p l e R s m args below meth c cells slots Z ad D cs A H locs ls C w hl)

theorem r_scoder {X : SX} {d : Nat} {M : Mt} {pc : Nat} {lv : List (Option Value)} {st : List Value} {h : AH} {rv : Option Value} {Q : AH → Prop} {i idx : Nat} (hi : i < 13) (hw : Cond.fieldLink M.1.cls idx "java/lang/String" "coder" "B" ∈ gT) (hd : decode M.2.1 pc = .ok (.getfield idx, 3)) (k : RunQ X d M (pc + 3) lv (.int 0 :: st) h rv Q) : RunQ X d M (pc) lv (.ref (2000 + i) :: st) h rv Q := by
  intro p l e R s m args below meth c cells slots Z ad D cs A H locs ls C w hl
  obtain ⟨hx, hb, hml, hown, hts, hN, hR, hcs, hK, hE, hA, hend⟩ := id C
  have h7 := (hE.2.2.2.2.2.2.1 i hi).2.1
  have e9 : 1000 + (1000 + i) = 2000 + i := by omega
  dsimp only at h7
  rw [e9] at h7
  exact vk_getf hx hb h7 w.2.2 hown (hts _ hw) (fun _ z => z) hd (k p l e R s m args below meth c cells slots Z ad D cs A H locs ls C w hl)

theorem r_slen {X : SX} {d : Nat} {M : Mt} {pc : Nat} {lv : List (Option Value)} {st : List Value} {h : AH} {rv : Option Value} {Q : AH → Prop} {i : Nat} (hi : i < 13) (hd : decode M.2.1 pc = .ok (.arraylength, 1)) (k : RunQ X d M (pc + 1) lv (.int (nI (txL.getD i 0)) :: st) h rv Q) : RunQ X d M (pc) lv (.ref (3000 + i) :: st) h rv Q := by
  intro p l e R s m args below meth c cells slots Z ad D cs A H locs ls C w hl
  obtain ⟨hx, hb, hml, hown, hts, hN, hR, hcs, hK, hE, hA, hend⟩ := id C
  have h7 := (hE.2.2.2.2.2.2.1 i hi).2.2.2
  have e8 : 1000 + (2000 + i) = 3000 + i := by omega
  dsimp only at h7
  rw [e8] at h7
  obtain ⟨cell, h1, h3, h4, h5, h6, h7, -⟩ := h7.kept w.2.2.2.1
  exact W.alen hx hb h1 h3 h6 rfl rfl hd (k p l e R s m args below meth c cells slots Z ad D cs A H locs ls C w hl)

theorem r_sbald {X : SX} {d : Nat} {M : Mt} {pc : Nat} {lv : List (Option Value)} {st : List Value} {h : AH} {rv : Option Value} {Q : AH → Prop} {i : Nat} {j : Int32} (hi : i < 13) (hd : decode M.2.1 pc = .ok (.baload, 1)) (hj : vp_in j (txL.getD i 0)) (k : RunQ X d M (pc + 1) lv (.int ((txB.getD i []).getD j.toNatClampNeg 0) :: st) h rv Q) : RunQ X d M (pc) lv (.int j :: .ref (3000 + i) :: st) h rv Q := by
  intro p l e R s m args below meth c cells slots Z ad D cs A H locs ls C w hl
  obtain ⟨hx, hb, hml, hown, hts, hN, hR, hcs, hK, hE, hA, hend⟩ := id C
  have h7 := (hE.2.2.2.2.2.2.1 i hi).2.2.2
  have e8 : 1000 + (2000 + i) = 3000 + i := by omega
  dsimp only at h7
  rw [e8] at h7
  obtain ⟨cell, h1, h3, h4, h5, h6, h7, -⟩ := h7.kept w.2.2.2.1
  have hlt : j.toNatClampNeg < txL.getD i 0 := Nat.not_le.mp fun q => hj (Or.inr q)
  exact W.bald hx hb h1 h3 h4 (fun q => hj (q.imp id (fun z => Nat.le_trans h5 z))) (h7 _ hlt) rfl rfl hd (k p l e R s m args below meth c cells slots Z ad D cs A H locs ls C w hl)

theorem r_cs {X : SX} {d : Nat} {M : Mt} {pc : Nat} {lv : List (Option Value)} {st : List Value} {h : AH} {rv : Option Value} {Q : AH → Prop} {idx : Nat} (hw : Cond.fieldLink M.1.cls idx "java/lang/String" "COMPACT_STRINGS" "Z" ∈ gT) (hd : decode M.2.1 pc = .ok (.getstatic idx, 3)) (k : RunQ X d M (pc + 3) lv (.int 1 :: st) h rv Q) : RunQ X d M (pc) lv (st) h rv Q := by
  intro p l e R s m args below meth c cells slots Z ad D cs A H locs ls C w hl
  obtain ⟨hx, hb, hml, hown, hts, hN, hR, hcs, hK, hE, hA, hend⟩ := id C
  exact va_gets hx hb hE.2.2.2.1 w.2.2 hown (hts _ hw) (fun _ z => z) hd (k p l e R s m args below meth c cells slots Z ad D cs A H locs ls C w hl)

theorem r_fm {X : SX} {d : Nat} {M : Mt} {pc : Nat} {lv : List (Option Value)} {st : List Value} {h : AH} {rv : Option Value} {Q : AH → Prop} {idx : Nat} (hw : Cond.fieldLink M.1.cls idx "jdk/internal/util/Preconditions" "SIOOBE_FORMATTER" "Ljava/util/function/BiFunction;" ∈ gT) (hd : decode M.2.1 pc = .ok (.getstatic idx, 3)) (k : ∀ v : Value, (v = .null ∨ v = .ref 1002) → RunQ X d M (pc + 3) lv (v :: st) h rv Q) : RunQ X d M (pc) lv (st) h rv Q := by
  intro p l e R s m args below meth c cells slots Z ad D cs A H locs ls C w hl
  obtain ⟨hx, hb, hml, hown, hts, hN, hR, hcs, hK, hE, hA, hend⟩ := id C
  rcases hE.2.2.2.2.1 with h | h
  · exact va_gets hx hb h w.2.2 hown (hts _ hw) (fun _ z => z) hd (k .null (Or.inl rfl) p l e R s m args below meth c cells slots Z ad D cs A H locs ls C w hl)
  · exact va_gets hx hb h w.2.2 hown (hts _ hw) (fun _ z => z) hd (k (.ref 1002) (Or.inr rfl) p l e R s m args below meth c cells slots Z ad D cs A H locs ls C w hl)

theorem r_callT {X : SX} {d : Nat} {M : Mt} {pc : Nat} {lv : List (Option Value)} {st : List Value} {h : AH} {rv : Option Value} {Q : AH → Prop} {d' idx i : Nat} {M' : Mt} (as : List Value) {rv1 : Option Value} {Q1 : AH → Prop} (S : SpQ d' M' (.ref (2000 + i) :: as) h rv1 Q1) (hdd : d' + 1 ≤ d) (mr : MRv M' as.length) (lk : LKm M.1.cls idx M'.1) (hi : i < 13) (hcc : "java/lang/String" = M'.1.cls) (hd : decode M.2.1 pc = .ok (.invokevirtual idx, 3)) (hw : (st.map fun v => v.category).sum ≤ 8) (k : ∀ h1 : AH, h1.length = h.length → Q1 h1 → RunQ X d M (pc + 3) lv (rv1.toList ++ st) h1 rv Q) : RunQ X d M (pc) lv (as.reverse ++ .ref (2000 + i) :: st) h rv Q := by
  intro p l e R s m args below meth c cells slots Z ad D cs A H locs ls C w hl
  obtain ⟨hx, hb, hml, hown, hts, hN, hR, hcs, hK, hE, hA, hend⟩ := id C
  obtain ⟨⟨m1, m2, m3, m4, m5⟩, m6, m7⟩ := mr
  have mg := MRb.good ⟨m1, m2, m3, m4, m5⟩
  have hR9 : (d' + 1 ≤ R.frames) ∧ (8 + (M'.2.2.1 + 11) + 30 * d' ≤ R.locals) := ⟨Nat.le_trans hdd hR.1, by omega⟩
  have e9 : (as.reverse ++ .ref (2000 + i) :: st).map (cv ad) = (as.map (cv ad)).reverse ++ .ref (ad (2000 + i)) :: st.map (cv ad) := by simp [cv]
  have e8 : (as.map (cv ad)).length = as.length := List.length_map _
  have hw9 : 2 * (F0 m pc ls ((as.reverse ++ .ref (2000 + i) :: st).map (cv ad))).monitorRoom + ((st.map (cv ad)).map fun v => v.category).sum ≤ 8 := lv_room (by
    rw [List.map_map, show ((fun v => Value.category v) ∘ cv ad) = (fun v => Value.category v) from funext (cv_cat ad)]; exact hw)
  have hrc := vk_recv hE.2.2.2.2.2.2 hi w.2.2
  have e6 : 1000 + (1000 + i) = 2000 + i := by omega
  dsimp only at hrc
  rw [e6, hcc] at hrc
  rcases lk with lk | ⟨host, lk⟩
  · refine callG (va_runV (As := as.map (cv ad)) (rest := st.map (cv ad)) ⟨hx, hb, hml, hown, hts⟩ (S X l D cs ad H.size) ⟨callB_of as.length hts mg rfl rfl rfl (hts _ m2) (hts _ lk) m3 hR9, hts _ m6, hts _ m7⟩ ⟨PW.blind _, hrc, fun U hU hW => ⟨rfl, PW.mk w hA hN hK hE hU hW⟩⟩ rfl e8 hl.1 e9 hw9 hd ⟨hcs.1, hcs.2⟩) w.2.2 (wc_free w hA) (fun H1 locs1 h1 hq1 hP1 hl1 hS1 => ?_)
    have k1 := k h1 hl1 hq1 p l e R s m args below meth c cells slots Z ad D cs A H1 locs1 ls C ⟨hP1, wc_D w.2.1 hl1, hS1⟩ hl
    have e7 : (rv1.toList ++ st).map (cv ad) = (rv1.map (cv ad)).toList ++ st.map (cv ad) := by cases rv1 <;> simp
    rw [e7] at k1
    exact k1
  · refine callG (va_runVN (As := as.map (cv ad)) (rest := st.map (cv ad)) ⟨hx, hb, hml, hown, hts⟩ (S X l D cs ad H.size) ⟨va_cnB as.length hts mg rfl rfl rfl (hN _ lk) (hts _ m2) m3 hR9, hts _ m6, hts _ m7⟩ ⟨PW.blind _, hrc, fun U hU hW => ⟨rfl, PW.mk w hA hN hK hE hU hW⟩⟩ rfl e8 hl.1 e9 hw9 hd ⟨hcs.1, hcs.2⟩) w.2.2 (wc_free w hA) (fun H1 locs1 h1 hq1 hP1 hl1 hS1 => ?_)
    have k1 := k h1 hl1 hq1 p l e R s m args below meth c cells slots Z ad D cs A H1 locs1 ls C ⟨hP1, wc_D w.2.1 hl1, hS1⟩ hl
    have e7 : (rv1.toList ++ st).map (cv ad) = (rv1.map (cv ad)).toList ++ st.map (cv ad) := by cases rv1 <;> simp
    rw [e7] at k1
    exact k1

theorem fJ0_9 : Cond.fieldLink RJ0 9 "java/lang/String" "value" "[B" ∈ gT := (gT_mem (tb5 125 rfl) rfl)
theorem fJ0_15 : Cond.fieldLink RJ0 15 "java/lang/String" "coder" "B" ∈ gT := (gT_mem (tb5 126 rfl) rfl)
theorem fJ0_38 : Cond.fieldLink RJ0 38 "java/lang/String" "COMPACT_STRINGS" "Z" ∈ gT := (gT_mem (tb2 230 rfl) rfl)
theorem fJ0_1053 : Cond.fieldLink RJ0 1053 "jdk/internal/util/Preconditions" "SIOOBE_FORMATTER" "Ljava/util/function/BiFunction;" ∈ gT := (gT_mem (tb3 6 rfl) rfl)
theorem S_coder {i : Nat} {h : AH} (hi : i < 13) : Sp 0 mJ0_coder_7d493 [.ref (2000 + i)] h (some (.int 0)) h := by
  refine Sp.of [some (.ref (2000 + i))] mrJ0_coder_7d493.1 rfl (Nat.le_of_ble_eq_true rfl) rfl (fun X => ?_)
  refine r_cs fJ0_38 dJ0_coder_7d493_0 ?_
  refine r_if_eq 13 dJ0_coder_7d493_3 (by decide) (fun c3 => absurd c3 (by decide)) (fun c3 => ?_)
  refine r_aload_n dJ0_coder_7d493_6 rfl ?_
  refine r_scoder hi fJ0_15 dJ0_coder_7d493_7 ?_
  refine r_goto 14 dJ0_coder_7d493_10 (by decide) ?_
  exact r_iret dJ0_coder_7d493_14 rfl rfl rfl HE.rf
theorem S_isLatin1 {i : Nat} {h : AH} (hi : i < 13) : Sp 0 mJ0_isLatin1_aae02 [.ref (2000 + i)] h (some (.int 1)) h := by
  refine Sp.of [some (.ref (2000 + i))] mrJ0_isLatin1_aae02.1 rfl (Nat.le_of_ble_eq_true rfl) rfl (fun X => ?_)
  refine r_cs fJ0_38 dJ0_isLatin1_aae02_0 ?_
  refine r_if_eq 17 dJ0_isLatin1_aae02_3 (by decide) (fun c3 => absurd c3 (by decide)) (fun c3 => ?_)
  refine r_aload_n dJ0_isLatin1_aae02_6 rfl ?_
  refine r_scoder hi fJ0_15 dJ0_isLatin1_aae02_7 ?_
  refine r_if_ne 17 dJ0_isLatin1_aae02_10 (by decide) (fun c3 => absurd rfl c3) (fun c3 => ?_)
  refine r_iconst (v := 1) dJ0_isLatin1_aae02_13 (by decide) ?_
  refine r_goto 18 dJ0_isLatin1_aae02_14 (by decide) ?_
  exact r_iret dJ0_isLatin1_aae02_18 rfl rfl rfl HE.rf
theorem shr0 (n : Nat) : nI n >>> ((0 : Int32) &&& 31) = nI n := by
  rw [show (0 : Int32) &&& 31 = 0 by decide]
  exact Int32.shiftRight_zero
theorem S_length {i : Nat} {h : AH} (hi : i < 13) : Sp 1 mJ0_length_8abf5 [.ref (2000 + i)] h (some (.int (nI (txL.getD i 0)))) h := by
  refine Sp.of [some (.ref (2000 + i))] mrJ0_length_8abf5.1 rfl (Nat.le_of_ble_eq_true rfl) rfl (fun X => ?_)
  refine r_aload_n dJ0_length_8abf5_0 rfl ?_
  refine r_svalue hi fJ0_9 dJ0_length_8abf5_1 ?_
  refine r_slen hi dJ0_length_8abf5_4 ?_
  refine r_aload_n dJ0_length_8abf5_5 rfl ?_
  refine r_callT [] (S_coder hi) (Nat.le_of_ble_eq_true rfl) mrJ0_coder_7d493 lkJ0_335 hi rfl dJ0_length_8abf5_6 (Nat.le_of_ble_eq_true rfl) (fun h9 _ q9 => r_heq q9 ?_)
  refine r_ishr dJ0_length_8abf5_9 ?_
  rw [shr0]
  exact r_iret dJ0_length_8abf5_10 rfl rfl rfl HE.rf
theorem S_pre {i n : Int32} {v : Value} {h : AH} (hv : v = .null ∨ v = .ref 1002) (h0 : 0 ≤ i) (h1 : i < n) : Sp 0 mJ3_checkIndex_8e157 [.int i, .int n, v] h (some (.int i)) h := by
  refine Sp.of [some (.int i), some (.int n), some v] mrJ3_checkIndex_8e157.1 rfl (by rcases hv with rfl | rfl <;> exact Nat.le_of_ble_eq_true rfl) (by rcases hv with rfl | rfl <;> rfl) (fun X => ?_)
  refine r_iload_n dJ3_checkIndex_8e157_0 rfl ?_
  refine r_if_lt 9 dJ3_checkIndex_8e157_1 (by decide) (fun c => absurd c (Int32.not_lt.mpr h0)) (fun c => ?_)
  refine r_iload_n dJ3_checkIndex_8e157_4 rfl ?_
  refine r_iload_n dJ3_checkIndex_8e157_5 rfl ?_
  refine r_icmp_lt 16 dJ3_checkIndex_8e157_6 (by decide) (fun c => ?_) (fun c => absurd h1 c)
  refine r_iload_n dJ3_checkIndex_8e157_16 rfl ?_
  exact r_iret dJ3_checkIndex_8e157_17 rfl rfl rfl HE.rf
theorem S_chk {i n : Int32} {h : AH} (h0 : 0 ≤ i) (h1 : i < n) : Sp 1 mJ0_checkIndex_df160 [.int i, .int n] h none h := by
  refine Sp.of [some (.int i), some (.int n)] mrJ0_checkIndex_df160.1 rfl (Nat.le_of_ble_eq_true rfl) rfl (fun X => ?_)
  refine r_iload_n dJ0_checkIndex_df160_0 rfl ?_
  refine r_iload_n dJ0_checkIndex_df160_1 rfl ?_
  refine r_fm fJ0_1053 dJ0_checkIndex_df160_2 (fun v hv => ?_)
  refine r_s3r (S_pre hv h0 h1) (Nat.le_of_ble_eq_true rfl) mrJ3_checkIndex_8e157 lkJ0_1059 dJ0_checkIndex_df160_5 (Nat.le_of_ble_eq_true rfl) ?_
  refine r_pop dJ0_checkIndex_df160_8 rfl ?_
  exact r_vret dJ0_checkIndex_df160_9 rfl rfl HE.rf
def chB (i j : Nat) : Int32 := (txB.getD i []).getD j 0
theorem ch_ok : ∀ i, i < 13 → ∀ j, j < txL.getD i 0 → ((chB i j &&& 255).toUInt32 % 65536).toInt32 = chB i j ∧ narrow .char (.int (chB i j)) = .int (chB i j) := by decide
theorem S_lat {i j : Nat} {h : AH} (hi : i < 13) (hj : j < txL.getD i 0) : Sp 2 mJ1_charAt_3b067 [.ref (3000 + i), .int (nI j)] h (some (.int (chB i j))) h := by
  refine Sp.of [some (.ref (3000 + i)), some (.int (nI j))] mrJ1_charAt_3b067.1 rfl (Nat.le_of_ble_eq_true rfl) rfl (fun X => ?_)
  have hl9 : txL.getD i 0 ≤ 7 := by rcases (show i = 0 ∨ i = 1 ∨ i = 2 ∨ i = 3 ∨ i = 4 ∨ i = 5 ∨ i = 6 ∨ i = 7 ∨ i = 8 ∨ i = 9 ∨ i = 10 ∨ i = 11 ∨ i = 12 by omega) with rfl | rfl | rfl | rfl | rfl | rfl | rfl | rfl | rfl | rfl | rfl | rfl | rfl <;> decide
  refine r_iload_n dJ1_charAt_3b067_0 rfl ?_
  refine r_aload_n dJ1_charAt_3b067_1 rfl ?_
  refine r_slen hi dJ1_charAt_3b067_2 ?_
  refine r_s2n (S_chk (nI_pos' (by omega)) (nI_lt hj (by omega))) (Nat.le_of_ble_eq_true rfl) mrJ0_checkIndex_df160 lkJ1_9 dJ1_charAt_3b067_3 (Nat.le_of_ble_eq_true rfl) ?_
  refine r_aload_n dJ1_charAt_3b067_6 rfl ?_
  refine r_iload_n dJ1_charAt_3b067_7 rfl ?_
  refine r_sbald hi dJ1_charAt_3b067_8 (vp_in_N hj (by omega)) ?_
  rw [nI_clamp (by omega)]
  refine r_sipush (v := 255) dJ1_charAt_3b067_9 (by decide) ?_
  refine r_iand dJ1_charAt_3b067_12 ?_
  refine r_i2c dJ1_charAt_3b067_13 ?_
  rw [show (txB.getD i []).getD j 0 = chB i j from rfl, (ch_ok i hi j hj).1]
  exact r_iret dJ1_charAt_3b067_14 rfl (ch_ok i hi j hj).2 rfl HE.rf
theorem S_charAt {i j : Nat} {h : AH} (hi : i < 13) (hj : j < txL.getD i 0) : Sp 3 mJ0_charAt_5068e [.ref (2000 + i), .int (nI j)] h (some (.int (chB i j))) h := by
  refine Sp.of [some (.ref (2000 + i)), some (.int (nI j))] mrJ0_charAt_5068e.1 rfl (Nat.le_of_ble_eq_true rfl) rfl (fun X => ?_)
  refine r_aload_n dJ0_charAt_5068e_0 rfl ?_
  refine r_callT [] (S_isLatin1 hi) (Nat.le_of_ble_eq_true rfl) mrJ0_isLatin1_aae02 lkJ0_492 hi rfl dJ0_charAt_5068e_1 (Nat.le_of_ble_eq_true rfl) (fun h9 _ q9 => r_heq q9 ?_)
  refine r_if_eq 16 dJ0_charAt_5068e_4 (by decide) (fun c3 => absurd c3 (by decide)) (fun c3 => ?_)
  refine r_aload_n dJ0_charAt_5068e_7 rfl ?_
  refine r_svalue hi fJ0_9 dJ0_charAt_5068e_8 ?_
  refine r_iload_n dJ0_charAt_5068e_11 rfl ?_
  refine r_s2r (S_lat hi hj) (Nat.le_of_ble_eq_true rfl) mrJ1_charAt_3b067 lkJ0_495 dJ0_charAt_5068e_12 (Nat.le_of_ble_eq_true rfl) ?_
  exact r_iret dJ0_charAt_5068e_15 rfl (ch_ok i hi j hj).2 rfl HE.rf
