theorem inGX0 : ∀ w ∈ u_ws RX0 TX0 5, w ∈ gT := by
  intro w hw
  obtain ⟨k, hk, rfl⟩ := List.mem_map.mp hw
  have hk9 := List.mem_range.mp hk
  rcases (show k = 0 ∨ k = 1 ∨ k = 2 ∨ k = 3 ∨ k = 4 by omega) with rfl | rfl | rfl | rfl | rfl
  · exact gT_mem (tb1 103 rfl) rfl
  · exact gT_mem (tb1 105 rfl) rfl
  · exact gT_mem (tb1 107 rfl) rfl
  · exact gT_mem (tb1 109 rfl) rfl
  · exact gT_mem (tb1 111 rfl) rfl
theorem inGX1 : ∀ w ∈ u_ws RX1 TX1 10, w ∈ gT := by
  intro w hw
  obtain ⟨k, hk, rfl⟩ := List.mem_map.mp hw
  have hk9 := List.mem_range.mp hk
  rcases (show k = 0 ∨ k = 1 ∨ k = 2 ∨ k = 3 ∨ k = 4 ∨ k = 5 ∨ k = 6 ∨ k = 7 ∨ k = 8 ∨ k = 9 by omega) with rfl | rfl | rfl | rfl | rfl | rfl | rfl | rfl | rfl | rfl
  · exact gT_mem (tb1 53 rfl) rfl
  · exact gT_mem (tb1 55 rfl) rfl
  · exact gT_mem (tb1 57 rfl) rfl
  · exact gT_mem (tb1 59 rfl) rfl
  · exact gT_mem (tb1 61 rfl) rfl
  · exact gT_mem (tb1 63 rfl) rfl
  · exact gT_mem (tb1 65 rfl) rfl
  · exact gT_mem (tb1 67 rfl) rfl
  · exact gT_mem (tb1 69 rfl) rfl
  · exact gT_mem (tb1 71 rfl) rfl
theorem inGX2 : ∀ w ∈ u_ws RX2 TX2 3, w ∈ gT := by
  intro w hw
  obtain ⟨k, hk, rfl⟩ := List.mem_map.mp hw
  have hk9 := List.mem_range.mp hk
  rcases (show k = 0 ∨ k = 1 ∨ k = 2 by omega) with rfl | rfl | rfl
  · exact gT_mem (tb1 127 rfl) rfl
  · exact gT_mem (tb1 129 rfl) rfl
  · exact gT_mem (tb1 131 rfl) rfl
theorem inGX3 : ∀ w ∈ u_ws RX3 TX3 2, w ∈ gT := by
  intro w hw
  obtain ⟨k, hk, rfl⟩ := List.mem_map.mp hw
  have hk9 := List.mem_range.mp hk
  rcases (show k = 0 ∨ k = 1 by omega) with rfl | rfl
  · exact gT_mem (tb1 91 rfl) rfl
  · exact gT_mem (tb1 93 rfl) rfl
theorem inGX4 : ∀ w ∈ u_ws RX4 TX4 7, w ∈ gT := by
  intro w hw
  obtain ⟨k, hk, rfl⟩ := List.mem_map.mp hw
  have hk9 := List.mem_range.mp hk
  rcases (show k = 0 ∨ k = 1 ∨ k = 2 ∨ k = 3 ∨ k = 4 ∨ k = 5 ∨ k = 6 by omega) with rfl | rfl | rfl | rfl | rfl | rfl | rfl
  · exact gT_mem (tb1 142 rfl) rfl
  · exact gT_mem (tb1 144 rfl) rfl
  · exact gT_mem (tb1 146 rfl) rfl
  · exact gT_mem (tb1 148 rfl) rfl
  · exact gT_mem (tb1 150 rfl) rfl
  · exact gT_mem (tb1 152 rfl) rfl
  · exact gT_mem (tb1 154 rfl) rfl
theorem inGX5 : ∀ w ∈ u_ws RX5 TX5 17, w ∈ gT := by
  intro w hw
  obtain ⟨k, hk, rfl⟩ := List.mem_map.mp hw
  have hk9 := List.mem_range.mp hk
  rcases (show k = 0 ∨ k = 1 ∨ k = 2 ∨ k = 3 ∨ k = 4 ∨ k = 5 ∨ k = 6 ∨ k = 7 ∨ k = 8 ∨ k = 9 ∨ k = 10 ∨ k = 11 ∨ k = 12 ∨ k = 13 ∨ k = 14 ∨ k = 15 ∨ k = 16 by omega) with rfl | rfl | rfl | rfl | rfl | rfl | rfl | rfl | rfl | rfl | rfl | rfl | rfl | rfl | rfl | rfl | rfl
  · exact gT_mem (tb3 181 rfl) rfl
  · exact gT_mem (tb3 183 rfl) rfl
  · exact gT_mem (tb3 185 rfl) rfl
  · exact gT_mem (tb3 187 rfl) rfl
  · exact gT_mem (tb3 189 rfl) rfl
  · exact gT_mem (tb3 191 rfl) rfl
  · exact gT_mem (tb3 193 rfl) rfl
  · exact gT_mem (tb3 195 rfl) rfl
  · exact gT_mem (tb3 197 rfl) rfl
  · exact gT_mem (tb3 199 rfl) rfl
  · exact gT_mem (tb3 201 rfl) rfl
  · exact gT_mem (tb3 203 rfl) rfl
  · exact gT_mem (tb3 205 rfl) rfl
  · exact gT_mem (tb3 207 rfl) rfl
  · exact gT_mem (tb3 209 rfl) rfl
  · exact gT_mem (tb3 211 rfl) rfl
  · exact gT_mem (tb3 213 rfl) rfl
abbrev mX0_init : Mt := (yX0_init, cX0_init, 1, none)
abbrev mX0_tellTo : Mt := (yX0_tellTo, cX0_tellTo, 3, (some .int))
theorem mrX0_tellTo : MRv mX0_tellTo 1 := ⟨⟨gT_mem (tb2 174 rfl) rfl, gT_mem (tb1 3 rfl) rfl, (by decide +kernel), Nat.le_of_ble_eq_true rfl, (by decide +kernel)⟩, gT_mem (tb2 173 rfl) rfl, gT_sel (List.mem_of_getElem? (i := 26) rfl) rfl⟩
abbrev mX0_item : Mt := (yX0_item, cX0_item, 2, (some .boolean))
theorem mrX0_item : MRv mX0_item 1 := ⟨⟨gT_mem (tb3 33 rfl) rfl, gT_mem (tb1 3 rfl) rfl, (by decide +kernel), Nat.le_of_ble_eq_true rfl, (by decide +kernel)⟩, gT_mem (tb3 32 rfl) rfl, gT_sel (List.mem_of_getElem? (i := 33) rfl) rfl⟩
abbrev mX0_kindItem : Mt := (yX0_kindItem, cX0_kindItem, 2, (some .boolean))
theorem mrX0_kindItem : MRv mX0_kindItem 1 := ⟨⟨gT_mem (tb3 38 rfl) rfl, gT_mem (tb1 3 rfl) rfl, (by decide +kernel), Nat.le_of_ble_eq_true rfl, (by decide +kernel)⟩, gT_mem (tb3 37 rfl) rfl, gT_sel (List.mem_of_getElem? (i := 34) rfl) rfl⟩
abbrev mX0_rootItem : Mt := (yX0_rootItem, cX0_rootItem, 3, (some .boolean))
theorem mrX0_rootItem : MRv mX0_rootItem 2 := ⟨⟨gT_mem (tb3 48 rfl) rfl, gT_mem (tb1 3 rfl) rfl, (by decide +kernel), Nat.le_of_ble_eq_true rfl, (by decide +kernel)⟩, gT_mem (tb3 47 rfl) rfl, gT_sel (List.mem_of_getElem? (i := 36) rfl) rfl⟩
abbrev mX0_lanternItem : Mt := (yX0_lanternItem, cX0_lanternItem, 2, (some .boolean))
theorem mrX0_lanternItem : MRv mX0_lanternItem 1 := ⟨⟨gT_mem (tb3 53 rfl) rfl, gT_mem (tb1 3 rfl) rfl, (by decide +kernel), Nat.le_of_ble_eq_true rfl, (by decide +kernel)⟩, gT_mem (tb3 52 rfl) rfl, gT_sel (List.mem_of_getElem? (i := 37) rfl) rfl⟩
abbrev mX0_brightItem : Mt := (yX0_brightItem, cX0_brightItem, 2, (some .boolean))
theorem mrX0_brightItem : MRv mX0_brightItem 1 := ⟨⟨gT_mem (tb3 57 rfl) rfl, gT_mem (tb1 3 rfl) rfl, (by decide +kernel), Nat.le_of_ble_eq_true rfl, (by decide +kernel)⟩, gT_mem (tb3 56 rfl) rfl, gT_sel (List.mem_of_getElem? (i := 38) rfl) rfl⟩
abbrev mX0_swapItem : Mt := (yX0_swapItem, cX0_swapItem, 3, (some .boolean))
theorem mrX0_swapItem : MRv mX0_swapItem 1 := ⟨⟨gT_mem (tb3 61 rfl) rfl, gT_mem (tb1 3 rfl) rfl, (by decide +kernel), Nat.le_of_ble_eq_true rfl, (by decide +kernel)⟩, gT_mem (tb3 60 rfl) rfl, gT_sel (List.mem_of_getElem? (i := 39) rfl) rfl⟩
abbrev mX0_nextIsNumber : Mt := (yX0_nextIsNumber, cX0_nextIsNumber, 2, (some .boolean))
theorem mrX0_nextIsNumber : MRv mX0_nextIsNumber 1 := ⟨⟨gT_mem (tb3 44 rfl) rfl, gT_mem (tb1 3 rfl) rfl, (by decide +kernel), Nat.le_of_ble_eq_true rfl, (by decide +kernel)⟩, gT_mem (tb3 43 rfl) rfl, gT_sel (List.mem_of_getElem? (i := 35) rfl) rfl⟩
abbrev mX0_next : Mt := (yX0_next, cX0_next, 2, none)
theorem mrX0_next : MRv mX0_next 0 := ⟨⟨gT_mem (tb2 178 rfl) rfl, gT_mem (tb1 3 rfl) rfl, (by decide +kernel), Nat.le_of_ble_eq_true rfl, (by decide +kernel)⟩, gT_mem (tb2 177 rfl) rfl, gT_sel (List.mem_of_getElem? (i := 27) rfl) rfl⟩
abbrev mX0_behindBlanks : Mt := (yX0_behindBlanks, cX0_behindBlanks, 2, (some .int))
theorem mrX0_behindBlanks : MRv mX0_behindBlanks 0 := ⟨⟨gT_mem (tb2 182 rfl) rfl, gT_mem (tb1 3 rfl) rfl, (by decide +kernel), Nat.le_of_ble_eq_true rfl, (by decide +kernel)⟩, gT_mem (tb2 181 rfl) rfl, gT_sel (List.mem_of_getElem? (i := 28) rfl) rfl⟩
abbrev mX0_takeNumber : Mt := (yX0_takeNumber, cX0_takeNumber, 2, none)
theorem mrX0_takeNumber : MRv mX0_takeNumber 0 := ⟨⟨gT_mem (tb2 194 rfl) rfl, gT_mem (tb1 3 rfl) rfl, (by decide +kernel), Nat.le_of_ble_eq_true rfl, (by decide +kernel)⟩, gT_mem (tb2 193 rfl) rfl, gT_sel (List.mem_of_getElem? (i := 30) rfl) rfl⟩
abbrev mX0_takeWord : Mt := (yX0_takeWord, cX0_takeWord, 3, none)
theorem mrX0_takeWord : MRv mX0_takeWord 0 := ⟨⟨gT_mem (tb2 201 rfl) rfl, gT_mem (tb1 3 rfl) rfl, (by decide +kernel), Nat.le_of_ble_eq_true rfl, (by decide +kernel)⟩, gT_mem (tb2 200 rfl) rfl, gT_sel (List.mem_of_getElem? (i := 31) rfl) rfl⟩
abbrev mX0_isWord : Mt := (yX0_isWord, cX0_isWord, 3, (some .boolean))
theorem mrX0_isWord : MRv mX0_isWord 1 := ⟨⟨gT_mem (tb2 221 rfl) rfl, gT_mem (tb1 3 rfl) rfl, (by decide +kernel), Nat.le_of_ble_eq_true rfl, (by decide +kernel)⟩, gT_mem (tb2 220 rfl) rfl, gT_sel (List.mem_of_getElem? (i := 32) rfl) rfl⟩
abbrev mX0_textOf : Mt := (yX0_textOf, cX0_textOf, 1, (some (.object "java/lang/String")))
theorem mrX0_textOf : MRs mX0_textOf 1 := ⟨⟨gT_mem (tb2 204 rfl) rfl, gT_mem (tb1 3 rfl) rfl, (by decide +kernel), Nat.le_of_ble_eq_true rfl, (by decide +kernel)⟩, gT_mem (tb2 203 rfl) rfl⟩
abbrev mX0_isDigit : Mt := (yX0_isDigit, cX0_isDigit, 1, (some .boolean))
theorem mrX0_isDigit : MRs mX0_isDigit 1 := ⟨⟨gT_mem (tb2 190 rfl) rfl, gT_mem (tb1 3 rfl) rfl, (by decide +kernel), Nat.le_of_ble_eq_true rfl, (by decide +kernel)⟩, gT_mem (tb2 189 rfl) rfl⟩
abbrev mX0_isLetter : Mt := (yX0_isLetter, cX0_isLetter, 1, (some .boolean))
theorem mrX0_isLetter : MRs mX0_isLetter 1 := ⟨⟨gT_mem (tb2 197 rfl) rfl, gT_mem (tb1 3 rfl) rfl, (by decide +kernel), Nat.le_of_ble_eq_true rfl, (by decide +kernel)⟩, gT_mem (tb2 196 rfl) rfl⟩
abbrev mX1_init : Mt := (yX1_init, cX1_init, 1, none)
abbrev mX1_takeFrom : Mt := (yX1_takeFrom, cX1_takeFrom, 3, none)
theorem mrX1_takeFrom : MRv mX1_takeFrom 1 := ⟨⟨gT_mem (tb2 99 rfl) rfl, gT_mem (tb1 2 rfl) rfl, (by decide +kernel), Nat.le_of_ble_eq_true rfl, (by decide +kernel)⟩, gT_mem (tb2 98 rfl) rfl, gT_sel (List.mem_of_getElem? (i := 21) rfl) rfl⟩
abbrev mX1_has : Mt := (yX1_has, cX1_has, 2, (some .boolean))
theorem mrX1_has : MRv mX1_has 1 := ⟨⟨gT_mem (tb1 177 rfl) rfl, gT_mem (tb1 2 rfl) rfl, (by decide +kernel), Nat.le_of_ble_eq_true rfl, (by decide +kernel)⟩, gT_mem (tb1 176 rfl) rfl, gT_sel (List.mem_of_getElem? (i := 1) rfl) rfl⟩
abbrev mX1_isFull : Mt := (yX1_isFull, cX1_isFull, 1, (some .boolean))
theorem mrX1_isFull : MRv mX1_isFull 0 := ⟨⟨gT_mem (tb1 226 rfl) rfl, gT_mem (tb1 2 rfl) rfl, (by decide +kernel), Nat.le_of_ble_eq_true rfl, (by decide +kernel)⟩, gT_mem (tb1 225 rfl) rfl, gT_sel (List.mem_of_getElem? (i := 7) rfl) rfl⟩
abbrev mX1_add : Mt := (yX1_add, cX1_add, 2, none)
theorem mrX1_add : MRv mX1_add 1 := ⟨⟨gT_mem (tb1 231 rfl) rfl, gT_mem (tb1 2 rfl) rfl, (by decide +kernel), Nat.le_of_ble_eq_true rfl, (by decide +kernel)⟩, gT_mem (tb1 230 rfl) rfl, gT_sel (List.mem_of_getElem? (i := 8) rfl) rfl⟩
abbrev mX1_exchange : Mt := (yX1_exchange, cX1_exchange, 3, none)
theorem mrX1_exchange : MRv mX1_exchange 2 := ⟨⟨gT_mem (tb2 31 rfl) rfl, gT_mem (tb1 2 rfl) rfl, (by decide +kernel), Nat.le_of_ble_eq_true rfl, (by decide +kernel)⟩, gT_mem (tb2 30 rfl) rfl, gT_sel (List.mem_of_getElem? (i := 13) rfl) rfl⟩
abbrev mX1_exchangeIn : Mt := (yX1_exchangeIn, cX1_exchangeIn, 4, none)
theorem mrX1_exchangeIn : MRs mX1_exchangeIn 3 := ⟨⟨gT_mem (tb2 34 rfl) rfl, gT_mem (tb1 2 rfl) rfl, (by decide +kernel), Nat.le_of_ble_eq_true rfl, (by decide +kernel)⟩, gT_mem (tb2 33 rfl) rfl⟩
abbrev mX1_setRoot : Mt := (yX1_setRoot, cX1_setRoot, 3, none)
theorem mrX1_setRoot : MRv mX1_setRoot 2 := ⟨⟨gT_mem (tb2 142 rfl) rfl, gT_mem (tb1 2 rfl) rfl, (by decide +kernel), Nat.le_of_ble_eq_true rfl, (by decide +kernel)⟩, gT_mem (tb2 141 rfl) rfl, gT_sel (List.mem_of_getElem? (i := 23) rfl) rfl⟩
abbrev mX1_paceOf : Mt := (yX1_paceOf, cX1_paceOf, 2, (some .int))
theorem mrX1_paceOf : MRv mX1_paceOf 1 := ⟨⟨gT_mem (tb1 201 rfl) rfl, gT_mem (tb1 2 rfl) rfl, (by decide +kernel), Nat.le_of_ble_eq_true rfl, (by decide +kernel)⟩, gT_mem (tb1 200 rfl) rfl, gT_sel (List.mem_of_getElem? (i := 4) rfl) rfl⟩
abbrev mX1_litSet : Mt := (yX1_litSet, cX1_litSet, 4, (some .int))
theorem mrX1_litSet : MRv mX1_litSet 0 := ⟨⟨gT_mem (tb1 189 rfl) rfl, gT_mem (tb1 2 rfl) rfl, (by decide +kernel), Nat.le_of_ble_eq_true rfl, (by decide +kernel)⟩, gT_mem (tb1 188 rfl) rfl, gT_sel (List.mem_of_getElem? (i := 2) rfl) rfl⟩
abbrev mX1_atRootSet : Mt := (yX1_atRootSet, cX1_atRootSet, 3, (some .int))
theorem mrX1_atRootSet : MRv mX1_atRootSet 0 := ⟨⟨gT_mem (tb1 197 rfl) rfl, gT_mem (tb1 2 rfl) rfl, (by decide +kernel), Nat.le_of_ble_eq_true rfl, (by decide +kernel)⟩, gT_mem (tb1 196 rfl) rfl, gT_sel (List.mem_of_getElem? (i := 3) rfl) rfl⟩
abbrev mX1_heardSet : Mt := (yX1_heardSet, cX1_heardSet, 3, (some .int))
theorem mrX1_heardSet : MRv mX1_heardSet 0 := ⟨⟨gT_mem (tb1 211 rfl) rfl, gT_mem (tb1 2 rfl) rfl, (by decide +kernel), Nat.le_of_ble_eq_true rfl, (by decide +kernel)⟩, gT_mem (tb1 210 rfl) rfl, gT_sel (List.mem_of_getElem? (i := 5) rfl) rfl⟩
abbrev mX1_allStumbled : Mt := (yX1_allStumbled, cX1_allStumbled, 3, (some .int))
theorem mrX1_allStumbled : MRv mX1_allStumbled 0 := ⟨⟨gT_mem (tb1 215 rfl) rfl, gT_mem (tb1 2 rfl) rfl, (by decide +kernel), Nat.le_of_ble_eq_true rfl, (by decide +kernel)⟩, gT_mem (tb1 214 rfl) rfl, gT_sel (List.mem_of_getElem? (i := 6) rfl) rfl⟩
abbrev mX1_allNerve : Mt := (yX1_allNerve, cX1_allNerve, 3, (some .int))
theorem mrX1_allNerve : MRv mX1_allNerve 0 := ⟨⟨gT_mem (tb3 153 rfl) rfl, gT_mem (tb1 2 rfl) rfl, (by decide +kernel), Nat.le_of_ble_eq_true rfl, (by decide +kernel)⟩, gT_mem (tb3 152 rfl) rfl, gT_sel (List.mem_of_getElem? (i := 47) rfl) rfl⟩
abbrev mX1_seeingSet : Mt := (yX1_seeingSet, cX1_seeingSet, 4, (some .int))
theorem mrX1_seeingSet : MRv mX1_seeingSet 0 := ⟨⟨gT_mem (tb2 2 rfl) rfl, gT_mem (tb1 2 rfl) rfl, (by decide +kernel), Nat.le_of_ble_eq_true rfl, (by decide +kernel)⟩, gT_mem (tb2 1 rfl) rfl, gT_sel (List.mem_of_getElem? (i := 9) rfl) rfl⟩
abbrev mX1_sees : Mt := (yX1_sees, cX1_sees, 4, (some .boolean))
theorem mrX1_sees : MRv mX1_sees 2 := ⟨⟨gT_mem (tb2 7 rfl) rfl, gT_mem (tb1 2 rfl) rfl, (by decide +kernel), Nat.le_of_ble_eq_true rfl, (by decide +kernel)⟩, gT_mem (tb2 6 rfl) rfl, gT_sel (List.mem_of_getElem? (i := 10) rfl) rfl⟩
abbrev mX1_heeds : Mt := (yX1_heeds, cX1_heeds, 2, (some .boolean))
theorem mrX1_heeds : MRv mX1_heeds 1 := ⟨⟨gT_mem (tb2 15 rfl) rfl, gT_mem (tb1 2 rfl) rfl, (by decide +kernel), Nat.le_of_ble_eq_true rfl, (by decide +kernel)⟩, gT_mem (tb2 14 rfl) rfl, gT_sel (List.mem_of_getElem? (i := 11) rfl) rfl⟩
abbrev mX1_says : Mt := (yX1_says, cX1_says, 6, (some .boolean))
theorem mrX1_says : MRv mX1_says 2 := ⟨⟨gT_mem (tb2 87 rfl) rfl, gT_mem (tb1 2 rfl) rfl, (by decide +kernel), Nat.le_of_ble_eq_true rfl, (by decide +kernel)⟩, gT_mem (tb2 86 rfl) rfl, gT_sel (List.mem_of_getElem? (i := 19) rfl) rfl⟩
abbrev mX1_isWarned : Mt := (yX1_isWarned, cX1_isWarned, 2, (some .boolean))
theorem mrX1_isWarned : MRv mX1_isWarned 1 := ⟨⟨gT_mem (tb2 72 rfl) rfl, gT_mem (tb1 2 rfl) rfl, (by decide +kernel), Nat.le_of_ble_eq_true rfl, (by decide +kernel)⟩, gT_mem (tb2 71 rfl) rfl, gT_sel (List.mem_of_getElem? (i := 17) rfl) rfl⟩
abbrev mX1_goSteps : Mt := (yX1_goSteps, cX1_goSteps, 3, none)
theorem mrX1_goSteps : MRv mX1_goSteps 1 := ⟨⟨gT_mem (tb2 58 rfl) rfl, gT_mem (tb1 2 rfl) rfl, (by decide +kernel), Nat.le_of_ble_eq_true rfl, (by decide +kernel)⟩, gT_mem (tb2 57 rfl) rfl, gT_sel (List.mem_of_getElem? (i := 14) rfl) rfl⟩
abbrev mX1_goStep : Mt := (yX1_goStep, cX1_goStep, 3, none)
theorem mrX1_goStep : MRv mX1_goStep 0 := ⟨⟨gT_mem (tb2 62 rfl) rfl, gT_mem (tb1 2 rfl) rfl, (by decide +kernel), Nat.le_of_ble_eq_true rfl, (by decide +kernel)⟩, gT_mem (tb2 61 rfl) rfl, gT_sel (List.mem_of_getElem? (i := 15) rfl) rfl⟩
abbrev mX1_walk : Mt := (yX1_walk, cX1_walk, 3, none)
theorem mrX1_walk : MRv mX1_walk 1 := ⟨⟨gT_mem (tb2 68 rfl) rfl, gT_mem (tb1 2 rfl) rfl, (by decide +kernel), Nat.le_of_ble_eq_true rfl, (by decide +kernel)⟩, gT_mem (tb2 67 rfl) rfl, gT_sel (List.mem_of_getElem? (i := 16) rfl) rfl⟩
abbrev mX1_sayOn : Mt := (yX1_sayOn, cX1_sayOn, 4, none)
theorem mrX1_sayOn : MRv mX1_sayOn 1 := ⟨⟨gT_mem (tb2 83 rfl) rfl, gT_mem (tb1 2 rfl) rfl, (by decide +kernel), Nat.le_of_ble_eq_true rfl, (by decide +kernel)⟩, gT_mem (tb2 82 rfl) rfl, gT_sel (List.mem_of_getElem? (i := 18) rfl) rfl⟩
abbrev mX2_init : Mt := (yX2_init, cX2_init, 1, none)
abbrev mX2_isMissing : Mt := (yX2_isMissing, cX2_isMissing, 1, (some .boolean))
theorem mrX2_isMissing : MRv mX2_isMissing 0 := ⟨⟨gT_mem (tb3 85 rfl) rfl, gT_mem (tb1 5 rfl) rfl, (by decide +kernel), Nat.le_of_ble_eq_true rfl, (by decide +kernel)⟩, gT_mem (tb3 84 rfl) rfl, gT_sel (List.mem_of_getElem? (i := 41) rfl) rfl⟩
abbrev mX2_renew : Mt := (yX2_renew, cX2_renew, 4, none)
theorem mrX2_renew : MRv mX2_renew 2 := ⟨⟨gT_mem (tb3 77 rfl) rfl, gT_mem (tb1 5 rfl) rfl, (by decide +kernel), Nat.le_of_ble_eq_true rfl, (by decide +kernel)⟩, gT_mem (tb3 76 rfl) rfl, gT_sel (List.mem_of_getElem? (i := 40) rfl) rfl⟩
abbrev mX2_spans : Mt := (yX2_spans, cX2_spans, 3, (some .boolean))
theorem mrX2_spans : MRv mX2_spans 2 := ⟨⟨gT_mem (tb3 102 rfl) rfl, gT_mem (tb1 5 rfl) rfl, (by decide +kernel), Nat.le_of_ble_eq_true rfl, (by decide +kernel)⟩, gT_mem (tb3 101 rfl) rfl, gT_sel (List.mem_of_getElem? (i := 44) rfl) rfl⟩
abbrev mX2_put : Mt := (yX2_put, cX2_put, 4, none)
theorem mrX2_put : MRv mX2_put 2 := ⟨⟨gT_mem (tb3 90 rfl) rfl, gT_mem (tb1 5 rfl) rfl, (by decide +kernel), Nat.le_of_ble_eq_true rfl, (by decide +kernel)⟩, gT_mem (tb3 89 rfl) rfl, gT_sel (List.mem_of_getElem? (i := 42) rfl) rfl⟩
abbrev mX2_cut : Mt := (yX2_cut, cX2_cut, 3, (some .long))
theorem mrX2_cut : MRv mX2_cut 1 := ⟨⟨gT_mem (tb3 94 rfl) rfl, gT_mem (tb1 5 rfl) rfl, (by decide +kernel), Nat.le_of_ble_eq_true rfl, (by decide +kernel)⟩, gT_mem (tb3 93 rfl) rfl, gT_sel (List.mem_of_getElem? (i := 43) rfl) rfl⟩
abbrev mX3_init : Mt := (yX3_init, cX3_init, 1, none)
abbrev mX3_add : Mt := (yX3_add, cX3_add, 2, none)
theorem mrX3_add : MRv mX3_add 1 := ⟨⟨gT_mem (tb2 162 rfl) rfl, gT_mem (tb1 4 rfl) rfl, (by decide +kernel), Nat.le_of_ble_eq_true rfl, (by decide +kernel)⟩, gT_mem (tb2 161 rfl) rfl, gT_sel (List.mem_of_getElem? (i := 25) rfl) rfl⟩
abbrev mX3_at : Mt := (yX3_at, cX3_at, 2, (some .int))
theorem mrX3_at : MRv mX3_at 1 := ⟨⟨gT_mem (tb2 186 rfl) rfl, gT_mem (tb1 4 rfl) rfl, (by decide +kernel), Nat.le_of_ble_eq_true rfl, (by decide +kernel)⟩, gT_mem (tb2 185 rfl) rfl, gT_sel (List.mem_of_getElem? (i := 29) rfl) rfl⟩
abbrev mX4_init : Mt := (yX4_init, cX4_init, 2, none)
abbrev mX4_roots : Mt := (yX4_roots, cX4_roots, 3, (some .int))
theorem mrX4_roots : MRv mX4_roots 1 := ⟨⟨gT_mem (tb1 160 rfl) rfl, gT_mem (tb1 1 rfl) rfl, (by decide +kernel), Nat.le_of_ble_eq_true rfl, (by decide +kernel)⟩, gT_mem (tb1 158 rfl) rfl, gT_mem (tb1 159 rfl) rfl⟩
abbrev mX4_lantern : Mt := (yX4_lantern, cX4_lantern, 3, (some .int))
theorem mrX4_lantern : MRv mX4_lantern 1 := ⟨⟨gT_mem (tb1 173 rfl) rfl, gT_mem (tb1 1 rfl) rfl, (by decide +kernel), Nat.le_of_ble_eq_true rfl, (by decide +kernel)⟩, gT_mem (tb1 171 rfl) rfl, gT_mem (tb1 172 rfl) rfl⟩
abbrev mX4_bright : Mt := (yX4_bright, cX4_bright, 3, (some .int))
theorem mrX4_bright : MRv mX4_bright 1 := ⟨⟨gT_mem (tb1 181 rfl) rfl, gT_mem (tb1 1 rfl) rfl, (by decide +kernel), Nat.le_of_ble_eq_true rfl, (by decide +kernel)⟩, gT_mem (tb1 179 rfl) rfl, gT_mem (tb1 180 rfl) rfl⟩
abbrev mX4_now : Mt := (yX4_now, cX4_now, 2, (some .int))
theorem mrX4_now : MRv mX4_now 1 := ⟨⟨gT_mem (tb1 185 rfl) rfl, gT_mem (tb1 1 rfl) rfl, (by decide +kernel), Nat.le_of_ble_eq_true rfl, (by decide +kernel)⟩, gT_mem (tb1 183 rfl) rfl, gT_mem (tb1 184 rfl) rfl⟩
abbrev mX4_walker : Mt := (yX4_walker, cX4_walker, 2, (some .int))
theorem mrX4_walker : MRv mX4_walker 1 := ⟨⟨gT_mem (tb1 219 rfl) rfl, gT_mem (tb1 1 rfl) rfl, (by decide +kernel), Nat.le_of_ble_eq_true rfl, (by decide +kernel)⟩, gT_mem (tb1 217 rfl) rfl, gT_mem (tb1 218 rfl) rfl⟩
abbrev mX4_of : Mt := (yX4_of, cX4_of, 3, (some .int))
theorem mrX4_of : MRv mX4_of 2 := ⟨⟨gT_mem (tb1 236 rfl) rfl, gT_mem (tb1 1 rfl) rfl, (by decide +kernel), Nat.le_of_ble_eq_true rfl, (by decide +kernel)⟩, gT_mem (tb1 234 rfl) rfl, gT_mem (tb1 235 rfl) rfl⟩
abbrev mX4_set : Mt := (yX4_set, cX4_set, 4, (some .int))
theorem mrX4_set : MRv mX4_set 3 := ⟨⟨gT_mem (tb2 19 rfl) rfl, gT_mem (tb1 1 rfl) rfl, (by decide +kernel), Nat.le_of_ble_eq_true rfl, (by decide +kernel)⟩, gT_mem (tb2 17 rfl) rfl, gT_mem (tb2 18 rfl) rfl⟩
abbrev mX4_swap : Mt := (yX4_swap, cX4_swap, 3, (some .int))
theorem mrX4_swap : MRv mX4_swap 2 := ⟨⟨gT_mem (tb2 27 rfl) rfl, gT_mem (tb1 1 rfl) rfl, (by decide +kernel), Nat.le_of_ble_eq_true rfl, (by decide +kernel)⟩, gT_mem (tb2 25 rfl) rfl, gT_mem (tb2 26 rfl) rfl⟩
abbrev mX4_turn : Mt := (yX4_turn, cX4_turn, 4, (some .int))
theorem mrX4_turn : MRv mX4_turn 2 := ⟨⟨gT_mem (tb2 38 rfl) rfl, gT_mem (tb1 1 rfl) rfl, (by decide +kernel), Nat.le_of_ble_eq_true rfl, (by decide +kernel)⟩, gT_mem (tb2 36 rfl) rfl, gT_mem (tb2 37 rfl) rfl⟩
abbrev mX4_as : Mt := (yX4_as, cX4_as, 3, (some .int))
theorem mrX4_as : MRv mX4_as 2 := ⟨⟨gT_mem (tb2 42 rfl) rfl, gT_mem (tb1 1 rfl) rfl, (by decide +kernel), Nat.le_of_ble_eq_true rfl, (by decide +kernel)⟩, gT_mem (tb2 40 rfl) rfl, gT_mem (tb2 41 rfl) rfl⟩
abbrev mX4_steps : Mt := (yX4_steps, cX4_steps, 2, (some .int))
theorem mrX4_steps : MRv mX4_steps 1 := ⟨⟨gT_mem (tb2 52 rfl) rfl, gT_mem (tb1 1 rfl) rfl, (by decide +kernel), Nat.le_of_ble_eq_true rfl, (by decide +kernel)⟩, gT_mem (tb2 50 rfl) rfl, gT_mem (tb2 51 rfl) rfl⟩
abbrev mX4_on : Mt := (yX4_on, cX4_on, 4, (some .int))
theorem mrX4_on : MRv mX4_on 3 := ⟨⟨gT_mem (tb2 91 rfl) rfl, gT_mem (tb1 1 rfl) rfl, (by decide +kernel), Nat.le_of_ble_eq_true rfl, (by decide +kernel)⟩, gT_mem (tb2 89 rfl) rfl, gT_mem (tb2 90 rfl) rfl⟩
abbrev mX4_falls : Mt := (yX4_falls, cX4_falls, 2, (some .int))
theorem mrX4_falls : MRv mX4_falls 1 := ⟨⟨gT_mem (tb2 103 rfl) rfl, gT_mem (tb1 1 rfl) rfl, (by decide +kernel), Nat.le_of_ble_eq_true rfl, (by decide +kernel)⟩, gT_mem (tb2 101 rfl) rfl, gT_mem (tb2 102 rfl) rfl⟩
abbrev mX4_trips : Mt := (yX4_trips, cX4_trips, 3, (some .int))
theorem mrX4_trips : MRv mX4_trips 1 := ⟨⟨gT_mem (tb2 111 rfl) rfl, gT_mem (tb1 1 rfl) rfl, (by decide +kernel), Nat.le_of_ble_eq_true rfl, (by decide +kernel)⟩, gT_mem (tb2 109 rfl) rfl, gT_mem (tb2 110 rfl) rfl⟩
abbrev mX4_hears : Mt := (yX4_hears, cX4_hears, 3, (some .int))
theorem mrX4_hears : MRv mX4_hears 1 := ⟨⟨gT_mem (tb2 117 rfl) rfl, gT_mem (tb1 1 rfl) rfl, (by decide +kernel), Nat.le_of_ble_eq_true rfl, (by decide +kernel)⟩, gT_mem (tb2 115 rfl) rfl, gT_mem (tb2 116 rfl) rfl⟩
abbrev mX4_carry : Mt := (yX4_carry, cX4_carry, 6, (some .int))
theorem mrX4_carry : MRv mX4_carry 1 := ⟨⟨gT_mem (tb2 121 rfl) rfl, gT_mem (tb1 1 rfl) rfl, (by decide +kernel), Nat.le_of_ble_eq_true rfl, (by decide +kernel)⟩, gT_mem (tb2 119 rfl) rfl, gT_mem (tb2 120 rfl) rfl⟩
abbrev mX4_order : Mt := (yX4_order, cX4_order, 7, (some .int))
theorem mrX4_order : MRv mX4_order 1 := ⟨⟨gT_mem (tb2 126 rfl) rfl, gT_mem (tb1 1 rfl) rfl, (by decide +kernel), Nat.le_of_ble_eq_true rfl, (by decide +kernel)⟩, gT_mem (tb2 124 rfl) rfl, gT_mem (tb2 125 rfl) rfl⟩
abbrev mX4_kind : Mt := (yX4_kind, cX4_kind, 6, (some .int))
theorem mrX4_kind : MRv mX4_kind 2 := ⟨⟨gT_mem (tb2 130 rfl) rfl, gT_mem (tb1 1 rfl) rfl, (by decide +kernel), Nat.le_of_ble_eq_true rfl, (by decide +kernel)⟩, gT_mem (tb2 128 rfl) rfl, gT_mem (tb2 129 rfl) rfl⟩
abbrev mX4_least : Mt := (yX4_least, cX4_least, 4, (some .int))
theorem mrX4_least : MRv mX4_least 2 := ⟨⟨gT_mem (tb2 134 rfl) rfl, gT_mem (tb1 1 rfl) rfl, (by decide +kernel), Nat.le_of_ble_eq_true rfl, (by decide +kernel)⟩, gT_mem (tb2 132 rfl) rfl, gT_mem (tb2 133 rfl) rfl⟩
abbrev mX4_clear : Mt := (yX4_clear, cX4_clear, 6, (some .int))
theorem mrX4_clear : MRv mX4_clear 1 := ⟨⟨gT_mem (tb2 138 rfl) rfl, gT_mem (tb1 1 rfl) rfl, (by decide +kernel), Nat.le_of_ble_eq_true rfl, (by decide +kernel)⟩, gT_mem (tb2 136 rfl) rfl, gT_mem (tb2 137 rfl) rfl⟩
abbrev mX4_nerve : Mt := (yX4_nerve, cX4_nerve, 4, (some .int))
theorem mrX4_nerve : MRv mX4_nerve 2 := ⟨⟨gT_mem (tb2 146 rfl) rfl, gT_mem (tb1 1 rfl) rfl, (by decide +kernel), Nat.le_of_ble_eq_true rfl, (by decide +kernel)⟩, gT_mem (tb2 144 rfl) rfl, gT_mem (tb2 145 rfl) rfl⟩
abbrev mX4_worst : Mt := (yX4_worst, cX4_worst, 4, (some .int))
theorem mrX4_worst : MRv mX4_worst 1 := ⟨⟨gT_mem (tb2 154 rfl) rfl, gT_mem (tb1 1 rfl) rfl, (by decide +kernel), Nat.le_of_ble_eq_true rfl, (by decide +kernel)⟩, gT_mem (tb2 152 rfl) rfl, gT_mem (tb2 153 rfl) rfl⟩
abbrev mX4_feed : Mt := (yX4_feed, cX4_feed, 4, (some .int))
theorem mrX4_feed : MRv mX4_feed 2 := ⟨⟨gT_mem (tb2 158 rfl) rfl, gT_mem (tb1 1 rfl) rfl, (by decide +kernel), Nat.le_of_ble_eq_true rfl, (by decide +kernel)⟩, gT_mem (tb2 156 rfl) rfl, gT_mem (tb2 157 rfl) rfl⟩
abbrev mX4_wipe : Mt := (yX4_wipe, cX4_wipe, 2, (some .int))
theorem mrX4_wipe : MRv mX4_wipe 0 := ⟨⟨gT_mem (tb2 166 rfl) rfl, gT_mem (tb1 1 rfl) rfl, (by decide +kernel), Nat.le_of_ble_eq_true rfl, (by decide +kernel)⟩, gT_mem (tb2 164 rfl) rfl, gT_mem (tb2 165 rfl) rfl⟩
abbrev mX4_night : Mt := (yX4_night, cX4_night, 2, (some .int))
theorem mrX4_night : MRv mX4_night 0 := ⟨⟨gT_mem (tb2 170 rfl) rfl, gT_mem (tb1 1 rfl) rfl, (by decide +kernel), Nat.le_of_ble_eq_true rfl, (by decide +kernel)⟩, gT_mem (tb2 168 rfl) rfl, gT_mem (tb2 169 rfl) rfl⟩
abbrev mX4_sheet : Mt := (yX4_sheet, cX4_sheet, 4, (some .int))
theorem mrX4_sheet : MRv mX4_sheet 3 := ⟨⟨gT_mem (tb3 66 rfl) rfl, gT_mem (tb1 1 rfl) rfl, (by decide +kernel), Nat.le_of_ble_eq_true rfl, (by decide +kernel)⟩, gT_mem (tb3 64 rfl) rfl, gT_mem (tb3 65 rfl) rfl⟩
abbrev mX4_write : Mt := (yX4_write, cX4_write, 8, (some .long))
theorem mrX4_write : MRv mX4_write 3 := ⟨⟨gT_mem (tb3 81 rfl) rfl, gT_mem (tb1 1 rfl) rfl, (by decide +kernel), Nat.le_of_ble_eq_true rfl, (by decide +kernel)⟩, gT_mem (tb3 79 rfl) rfl, gT_mem (tb3 80 rfl) rfl⟩
abbrev mX4_copy : Mt := (yX4_copy, cX4_copy, 8, (some .int))
theorem mrX4_copy : MRv mX4_copy 5 := ⟨⟨gT_mem (tb3 98 rfl) rfl, gT_mem (tb1 1 rfl) rfl, (by decide +kernel), Nat.le_of_ble_eq_true rfl, (by decide +kernel)⟩, gT_mem (tb3 96 rfl) rfl, gT_mem (tb3 97 rfl) rfl⟩
abbrev mX4_lays : Mt := (yX4_lays, cX4_lays, 8, (some .int))
theorem mrX4_lays : MRv mX4_lays 1 := ⟨⟨gT_mem (tb3 109 rfl) rfl, gT_mem (tb1 1 rfl) rfl, (by decide +kernel), Nat.le_of_ble_eq_true rfl, (by decide +kernel)⟩, gT_mem (tb3 107 rfl) rfl, gT_mem (tb3 108 rfl) rfl⟩
abbrev mX4_book : Mt := (yX4_book, cX4_book, 6, (some .int))
theorem mrX4_book : MRv mX4_book 2 := ⟨⟨gT_mem (tb3 115 rfl) rfl, gT_mem (tb1 1 rfl) rfl, (by decide +kernel), Nat.le_of_ble_eq_true rfl, (by decide +kernel)⟩, gT_mem (tb3 113 rfl) rfl, gT_mem (tb3 114 rfl) rfl⟩
abbrev mX4_read : Mt := (yX4_read, cX4_read, 7, (some .int))
theorem mrX4_read : MRv mX4_read 2 := ⟨⟨gT_mem (tb3 123 rfl) rfl, gT_mem (tb1 1 rfl) rfl, (by decide +kernel), Nat.le_of_ble_eq_true rfl, (by decide +kernel)⟩, gT_mem (tb3 121 rfl) rfl, gT_mem (tb3 122 rfl) rfl⟩
abbrev mX4_image : Mt := (yX4_image, cX4_image, 1, (some .int))
theorem mrX4_image : MRv mX4_image 0 := ⟨⟨gT_mem (tb3 131 rfl) rfl, gT_mem (tb1 1 rfl) rfl, (by decide +kernel), Nat.le_of_ble_eq_true rfl, (by decide +kernel)⟩, gT_mem (tb3 129 rfl) rfl, gT_mem (tb3 130 rfl) rfl⟩
abbrev mX4_undo : Mt := (yX4_undo, cX4_undo, 1, (some .int))
theorem mrX4_undo : MRv mX4_undo 0 := ⟨⟨gT_mem (tb3 135 rfl) rfl, gT_mem (tb1 1 rfl) rfl, (by decide +kernel), Nat.le_of_ble_eq_true rfl, (by decide +kernel)⟩, gT_mem (tb3 133 rfl) rfl, gT_mem (tb3 134 rfl) rfl⟩
abbrev mX4_tear : Mt := (yX4_tear, cX4_tear, 2, (some .int))
theorem mrX4_tear : MRv mX4_tear 0 := ⟨⟨gT_mem (tb3 139 rfl) rfl, gT_mem (tb1 1 rfl) rfl, (by decide +kernel), Nat.le_of_ble_eq_true rfl, (by decide +kernel)⟩, gT_mem (tb3 137 rfl) rfl, gT_mem (tb3 138 rfl) rfl⟩
abbrev mX4_count : Mt := (yX4_count, cX4_count, 2, (some .int))
theorem mrX4_count : MRv mX4_count 1 := ⟨⟨gT_mem (tb3 143 rfl) rfl, gT_mem (tb1 1 rfl) rfl, (by decide +kernel), Nat.le_of_ble_eq_true rfl, (by decide +kernel)⟩, gT_mem (tb3 141 rfl) rfl, gT_mem (tb3 142 rfl) rfl⟩
abbrev mX4_status : Mt := (yX4_status, cX4_status, 4, (some .int))
theorem mrX4_status : MRv mX4_status 1 := ⟨⟨gT_mem (tb3 157 rfl) rfl, gT_mem (tb1 1 rfl) rfl, (by decide +kernel), Nat.le_of_ble_eq_true rfl, (by decide +kernel)⟩, gT_mem (tb3 155 rfl) rfl, gT_mem (tb3 156 rfl) rfl⟩
abbrev mX4_tell : Mt := (yX4_tell, cX4_tell, 3, (some .int))
theorem mrX4_tell : MRv mX4_tell 1 := ⟨⟨gT_mem (tb1 169 rfl) rfl, gT_mem (tb1 1 rfl) rfl, (by decide +kernel), Nat.le_of_ble_eq_true rfl, (by decide +kernel)⟩, gT_mem (tb1 168 rfl) rfl, gT_sel (List.mem_of_getElem? (i := 0) rfl) rfl⟩
abbrev mX4_put : Mt := (yX4_put, cX4_put, 6, (some .int))
theorem mrX4_put : MRv mX4_put 4 := ⟨⟨gT_mem (tb2 23 rfl) rfl, gT_mem (tb1 1 rfl) rfl, (by decide +kernel), Nat.le_of_ble_eq_true rfl, (by decide +kernel)⟩, gT_mem (tb2 22 rfl) rfl, gT_sel (List.mem_of_getElem? (i := 12) rfl) rfl⟩
abbrev mX4_lookAhead : Mt := (yX4_lookAhead, cX4_lookAhead, 1, none)
theorem mrX4_lookAhead : MRv mX4_lookAhead 0 := ⟨⟨gT_mem (tb2 95 rfl) rfl, gT_mem (tb1 1 rfl) rfl, (by decide +kernel), Nat.le_of_ble_eq_true rfl, (by decide +kernel)⟩, gT_mem (tb2 94 rfl) rfl, gT_sel (List.mem_of_getElem? (i := 20) rfl) rfl⟩
abbrev mX4_stumbledIn : Mt := (yX4_stumbledIn, cX4_stumbledIn, 2, (some .int))
theorem mrX4_stumbledIn : MRv mX4_stumbledIn 1 := ⟨⟨gT_mem (tb2 107 rfl) rfl, gT_mem (tb1 1 rfl) rfl, (by decide +kernel), Nat.le_of_ble_eq_true rfl, (by decide +kernel)⟩, gT_mem (tb2 106 rfl) rfl, gT_sel (List.mem_of_getElem? (i := 22) rfl) rfl⟩
abbrev mX4_findingOfBook : Mt := (yX4_findingOfBook, cX4_findingOfBook, 3, (some .int))
theorem mrX4_findingOfBook : MRv mX4_findingOfBook 2 := ⟨⟨gT_mem (tb3 119 rfl) rfl, gT_mem (tb1 1 rfl) rfl, (by decide +kernel), Nat.le_of_ble_eq_true rfl, (by decide +kernel)⟩, gT_mem (tb3 118 rfl) rfl, gT_sel (List.mem_of_getElem? (i := 45) rfl) rfl⟩
abbrev mX4_stumblesNoMore : Mt := (yX4_stumblesNoMore, cX4_stumblesNoMore, 4, (some .boolean))
theorem mrX4_stumblesNoMore : MRv mX4_stumblesNoMore 2 := ⟨⟨gT_mem (tb2 150 rfl) rfl, gT_mem (tb1 1 rfl) rfl, (by decide +kernel), Nat.le_of_ble_eq_true rfl, (by decide +kernel)⟩, gT_mem (tb2 149 rfl) rfl, gT_sel (List.mem_of_getElem? (i := 24) rfl) rfl⟩
abbrev mX4_stumblesJustAs : Mt := (yX4_stumblesJustAs, cX4_stumblesJustAs, 4, (some .boolean))
theorem mrX4_stumblesJustAs : MRv mX4_stumblesJustAs 2 := ⟨⟨gT_mem (tb3 127 rfl) rfl, gT_mem (tb1 1 rfl) rfl, (by decide +kernel), Nat.le_of_ble_eq_true rfl, (by decide +kernel)⟩, gT_mem (tb3 126 rfl) rfl, gT_sel (List.mem_of_getElem? (i := 46) rfl) rfl⟩
abbrev mX4_within : Mt := (yX4_within, cX4_within, 3, (some .boolean))
theorem mrX4_within : MRs mX4_within 3 := ⟨⟨gT_mem (tb1 164 rfl) rfl, gT_mem (tb1 1 rfl) rfl, (by decide +kernel), Nat.le_of_ble_eq_true rfl, (by decide +kernel)⟩, gT_mem (tb1 163 rfl) rfl⟩
abbrev mX4_isIn : Mt := (yX4_isIn, cX4_isIn, 2, (some .boolean))
theorem mrX4_isIn : MRs mX4_isIn 2 := ⟨⟨gT_mem (tb1 207 rfl) rfl, gT_mem (tb1 1 rfl) rfl, (by decide +kernel), Nat.le_of_ble_eq_true rfl, (by decide +kernel)⟩, gT_mem (tb1 206 rfl) rfl⟩
abbrev mX4_isKind : Mt := (yX4_isKind, cX4_isKind, 1, (some .boolean))
theorem mrX4_isKind : MRs mX4_isKind 1 := ⟨⟨gT_mem (tb1 222 rfl) rfl, gT_mem (tb1 1 rfl) rfl, (by decide +kernel), Nat.le_of_ble_eq_true rfl, (by decide +kernel)⟩, gT_mem (tb1 221 rfl) rfl⟩
abbrev mX4_isSheet : Mt := (yX4_isSheet, cX4_isSheet, 1, (some .boolean))
theorem mrX4_isSheet : MRs mX4_isSheet 1 := ⟨⟨gT_mem (tb3 69 rfl) rfl, gT_mem (tb1 1 rfl) rfl, (by decide +kernel), Nat.le_of_ble_eq_true rfl, (by decide +kernel)⟩, gT_mem (tb3 68 rfl) rfl⟩
abbrev mX4_isWidth : Mt := (yX4_isWidth, cX4_isWidth, 1, (some .boolean))
theorem mrX4_isWidth : MRs mX4_isWidth 1 := ⟨⟨gT_mem (tb3 72 rfl) rfl, gT_mem (tb1 1 rfl) rfl, (by decide +kernel), Nat.le_of_ble_eq_true rfl, (by decide +kernel)⟩, gT_mem (tb3 71 rfl) rfl⟩
abbrev mX4_isUnder : Mt := (yX4_isUnder, cX4_isUnder, 4, (some .boolean))
theorem mrX4_isUnder : MRs mX4_isUnder 2 := ⟨⟨gT_mem (tb2 45 rfl) rfl, gT_mem (tb1 1 rfl) rfl, (by decide +kernel), Nat.le_of_ble_eq_true rfl, (by decide +kernel)⟩, gT_mem (tb2 44 rfl) rfl⟩
abbrev mX4_shadeOf : Mt := (yX4_shadeOf, cX4_shadeOf, 1, (some .int))
theorem mrX4_shadeOf : MRs mX4_shadeOf 1 := ⟨⟨gT_mem (tb1 193 rfl) rfl, gT_mem (tb1 1 rfl) rfl, (by decide +kernel), Nat.le_of_ble_eq_true rfl, (by decide +kernel)⟩, gT_mem (tb1 192 rfl) rfl⟩
abbrev mX5_init : Mt := (yX5_init, cX5_init, 2, none)
abbrev mX5_in : Mt := (yX5_in, cX5_in, 6, (some .boolean))
theorem mrX5_in : MRs mX5_in 3 := ⟨⟨gT_mem (tb3 223 rfl) rfl, gT_mem (tb1 6 rfl) rfl, (by decide +kernel), Nat.le_of_ble_eq_true rfl, (by decide +kernel)⟩, gT_mem (tb3 222 rfl) rfl⟩
abbrev mX5_finds : Mt := (yX5_finds, cX5_finds, 2, (some .int))
theorem mrX5_finds : MRv mX5_finds 1 := ⟨⟨gT_mem (tb3 232 rfl) rfl, gT_mem (tb1 6 rfl) rfl, (by decide +kernel), Nat.le_of_ble_eq_true rfl, (by decide +kernel)⟩, gT_mem (tb3 231 rfl) rfl, gT_sel (List.mem_of_getElem? (i := 49) rfl) rfl⟩
abbrev mX5_saves : Mt := (yX5_saves, cX5_saves, 2, none)
theorem mrX5_saves : MRv mX5_saves 0 := ⟨⟨gT_mem (tb4 220 rfl) rfl, gT_mem (tb1 6 rfl) rfl, (by decide +kernel), Nat.le_of_ble_eq_true rfl, (by decide +kernel)⟩, gT_mem (tb4 219 rfl) rfl, gT_sel (List.mem_of_getElem? (i := 74) rfl) rfl⟩
abbrev mX5_putsBack : Mt := (yX5_putsBack, cX5_putsBack, 2, none)
theorem mrX5_putsBack : MRv mX5_putsBack 0 := ⟨⟨gT_mem (tb5 56 rfl) rfl, gT_mem (tb1 6 rfl) rfl, (by decide +kernel), Nat.le_of_ble_eq_true rfl, (by decide +kernel)⟩, gT_mem (tb5 55 rfl) rfl, gT_sel (List.mem_of_getElem? (i := 87) rfl) rfl⟩
abbrev mX5_laysAside : Mt := (yX5_laysAside, cX5_laysAside, 2, none)
theorem mrX5_laysAside : MRv mX5_laysAside 0 := ⟨⟨gT_mem (tb4 144 rfl) rfl, gT_mem (tb1 6 rfl) rfl, (by decide +kernel), Nat.le_of_ble_eq_true rfl, (by decide +kernel)⟩, gT_mem (tb4 143 rfl) rfl, gT_sel (List.mem_of_getElem? (i := 70) rfl) rfl⟩
abbrev mX5_takesBack : Mt := (yX5_takesBack, cX5_takesBack, 3, (some .int))
theorem mrX5_takesBack : MRv mX5_takesBack 1 := ⟨⟨gT_mem (tb4 148 rfl) rfl, gT_mem (tb1 6 rfl) rfl, (by decide +kernel), Nat.le_of_ble_eq_true rfl, (by decide +kernel)⟩, gT_mem (tb4 147 rfl) rfl, gT_sel (List.mem_of_getElem? (i := 71) rfl) rfl⟩
abbrev mX5_becomes : Mt := (yX5_becomes, cX5_becomes, 4, (some .int))
theorem mrX5_becomes : MRv mX5_becomes 2 := ⟨⟨gT_mem (tb3 227 rfl) rfl, gT_mem (tb1 6 rfl) rfl, (by decide +kernel), Nat.le_of_ble_eq_true rfl, (by decide +kernel)⟩, gT_mem (tb3 226 rfl) rfl, gT_sel (List.mem_of_getElem? (i := 48) rfl) rfl⟩
abbrev mX5_spot : Mt := (yX5_spot, cX5_spot, 2, (some .int))
theorem mrX5_spot : MRs mX5_spot 2 := ⟨⟨gT_mem (tb4 28 rfl) rfl, gT_mem (tb1 6 rfl) rfl, (by decide +kernel), Nat.le_of_ble_eq_true rfl, (by decide +kernel)⟩, gT_mem (tb4 27 rfl) rfl⟩
abbrev mX5_its : Mt := (yX5_its, cX5_its, 3, (some .int))
theorem mrX5_its : MRv mX5_its 2 := ⟨⟨gT_mem (tb4 25 rfl) rfl, gT_mem (tb1 6 rfl) rfl, (by decide +kernel), Nat.le_of_ble_eq_true rfl, (by decide +kernel)⟩, gT_mem (tb4 24 rfl) rfl, gT_sel (List.mem_of_getElem? (i := 54) rfl) rfl⟩
abbrev mX5_isPlace : Mt := (yX5_isPlace, cX5_isPlace, 2, (some .boolean))
theorem mrX5_isPlace : MRv mX5_isPlace 1 := ⟨⟨gT_mem (tb4 0 rfl) rfl, gT_mem (tb1 6 rfl) rfl, (by decide +kernel), Nat.le_of_ble_eq_true rfl, (by decide +kernel)⟩, gT_mem (tb3 239 rfl) rfl, gT_sel (List.mem_of_getElem? (i := 50) rfl) rfl⟩
abbrev mX5_isKind : Mt := (yX5_isKind, cX5_isKind, 1, (some .boolean))
theorem mrX5_isKind : MRs mX5_isKind 1 := ⟨⟨gT_mem (tb4 59 rfl) rfl, gT_mem (tb1 6 rfl) rfl, (by decide +kernel), Nat.le_of_ble_eq_true rfl, (by decide +kernel)⟩, gT_mem (tb4 58 rfl) rfl⟩
abbrev mX5_together : Mt := (yX5_together, cX5_together, 4, (some .int))
theorem mrX5_together : MRv mX5_together 1 := ⟨⟨gT_mem (tb4 52 rfl) rfl, gT_mem (tb1 6 rfl) rfl, (by decide +kernel), Nat.le_of_ble_eq_true rfl, (by decide +kernel)⟩, gT_mem (tb4 51 rfl) rfl, gT_sel (List.mem_of_getElem? (i := 60) rfl) rfl⟩
abbrev mX5_paceOf : Mt := (yX5_paceOf, cX5_paceOf, 3, (some .int))
theorem mrX5_paceOf : MRv mX5_paceOf 1 := ⟨⟨gT_mem (tb4 44 rfl) rfl, gT_mem (tb1 6 rfl) rfl, (by decide +kernel), Nat.le_of_ble_eq_true rfl, (by decide +kernel)⟩, gT_mem (tb4 43 rfl) rfl, gT_sel (List.mem_of_getElem? (i := 58) rfl) rfl⟩
abbrev mX5_isAtRoot : Mt := (yX5_isAtRoot, cX5_isAtRoot, 2, (some .boolean))
theorem mrX5_isAtRoot : MRv mX5_isAtRoot 1 := ⟨⟨gT_mem (tb4 40 rfl) rfl, gT_mem (tb1 6 rfl) rfl, (by decide +kernel), Nat.le_of_ble_eq_true rfl, (by decide +kernel)⟩, gT_mem (tb4 39 rfl) rfl, gT_sel (List.mem_of_getElem? (i := 57) rfl) rfl⟩
abbrev mX5_roots : Mt := (yX5_roots, cX5_roots, 2, (some .int))
theorem mrX5_roots : MRv mX5_roots 1 := ⟨⟨gT_mem (tb3 219 rfl) rfl, gT_mem (tb1 6 rfl) rfl, (by decide +kernel), Nat.le_of_ble_eq_true rfl, (by decide +kernel)⟩, gT_mem (tb3 217 rfl) rfl, gT_mem (tb3 218 rfl) rfl⟩
abbrev mX5_lantern : Mt := (yX5_lantern, cX5_lantern, 2, (some .int))
theorem mrX5_lantern : MRv mX5_lantern 1 := ⟨⟨gT_mem (tb3 236 rfl) rfl, gT_mem (tb1 6 rfl) rfl, (by decide +kernel), Nat.le_of_ble_eq_true rfl, (by decide +kernel)⟩, gT_mem (tb3 234 rfl) rfl, gT_mem (tb3 235 rfl) rfl⟩
abbrev mX5_bright : Mt := (yX5_bright, cX5_bright, 2, (some .int))
theorem mrX5_bright : MRv mX5_bright 1 := ⟨⟨gT_mem (tb4 4 rfl) rfl, gT_mem (tb1 6 rfl) rfl, (by decide +kernel), Nat.le_of_ble_eq_true rfl, (by decide +kernel)⟩, gT_mem (tb4 2 rfl) rfl, gT_mem (tb4 3 rfl) rfl⟩
abbrev mX5_shadesOf : Mt := (yX5_shadesOf, cX5_shadesOf, 3, (some .int))
theorem mrX5_shadesOf : MRv mX5_shadesOf 1 := ⟨⟨gT_mem (tb4 21 rfl) rfl, gT_mem (tb1 6 rfl) rfl, (by decide +kernel), Nat.le_of_ble_eq_true rfl, (by decide +kernel)⟩, gT_mem (tb4 20 rfl) rfl, gT_sel (List.mem_of_getElem? (i := 53) rfl) rfl⟩
abbrev mX5_farOf : Mt := (yX5_farOf, cX5_farOf, 2, (some .int))
theorem mrX5_farOf : MRv mX5_farOf 1 := ⟨⟨gT_mem (tb4 32 rfl) rfl, gT_mem (tb1 6 rfl) rfl, (by decide +kernel), Nat.le_of_ble_eq_true rfl, (by decide +kernel)⟩, gT_mem (tb4 31 rfl) rfl, gT_sel (List.mem_of_getElem? (i := 55) rfl) rfl⟩
abbrev mX5_isLit : Mt := (yX5_isLit, cX5_isLit, 4, (some .boolean))
theorem mrX5_isLit : MRv mX5_isLit 1 := ⟨⟨gT_mem (tb4 17 rfl) rfl, gT_mem (tb1 6 rfl) rfl, (by decide +kernel), Nat.le_of_ble_eq_true rfl, (by decide +kernel)⟩, gT_mem (tb4 16 rfl) rfl, gT_sel (List.mem_of_getElem? (i := 52) rfl) rfl⟩
abbrev mX5_litOnes : Mt := (yX5_litOnes, cX5_litOnes, 3, (some .int))
theorem mrX5_litOnes : MRv mX5_litOnes 0 := ⟨⟨gT_mem (tb4 13 rfl) rfl, gT_mem (tb1 6 rfl) rfl, (by decide +kernel), Nat.le_of_ble_eq_true rfl, (by decide +kernel)⟩, gT_mem (tb4 12 rfl) rfl, gT_sel (List.mem_of_getElem? (i := 51) rfl) rfl⟩
abbrev mX5_rootedOnes : Mt := (yX5_rootedOnes, cX5_rootedOnes, 3, (some .int))
theorem mrX5_rootedOnes : MRv mX5_rootedOnes 0 := ⟨⟨gT_mem (tb4 36 rfl) rfl, gT_mem (tb1 6 rfl) rfl, (by decide +kernel), Nat.le_of_ble_eq_true rfl, (by decide +kernel)⟩, gT_mem (tb4 35 rfl) rfl, gT_sel (List.mem_of_getElem? (i := 56) rfl) rfl⟩
abbrev mX5_heardOnes : Mt := (yX5_heardOnes, cX5_heardOnes, 3, (some .int))
theorem mrX5_heardOnes : MRv mX5_heardOnes 0 := ⟨⟨gT_mem (tb4 48 rfl) rfl, gT_mem (tb1 6 rfl) rfl, (by decide +kernel), Nat.le_of_ble_eq_true rfl, (by decide +kernel)⟩, gT_mem (tb4 47 rfl) rfl, gT_sel (List.mem_of_getElem? (i := 59) rfl) rfl⟩
abbrev mX5_now : Mt := (yX5_now, cX5_now, 2, (some .int))
theorem mrX5_now : MRv mX5_now 1 := ⟨⟨gT_mem (tb4 9 rfl) rfl, gT_mem (tb1 6 rfl) rfl, (by decide +kernel), Nat.le_of_ble_eq_true rfl, (by decide +kernel)⟩, gT_mem (tb4 7 rfl) rfl, gT_mem (tb4 8 rfl) rfl⟩
abbrev mX5_isSeeing : Mt := (yX5_isSeeing, cX5_isSeeing, 3, (some .boolean))
theorem mrX5_isSeeing : MRv mX5_isSeeing 1 := ⟨⟨gT_mem (tb4 73 rfl) rfl, gT_mem (tb1 6 rfl) rfl, (by decide +kernel), Nat.le_of_ble_eq_true rfl, (by decide +kernel)⟩, gT_mem (tb4 72 rfl) rfl, gT_sel (List.mem_of_getElem? (i := 62) rfl) rfl⟩
abbrev mX5_isHeeding : Mt := (yX5_isHeeding, cX5_isHeeding, 3, (some .boolean))
theorem mrX5_isHeeding : MRv mX5_isHeeding 1 := ⟨⟨gT_mem (tb4 77 rfl) rfl, gT_mem (tb1 6 rfl) rfl, (by decide +kernel), Nat.le_of_ble_eq_true rfl, (by decide +kernel)⟩, gT_mem (tb4 76 rfl) rfl, gT_sel (List.mem_of_getElem? (i := 63) rfl) rfl⟩
abbrev mX5_isSaying : Mt := (yX5_isSaying, cX5_isSaying, 5, (some .boolean))
theorem mrX5_isSaying : MRv mX5_isSaying 1 := ⟨⟨gT_mem (tb4 128 rfl) rfl, gT_mem (tb1 6 rfl) rfl, (by decide +kernel), Nat.le_of_ble_eq_true rfl, (by decide +kernel)⟩, gT_mem (tb4 127 rfl) rfl, gT_sel (List.mem_of_getElem? (i := 68) rfl) rfl⟩
abbrev mX5_adds : Mt := (yX5_adds, cX5_adds, 3, (some .int))
theorem mrX5_adds : MRv mX5_adds 1 := ⟨⟨gT_mem (tb4 65 rfl) rfl, gT_mem (tb1 6 rfl) rfl, (by decide +kernel), Nat.le_of_ble_eq_true rfl, (by decide +kernel)⟩, gT_mem (tb4 64 rfl) rfl, gT_sel (List.mem_of_getElem? (i := 61) rfl) rfl⟩
abbrev mX5_walker : Mt := (yX5_walker, cX5_walker, 2, (some .int))
theorem mrX5_walker : MRv mX5_walker 1 := ⟨⟨gT_mem (tb4 56 rfl) rfl, gT_mem (tb1 6 rfl) rfl, (by decide +kernel), Nat.le_of_ble_eq_true rfl, (by decide +kernel)⟩, gT_mem (tb4 54 rfl) rfl, gT_mem (tb4 55 rfl) rfl⟩
abbrev mX5_of : Mt := (yX5_of, cX5_of, 3, (some .int))
theorem mrX5_of : MRv mX5_of 2 := ⟨⟨gT_mem (tb4 69 rfl) rfl, gT_mem (tb1 6 rfl) rfl, (by decide +kernel), Nat.le_of_ble_eq_true rfl, (by decide +kernel)⟩, gT_mem (tb4 67 rfl) rfl, gT_mem (tb4 68 rfl) rfl⟩
abbrev mX5_set : Mt := (yX5_set, cX5_set, 5, (some .int))
theorem mrX5_set : MRv mX5_set 3 := ⟨⟨gT_mem (tb4 81 rfl) rfl, gT_mem (tb1 6 rfl) rfl, (by decide +kernel), Nat.le_of_ble_eq_true rfl, (by decide +kernel)⟩, gT_mem (tb4 79 rfl) rfl, gT_mem (tb4 80 rfl) rfl⟩
abbrev mX5_swaps : Mt := (yX5_swaps, cX5_swaps, 5, none)
theorem mrX5_swaps : MRv mX5_swaps 2 := ⟨⟨gT_mem (tb4 93 rfl) rfl, gT_mem (tb1 6 rfl) rfl, (by decide +kernel), Nat.le_of_ble_eq_true rfl, (by decide +kernel)⟩, gT_mem (tb4 92 rfl) rfl, gT_sel (List.mem_of_getElem? (i := 64) rfl) rfl⟩
abbrev mX5_swap : Mt := (yX5_swap, cX5_swap, 3, (some .int))
theorem mrX5_swap : MRv mX5_swap 2 := ⟨⟨gT_mem (tb4 89 rfl) rfl, gT_mem (tb1 6 rfl) rfl, (by decide +kernel), Nat.le_of_ble_eq_true rfl, (by decide +kernel)⟩, gT_mem (tb4 87 rfl) rfl, gT_mem (tb4 88 rfl) rfl⟩
abbrev mX5_turn : Mt := (yX5_turn, cX5_turn, 3, (some .int))
theorem mrX5_turn : MRv mX5_turn 2 := ⟨⟨gT_mem (tb4 97 rfl) rfl, gT_mem (tb1 6 rfl) rfl, (by decide +kernel), Nat.le_of_ble_eq_true rfl, (by decide +kernel)⟩, gT_mem (tb4 95 rfl) rfl, gT_mem (tb4 96 rfl) rfl⟩
abbrev mX5_isUnder : Mt := (yX5_isUnder, cX5_isUnder, 2, (some .boolean))
theorem mrX5_isUnder : MRs mX5_isUnder 2 := ⟨⟨gT_mem (tb4 104 rfl) rfl, gT_mem (tb1 6 rfl) rfl, (by decide +kernel), Nat.le_of_ble_eq_true rfl, (by decide +kernel)⟩, gT_mem (tb4 103 rfl) rfl⟩
abbrev mX5_as : Mt := (yX5_as, cX5_as, 3, (some .int))
theorem mrX5_as : MRv mX5_as 2 := ⟨⟨gT_mem (tb4 101 rfl) rfl, gT_mem (tb1 6 rfl) rfl, (by decide +kernel), Nat.le_of_ble_eq_true rfl, (by decide +kernel)⟩, gT_mem (tb4 99 rfl) rfl, gT_mem (tb4 100 rfl) rfl⟩
abbrev mX5_treads : Mt := (yX5_treads, cX5_treads, 5, none)
theorem mrX5_treads : MRv mX5_treads 1 := ⟨⟨gT_mem (tb4 124 rfl) rfl, gT_mem (tb1 6 rfl) rfl, (by decide +kernel), Nat.le_of_ble_eq_true rfl, (by decide +kernel)⟩, gT_mem (tb4 123 rfl) rfl, gT_sel (List.mem_of_getElem? (i := 67) rfl) rfl⟩
abbrev mX5_step : Mt := (yX5_step, cX5_step, 3, none)
theorem mrX5_step : MRv mX5_step 0 := ⟨⟨gT_mem (tb4 120 rfl) rfl, gT_mem (tb1 6 rfl) rfl, (by decide +kernel), Nat.le_of_ble_eq_true rfl, (by decide +kernel)⟩, gT_mem (tb4 119 rfl) rfl, gT_sel (List.mem_of_getElem? (i := 66) rfl) rfl⟩
abbrev mX5_stepsGo : Mt := (yX5_stepsGo, cX5_stepsGo, 3, none)
theorem mrX5_stepsGo : MRv mX5_stepsGo 1 := ⟨⟨gT_mem (tb4 116 rfl) rfl, gT_mem (tb1 6 rfl) rfl, (by decide +kernel), Nat.le_of_ble_eq_true rfl, (by decide +kernel)⟩, gT_mem (tb4 115 rfl) rfl, gT_sel (List.mem_of_getElem? (i := 65) rfl) rfl⟩
abbrev mX5_steps : Mt := (yX5_steps, cX5_steps, 2, (some .int))
theorem mrX5_steps : MRv mX5_steps 1 := ⟨⟨gT_mem (tb4 109 rfl) rfl, gT_mem (tb1 6 rfl) rfl, (by decide +kernel), Nat.le_of_ble_eq_true rfl, (by decide +kernel)⟩, gT_mem (tb4 107 rfl) rfl, gT_mem (tb4 108 rfl) rfl⟩
abbrev mX5_isAhead : Mt := (yX5_isAhead, cX5_isAhead, 1, (some .boolean))
theorem mrX5_isAhead : MRs mX5_isAhead 1 := ⟨⟨gT_mem (tb4 135 rfl) rfl, gT_mem (tb1 6 rfl) rfl, (by decide +kernel), Nat.le_of_ble_eq_true rfl, (by decide +kernel)⟩, gT_mem (tb4 134 rfl) rfl⟩
abbrev mX5_behind : Mt := (yX5_behind, cX5_behind, 3, (some .int))
theorem mrX5_behind : MRv mX5_behind 2 := ⟨⟨gT_mem (tb4 140 rfl) rfl, gT_mem (tb1 6 rfl) rfl, (by decide +kernel), Nat.le_of_ble_eq_true rfl, (by decide +kernel)⟩, gT_mem (tb4 139 rfl) rfl, gT_sel (List.mem_of_getElem? (i := 69) rfl) rfl⟩
abbrev mX5_on : Mt := (yX5_on, cX5_on, 4, (some .int))
theorem mrX5_on : MRv mX5_on 3 := ⟨⟨gT_mem (tb4 132 rfl) rfl, gT_mem (tb1 6 rfl) rfl, (by decide +kernel), Nat.le_of_ble_eq_true rfl, (by decide +kernel)⟩, gT_mem (tb4 130 rfl) rfl, gT_mem (tb4 131 rfl) rfl⟩
abbrev mX5_falls : Mt := (yX5_falls, cX5_falls, 2, (some .int))
theorem mrX5_falls : MRv mX5_falls 1 := ⟨⟨gT_mem (tb4 152 rfl) rfl, gT_mem (tb1 6 rfl) rfl, (by decide +kernel), Nat.le_of_ble_eq_true rfl, (by decide +kernel)⟩, gT_mem (tb4 150 rfl) rfl, gT_mem (tb4 151 rfl) rfl⟩
abbrev mX5_toldAt : Mt := (yX5_toldAt, cX5_toldAt, 3, (some .int))
theorem mrX5_toldAt : MRv mX5_toldAt 1 := ⟨⟨gT_mem (tb4 160 rfl) rfl, gT_mem (tb1 6 rfl) rfl, (by decide +kernel), Nat.le_of_ble_eq_true rfl, (by decide +kernel)⟩, gT_mem (tb4 159 rfl) rfl, gT_sel (List.mem_of_getElem? (i := 72) rfl) rfl⟩
abbrev mX5_trips : Mt := (yX5_trips, cX5_trips, 3, (some .int))
theorem mrX5_trips : MRv mX5_trips 1 := ⟨⟨gT_mem (tb4 156 rfl) rfl, gT_mem (tb1 6 rfl) rfl, (by decide +kernel), Nat.le_of_ble_eq_true rfl, (by decide +kernel)⟩, gT_mem (tb4 154 rfl) rfl, gT_mem (tb4 155 rfl) rfl⟩
abbrev mX5_hears : Mt := (yX5_hears, cX5_hears, 3, (some .int))
theorem mrX5_hears : MRv mX5_hears 1 := ⟨⟨gT_mem (tb4 165 rfl) rfl, gT_mem (tb1 6 rfl) rfl, (by decide +kernel), Nat.le_of_ble_eq_true rfl, (by decide +kernel)⟩, gT_mem (tb4 163 rfl) rfl, gT_mem (tb4 164 rfl) rfl⟩
abbrev mX5_isSoon : Mt := (yX5_isSoon, cX5_isSoon, 1, (some .boolean))
theorem mrX5_isSoon : MRs mX5_isSoon 1 := ⟨⟨gT_mem (tb4 172 rfl) rfl, gT_mem (tb1 6 rfl) rfl, (by decide +kernel), Nat.le_of_ble_eq_true rfl, (by decide +kernel)⟩, gT_mem (tb4 171 rfl) rfl⟩
abbrev mX5_leastBy : Mt := (yX5_leastBy, cX5_leastBy, 10, (some .int))
theorem mrX5_leastBy : MRv mX5_leastBy 4 := ⟨⟨gT_mem (tb4 177 rfl) rfl, gT_mem (tb1 6 rfl) rfl, (by decide +kernel), Nat.le_of_ble_eq_true rfl, (by decide +kernel)⟩, gT_mem (tb4 176 rfl) rfl, gT_sel (List.mem_of_getElem? (i := 73) rfl) rfl⟩
abbrev mX5_carry : Mt := (yX5_carry, cX5_carry, 2, (some .int))
theorem mrX5_carry : MRv mX5_carry 1 := ⟨⟨gT_mem (tb4 169 rfl) rfl, gT_mem (tb1 6 rfl) rfl, (by decide +kernel), Nat.le_of_ble_eq_true rfl, (by decide +kernel)⟩, gT_mem (tb4 167 rfl) rfl, gT_mem (tb4 168 rfl) rfl⟩
abbrev mX5_order : Mt := (yX5_order, cX5_order, 7, (some .int))
theorem mrX5_order : MRv mX5_order 1 := ⟨⟨gT_mem (tb4 182 rfl) rfl, gT_mem (tb1 6 rfl) rfl, (by decide +kernel), Nat.le_of_ble_eq_true rfl, (by decide +kernel)⟩, gT_mem (tb4 180 rfl) rfl, gT_mem (tb4 181 rfl) rfl⟩
abbrev mX5_kind : Mt := (yX5_kind, cX5_kind, 3, (some .int))
theorem mrX5_kind : MRv mX5_kind 2 := ⟨⟨gT_mem (tb4 186 rfl) rfl, gT_mem (tb1 6 rfl) rfl, (by decide +kernel), Nat.le_of_ble_eq_true rfl, (by decide +kernel)⟩, gT_mem (tb4 184 rfl) rfl, gT_mem (tb4 185 rfl) rfl⟩
abbrev mX5_least : Mt := (yX5_least, cX5_least, 6, (some .int))
theorem mrX5_least : MRv mX5_least 2 := ⟨⟨gT_mem (tb4 190 rfl) rfl, gT_mem (tb1 6 rfl) rfl, (by decide +kernel), Nat.le_of_ble_eq_true rfl, (by decide +kernel)⟩, gT_mem (tb4 188 rfl) rfl, gT_mem (tb4 189 rfl) rfl⟩
abbrev mX5_clear : Mt := (yX5_clear, cX5_clear, 7, (some .int))
theorem mrX5_clear : MRv mX5_clear 1 := ⟨⟨gT_mem (tb4 195 rfl) rfl, gT_mem (tb1 6 rfl) rfl, (by decide +kernel), Nat.le_of_ble_eq_true rfl, (by decide +kernel)⟩, gT_mem (tb4 193 rfl) rfl, gT_mem (tb4 194 rfl) rfl⟩
abbrev mX5_nerve : Mt := (yX5_nerve, cX5_nerve, 8, (some .int))
theorem mrX5_nerve : MRv mX5_nerve 2 := ⟨⟨gT_mem (tb4 200 rfl) rfl, gT_mem (tb1 6 rfl) rfl, (by decide +kernel), Nat.le_of_ble_eq_true rfl, (by decide +kernel)⟩, gT_mem (tb4 198 rfl) rfl, gT_mem (tb4 199 rfl) rfl⟩
abbrev mX5_worst : Mt := (yX5_worst, cX5_worst, 4, (some .int))
theorem mrX5_worst : MRv mX5_worst 1 := ⟨⟨gT_mem (tb4 204 rfl) rfl, gT_mem (tb1 6 rfl) rfl, (by decide +kernel), Nat.le_of_ble_eq_true rfl, (by decide +kernel)⟩, gT_mem (tb4 202 rfl) rfl, gT_mem (tb4 203 rfl) rfl⟩
abbrev mX5_feed : Mt := (yX5_feed, cX5_feed, 4, (some .int))
theorem mrX5_feed : MRv mX5_feed 2 := ⟨⟨gT_mem (tb4 208 rfl) rfl, gT_mem (tb1 6 rfl) rfl, (by decide +kernel), Nat.le_of_ble_eq_true rfl, (by decide +kernel)⟩, gT_mem (tb4 206 rfl) rfl, gT_mem (tb4 207 rfl) rfl⟩
abbrev mX5_wipe : Mt := (yX5_wipe, cX5_wipe, 2, (some .int))
theorem mrX5_wipe : MRv mX5_wipe 0 := ⟨⟨gT_mem (tb4 212 rfl) rfl, gT_mem (tb1 6 rfl) rfl, (by decide +kernel), Nat.le_of_ble_eq_true rfl, (by decide +kernel)⟩, gT_mem (tb4 210 rfl) rfl, gT_mem (tb4 211 rfl) rfl⟩
abbrev mX5_byteAt : Mt := (yX5_byteAt, cX5_byteAt, 2, (some .int))
theorem mrX5_byteAt : MRv mX5_byteAt 1 := ⟨⟨gT_mem (tb4 228 rfl) rfl, gT_mem (tb1 6 rfl) rfl, (by decide +kernel), Nat.le_of_ble_eq_true rfl, (by decide +kernel)⟩, gT_mem (tb4 227 rfl) rfl, gT_sel (List.mem_of_getElem? (i := 76) rfl) rfl⟩
abbrev mX5_isLetter : Mt := (yX5_isLetter, cX5_isLetter, 1, (some .boolean))
theorem mrX5_isLetter : MRs mX5_isLetter 1 := ⟨⟨gT_mem (tb4 231 rfl) rfl, gT_mem (tb1 6 rfl) rfl, (by decide +kernel), Nat.le_of_ble_eq_true rfl, (by decide +kernel)⟩, gT_mem (tb4 230 rfl) rfl⟩
abbrev mX5_isDigit : Mt := (yX5_isDigit, cX5_isDigit, 1, (some .boolean))
theorem mrX5_isDigit : MRs mX5_isDigit 1 := ⟨⟨gT_mem (tb4 236 rfl) rfl, gT_mem (tb1 6 rfl) rfl, (by decide +kernel), Nat.le_of_ble_eq_true rfl, (by decide +kernel)⟩, gT_mem (tb4 235 rfl) rfl⟩
abbrev mX5_token : Mt := (yX5_token, cX5_token, 3, none)
theorem mrX5_token : MRv mX5_token 0 := ⟨⟨gT_mem (tb4 224 rfl) rfl, gT_mem (tb1 6 rfl) rfl, (by decide +kernel), Nat.le_of_ble_eq_true rfl, (by decide +kernel)⟩, gT_mem (tb4 223 rfl) rfl, gT_sel (List.mem_of_getElem? (i := 75) rfl) rfl⟩
abbrev mX5_must : Mt := (yX5_must, cX5_must, 2, none)
theorem mrX5_must : MRv mX5_must 1 := ⟨⟨gT_mem (tb5 26 rfl) rfl, gT_mem (tb1 6 rfl) rfl, (by decide +kernel), Nat.le_of_ble_eq_true rfl, (by decide +kernel)⟩, gT_mem (tb5 25 rfl) rfl, gT_sel (List.mem_of_getElem? (i := 81) rfl) rfl⟩
abbrev mX5_word : Mt := (yX5_word, cX5_word, 4, (some .long))
theorem mrX5_word : MRv mX5_word 0 := ⟨⟨gT_mem (tb5 10 rfl) rfl, gT_mem (tb1 6 rfl) rfl, (by decide +kernel), Nat.le_of_ble_eq_true rfl, (by decide +kernel)⟩, gT_mem (tb5 9 rfl) rfl, gT_sel (List.mem_of_getElem? (i := 79) rfl) rfl⟩
abbrev mX5_number : Mt := (yX5_number, cX5_number, 6, none)
theorem mrX5_number : MRv mX5_number 2 := ⟨⟨gT_mem (tb5 31 rfl) rfl, gT_mem (tb1 6 rfl) rfl, (by decide +kernel), Nat.le_of_ble_eq_true rfl, (by decide +kernel)⟩, gT_mem (tb5 30 rfl) rfl, gT_sel (List.mem_of_getElem? (i := 82) rfl) rfl⟩
abbrev mX5_kindHere : Mt := (yX5_kindHere, cX5_kindHere, 3, (some .int))
theorem mrX5_kindHere : MRv mX5_kindHere 0 := ⟨⟨gT_mem (tb5 6 rfl) rfl, gT_mem (tb1 6 rfl) rfl, (by decide +kernel), Nat.le_of_ble_eq_true rfl, (by decide +kernel)⟩, gT_mem (tb5 5 rfl) rfl, gT_sel (List.mem_of_getElem? (i := 78) rfl) rfl⟩
abbrev mX5_walkerItem : Mt := (yX5_walkerItem, cX5_walkerItem, 3, none)
theorem mrX5_walkerItem : MRv mX5_walkerItem 1 := ⟨⟨gT_mem (tb5 22 rfl) rfl, gT_mem (tb1 6 rfl) rfl, (by decide +kernel), Nat.le_of_ble_eq_true rfl, (by decide +kernel)⟩, gT_mem (tb5 21 rfl) rfl, gT_sel (List.mem_of_getElem? (i := 80) rfl) rfl⟩
abbrev mX5_rootItem : Mt := (yX5_rootItem, cX5_rootItem, 3, none)
theorem mrX5_rootItem : MRv mX5_rootItem 1 := ⟨⟨gT_mem (tb5 37 rfl) rfl, gT_mem (tb1 6 rfl) rfl, (by decide +kernel), Nat.le_of_ble_eq_true rfl, (by decide +kernel)⟩, gT_mem (tb5 36 rfl) rfl, gT_sel (List.mem_of_getElem? (i := 83) rfl) rfl⟩
abbrev mX5_toldItem : Mt := (yX5_toldItem, cX5_toldItem, 3, none)
theorem mrX5_toldItem : MRv mX5_toldItem 2 := ⟨⟨gT_mem (tb5 42 rfl) rfl, gT_mem (tb1 6 rfl) rfl, (by decide +kernel), Nat.le_of_ble_eq_true rfl, (by decide +kernel)⟩, gT_mem (tb5 41 rfl) rfl, gT_sel (List.mem_of_getElem? (i := 84) rfl) rfl⟩
abbrev mX5_numberHere : Mt := (yX5_numberHere, cX5_numberHere, 3, (some .int))
theorem mrX5_numberHere : MRv mX5_numberHere 0 := ⟨⟨gT_mem (tb5 52 rfl) rfl, gT_mem (tb1 6 rfl) rfl, (by decide +kernel), Nat.le_of_ble_eq_true rfl, (by decide +kernel)⟩, gT_mem (tb5 51 rfl) rfl, gT_sel (List.mem_of_getElem? (i := 86) rfl) rfl⟩
abbrev mX5_swapItem : Mt := (yX5_swapItem, cX5_swapItem, 3, none)
theorem mrX5_swapItem : MRv mX5_swapItem 0 := ⟨⟨gT_mem (tb5 48 rfl) rfl, gT_mem (tb1 6 rfl) rfl, (by decide +kernel), Nat.le_of_ble_eq_true rfl, (by decide +kernel)⟩, gT_mem (tb5 47 rfl) rfl, gT_sel (List.mem_of_getElem? (i := 85) rfl) rfl⟩
abbrev mX5_item : Mt := (yX5_item, cX5_item, 4, none)
theorem mrX5_item : MRv mX5_item 0 := ⟨⟨gT_mem (tb5 2 rfl) rfl, gT_mem (tb1 6 rfl) rfl, (by decide +kernel), Nat.le_of_ble_eq_true rfl, (by decide +kernel)⟩, gT_mem (tb5 1 rfl) rfl, gT_sel (List.mem_of_getElem? (i := 77) rfl) rfl⟩
abbrev mX5_night : Mt := (yX5_night, cX5_night, 2, (some .int))
theorem mrX5_night : MRv mX5_night 0 := ⟨⟨gT_mem (tb4 216 rfl) rfl, gT_mem (tb1 6 rfl) rfl, (by decide +kernel), Nat.le_of_ble_eq_true rfl, (by decide +kernel)⟩, gT_mem (tb4 214 rfl) rfl, gT_mem (tb4 215 rfl) rfl⟩
abbrev mX5_isOne : Mt := (yX5_isOne, cX5_isOne, 1, (some .boolean))
theorem mrX5_isOne : MRs mX5_isOne 1 := ⟨⟨gT_mem (tb5 63 rfl) rfl, gT_mem (tb1 6 rfl) rfl, (by decide +kernel), Nat.le_of_ble_eq_true rfl, (by decide +kernel)⟩, gT_mem (tb5 62 rfl) rfl⟩
abbrev mX5_sheet : Mt := (yX5_sheet, cX5_sheet, 5, (some .int))
theorem mrX5_sheet : MRv mX5_sheet 3 := ⟨⟨gT_mem (tb5 60 rfl) rfl, gT_mem (tb1 6 rfl) rfl, (by decide +kernel), Nat.le_of_ble_eq_true rfl, (by decide +kernel)⟩, gT_mem (tb5 58 rfl) rfl, gT_mem (tb5 59 rfl) rfl⟩
abbrev mX5_narrowed : Mt := (yX5_narrowed, cX5_narrowed, 3, (some .long))
theorem mrX5_narrowed : MRs mX5_narrowed 2 := ⟨⟨gT_mem (tb5 77 rfl) rfl, gT_mem (tb1 6 rfl) rfl, (by decide +kernel), Nat.le_of_ble_eq_true rfl, (by decide +kernel)⟩, gT_mem (tb5 76 rfl) rfl⟩
abbrev mX5_wrongSheet : Mt := (yX5_wrongSheet, cX5_wrongSheet, 2, (some .int))
theorem mrX5_wrongSheet : MRv mX5_wrongSheet 1 := ⟨⟨gT_mem (tb5 73 rfl) rfl, gT_mem (tb1 6 rfl) rfl, (by decide +kernel), Nat.le_of_ble_eq_true rfl, (by decide +kernel)⟩, gT_mem (tb5 72 rfl) rfl, gT_sel (List.mem_of_getElem? (i := 88) rfl) rfl⟩
abbrev mX5_write : Mt := (yX5_write, cX5_write, 8, (some .long))
theorem mrX5_write : MRv mX5_write 3 := ⟨⟨gT_mem (tb5 69 rfl) rfl, gT_mem (tb1 6 rfl) rfl, (by decide +kernel), Nat.le_of_ble_eq_true rfl, (by decide +kernel)⟩, gT_mem (tb5 67 rfl) rfl, gT_mem (tb5 68 rfl) rfl⟩
abbrev mX5_copy : Mt := (yX5_copy, cX5_copy, 7, (some .int))
theorem mrX5_copy : MRv mX5_copy 5 := ⟨⟨gT_mem (tb5 81 rfl) rfl, gT_mem (tb1 6 rfl) rfl, (by decide +kernel), Nat.le_of_ble_eq_true rfl, (by decide +kernel)⟩, gT_mem (tb5 79 rfl) rfl, gT_mem (tb5 80 rfl) rfl⟩
abbrev mX5_lays : Mt := (yX5_lays, cX5_lays, 6, (some .int))
theorem mrX5_lays : MRv mX5_lays 1 := ⟨⟨gT_mem (tb5 85 rfl) rfl, gT_mem (tb1 6 rfl) rfl, (by decide +kernel), Nat.le_of_ble_eq_true rfl, (by decide +kernel)⟩, gT_mem (tb5 83 rfl) rfl, gT_mem (tb5 84 rfl) rfl⟩
abbrev mX5_book : Mt := (yX5_book, cX5_book, 5, (some .int))
theorem mrX5_book : MRv mX5_book 2 := ⟨⟨gT_mem (tb5 89 rfl) rfl, gT_mem (tb1 6 rfl) rfl, (by decide +kernel), Nat.le_of_ble_eq_true rfl, (by decide +kernel)⟩, gT_mem (tb5 87 rfl) rfl, gT_mem (tb5 88 rfl) rfl⟩
abbrev mX5_isBook : Mt := (yX5_isBook, cX5_isBook, 4, (some .boolean))
theorem mrX5_isBook : MRv mX5_isBook 2 := ⟨⟨gT_mem (tb5 97 rfl) rfl, gT_mem (tb1 6 rfl) rfl, (by decide +kernel), Nat.le_of_ble_eq_true rfl, (by decide +kernel)⟩, gT_mem (tb5 96 rfl) rfl, gT_sel (List.mem_of_getElem? (i := 89) rfl) rfl⟩
abbrev mX5_read : Mt := (yX5_read, cX5_read, 6, (some .int))
theorem mrX5_read : MRv mX5_read 2 := ⟨⟨gT_mem (tb5 93 rfl) rfl, gT_mem (tb1 6 rfl) rfl, (by decide +kernel), Nat.le_of_ble_eq_true rfl, (by decide +kernel)⟩, gT_mem (tb5 91 rfl) rfl, gT_mem (tb5 92 rfl) rfl⟩
abbrev mX5_image : Mt := (yX5_image, cX5_image, 2, (some .int))
theorem mrX5_image : MRv mX5_image 0 := ⟨⟨gT_mem (tb5 101 rfl) rfl, gT_mem (tb1 6 rfl) rfl, (by decide +kernel), Nat.le_of_ble_eq_true rfl, (by decide +kernel)⟩, gT_mem (tb5 99 rfl) rfl, gT_mem (tb5 100 rfl) rfl⟩
abbrev mX5_undo : Mt := (yX5_undo, cX5_undo, 2, (some .int))
theorem mrX5_undo : MRv mX5_undo 0 := ⟨⟨gT_mem (tb5 105 rfl) rfl, gT_mem (tb1 6 rfl) rfl, (by decide +kernel), Nat.le_of_ble_eq_true rfl, (by decide +kernel)⟩, gT_mem (tb5 103 rfl) rfl, gT_mem (tb5 104 rfl) rfl⟩
abbrev mX5_tear : Mt := (yX5_tear, cX5_tear, 2, (some .int))
theorem mrX5_tear : MRv mX5_tear 0 := ⟨⟨gT_mem (tb5 109 rfl) rfl, gT_mem (tb1 6 rfl) rfl, (by decide +kernel), Nat.le_of_ble_eq_true rfl, (by decide +kernel)⟩, gT_mem (tb5 107 rfl) rfl, gT_mem (tb5 108 rfl) rfl⟩
abbrev mX5_rootsMany : Mt := (yX5_rootsMany, cX5_rootsMany, 3, (some .int))
theorem mrX5_rootsMany : MRv mX5_rootsMany 0 := ⟨⟨gT_mem (tb5 117 rfl) rfl, gT_mem (tb1 6 rfl) rfl, (by decide +kernel), Nat.le_of_ble_eq_true rfl, (by decide +kernel)⟩, gT_mem (tb5 116 rfl) rfl, gT_sel (List.mem_of_getElem? (i := 90) rfl) rfl⟩
abbrev mX5_count : Mt := (yX5_count, cX5_count, 2, (some .int))
theorem mrX5_count : MRv mX5_count 1 := ⟨⟨gT_mem (tb5 113 rfl) rfl, gT_mem (tb1 6 rfl) rfl, (by decide +kernel), Nat.le_of_ble_eq_true rfl, (by decide +kernel)⟩, gT_mem (tb5 111 rfl) rfl, gT_mem (tb5 112 rfl) rfl⟩
abbrev mX5_status : Mt := (yX5_status, cX5_status, 4, (some .int))
theorem mrX5_status : MRv mX5_status 1 := ⟨⟨gT_mem (tb5 121 rfl) rfl, gT_mem (tb1 6 rfl) rfl, (by decide +kernel), Nat.le_of_ble_eq_true rfl, (by decide +kernel)⟩, gT_mem (tb5 119 rfl) rfl, gT_mem (tb5 120 rfl) rfl⟩
abbrev mJ6_bitCount_0f7a4 : Mt := (yJ6_bitCount_0f7a4, cJ6_bitCount_0f7a4, 1, (some .int))
theorem mrJ6_bitCount_0f7a4 : MRs mJ6_bitCount_0f7a4 1 := ⟨⟨gT_mem (tb3 146 rfl) rfl, gT_mem (tb1 13 rfl) rfl, (by decide +kernel), Nat.le_of_ble_eq_true rfl, (by decide +kernel)⟩, gT_mem (tb3 145 rfl) rfl⟩
abbrev mJ9_floorMod_7cf53 : Mt := (yJ9_floorMod_7cf53, cJ9_floorMod_7cf53, 3, (some .int))
theorem mrJ9_floorMod_7cf53 : MRs mJ9_floorMod_7cf53 2 := ⟨⟨gT_mem (tb1 204 rfl) rfl, gT_mem (tb1 7 rfl) rfl, (by decide +kernel), Nat.le_of_ble_eq_true rfl, (by decide +kernel)⟩, gT_mem (tb1 203 rfl) rfl⟩
abbrev mJ9_abs_0f7a4 : Mt := (yJ9_abs_0f7a4, cJ9_abs_0f7a4, 1, (some .int))
theorem mrJ9_abs_0f7a4 : MRs mJ9_abs_0f7a4 1 := ⟨⟨gT_mem (tb2 10 rfl) rfl, gT_mem (tb1 7 rfl) rfl, (by decide +kernel), Nat.le_of_ble_eq_true rfl, (by decide +kernel)⟩, gT_mem (tb2 9 rfl) rfl⟩
abbrev mJ9_max_7cf53 : Mt := (yJ9_max_7cf53, cJ9_max_7cf53, 2, (some .int))
theorem mrJ9_max_7cf53 : MRs mJ9_max_7cf53 2 := ⟨⟨gT_mem (tb2 79 rfl) rfl, gT_mem (tb1 7 rfl) rfl, (by decide +kernel), Nat.le_of_ble_eq_true rfl, (by decide +kernel)⟩, gT_mem (tb2 78 rfl) rfl⟩
abbrev mJ9_min_7cf53 : Mt := (yJ9_min_7cf53, cJ9_min_7cf53, 2, (some .int))
theorem mrJ9_min_7cf53 : MRs mJ9_min_7cf53 2 := ⟨⟨gT_mem (tb2 76 rfl) rfl, gT_mem (tb1 7 rfl) rfl, (by decide +kernel), Nat.le_of_ble_eq_true rfl, (by decide +kernel)⟩, gT_mem (tb2 75 rfl) rfl⟩
abbrev mJ0_length_8abf5 : Mt := (yJ0_length_8abf5, cJ0_length_8abf5, 1, (some .int))
theorem mrJ0_length_8abf5 : MRv mJ0_length_8abf5 0 := ⟨⟨gT_mem (tb2 225 rfl) rfl, gT_mem (tb1 8 rfl) rfl, (by decide +kernel), Nat.le_of_ble_eq_true rfl, (by decide +kernel)⟩, gT_mem (tb2 223 rfl) rfl, gT_mem (tb2 224 rfl) rfl⟩
abbrev mJ0_charAt_5068e : Mt := (yJ0_charAt_5068e, cJ0_charAt_5068e, 2, (some .char))
theorem mrJ0_charAt_5068e : MRv mJ0_charAt_5068e 1 := ⟨⟨gT_mem (tb2 235 rfl) rfl, gT_mem (tb1 8 rfl) rfl, (by decide +kernel), Nat.le_of_ble_eq_true rfl, (by decide +kernel)⟩, gT_mem (tb2 233 rfl) rfl, gT_mem (tb2 234 rfl) rfl⟩
abbrev mJ0_coder_7d493 : Mt := (yJ0_coder_7d493, cJ0_coder_7d493, 1, (some .byte))
theorem mrJ0_coder_7d493 : MRv mJ0_coder_7d493 0 := ⟨⟨gT_mem (tb2 229 rfl) rfl, gT_mem (tb1 8 rfl) rfl, (by decide +kernel), Nat.le_of_ble_eq_true rfl, (by decide +kernel)⟩, gT_mem (tb2 227 rfl) rfl, gT_mem (tb2 228 rfl) rfl⟩
abbrev mJ0_isLatin1_aae02 : Mt := (yJ0_isLatin1_aae02, cJ0_isLatin1_aae02, 1, (some .boolean))
theorem mrJ0_isLatin1_aae02 : MRv mJ0_isLatin1_aae02 0 := ⟨⟨gT_mem (tb2 239 rfl) rfl, gT_mem (tb1 8 rfl) rfl, (by decide +kernel), Nat.le_of_ble_eq_true rfl, (by decide +kernel)⟩, gT_mem (tb2 237 rfl) rfl, gT_mem (tb2 238 rfl) rfl⟩
abbrev mJ0_checkIndex_df160 : Mt := (yJ0_checkIndex_df160, cJ0_checkIndex_df160, 2, none)
theorem mrJ0_checkIndex_df160 : MRs mJ0_checkIndex_df160 2 := ⟨⟨gT_mem (tb3 5 rfl) rfl, gT_mem (tb1 8 rfl) rfl, (by decide +kernel), Nat.le_of_ble_eq_true rfl, (by decide +kernel)⟩, gT_mem (tb3 4 rfl) rfl⟩
abbrev mJ1_charAt_3b067 : Mt := (yJ1_charAt_3b067, cJ1_charAt_3b067, 2, (some .char))
theorem mrJ1_charAt_3b067 : MRs mJ1_charAt_3b067 2 := ⟨⟨gT_mem (tb3 2 rfl) rfl, gT_mem (tb1 9 rfl) rfl, (by decide +kernel), Nat.le_of_ble_eq_true rfl, (by decide +kernel)⟩, gT_mem (tb3 1 rfl) rfl⟩
abbrev mJ2_getChar_3b067 : Mt := (yJ2_getChar_3b067, cJ2_getChar_3b067, 2, (some .char))
theorem mrJ2_getChar_3b067 : MRs mJ2_getChar_3b067 2 := ⟨⟨gT_mem (tb3 23 rfl) rfl, gT_mem (tb1 11 rfl) rfl, (by decide +kernel), Nat.le_of_ble_eq_true rfl, (by decide +kernel)⟩, gT_mem (tb3 22 rfl) rfl⟩
abbrev mJ2_length_9d52b : Mt := (yJ2_length_9d52b, cJ2_length_9d52b, 1, (some .int))
theorem mrJ2_length_9d52b : MRs mJ2_length_9d52b 1 := ⟨⟨gT_mem (tb3 19 rfl) rfl, gT_mem (tb1 11 rfl) rfl, (by decide +kernel), Nat.le_of_ble_eq_true rfl, (by decide +kernel)⟩, gT_mem (tb3 18 rfl) rfl⟩
abbrev mJ2_charAt_3b067 : Mt := (yJ2_charAt_3b067, cJ2_charAt_3b067, 2, (some .char))
theorem mrJ2_charAt_3b067 : MRs mJ2_charAt_3b067 2 := ⟨⟨gT_mem (tb3 13 rfl) rfl, gT_mem (tb1 11 rfl) rfl, (by decide +kernel), Nat.le_of_ble_eq_true rfl, (by decide +kernel)⟩, gT_mem (tb3 12 rfl) rfl⟩
abbrev mJ2_checkIndex_2214a : Mt := (yJ2_checkIndex_2214a, cJ2_checkIndex_2214a, 2, none)
theorem mrJ2_checkIndex_2214a : MRs mJ2_checkIndex_2214a 2 := ⟨⟨gT_mem (tb3 16 rfl) rfl, gT_mem (tb1 11 rfl) rfl, (by decide +kernel), Nat.le_of_ble_eq_true rfl, (by decide +kernel)⟩, gT_mem (tb3 15 rfl) rfl⟩
abbrev mJ3_checkIndex_8e157 : Mt := (yJ3_checkIndex_8e157, cJ3_checkIndex_8e157, 3, (some .int))
theorem mrJ3_checkIndex_8e157 : MRs mJ3_checkIndex_8e157 3 := ⟨⟨gT_mem (tb3 10 rfl) rfl, gT_mem (tb1 10 rfl) rfl, (by decide +kernel), Nat.le_of_ble_eq_true rfl, (by decide +kernel)⟩, gT_mem (tb3 9 rfl) rfl⟩
abbrev mL_law : Mt := (yL_law, cL_law, 4, (some .boolean))
theorem lkX0_11 : LKm RX0 11 yX3_init := Or.inr ⟨"OneLantern", nT_mem (tb1 83 rfl) rfl⟩
theorem pfX0_18 : POK RX0 18 0 3 .int := ⟨RX0, TX0, 5, tyX0, rfl, Nat.le_of_ble_eq_true rfl, inGX0, Or.inl (gT_mem (tb1 101 rfl) rfl), rfl, (by decide +kernel), tyX0_ok, nmX0⟩
theorem lkX0_22 : LKm RX0 22 yX0_next := Or.inl (gT_mem (tb2 175 rfl) rfl)
theorem lkX0_25 : LKm RX0 25 yX0_item := Or.inl (gT_mem (tb3 30 rfl) rfl)
theorem gfX0_29 : GOK RX0 29 0 2 := ⟨RX0, TX0, 5, rfl, Nat.le_of_ble_eq_true rfl, inGX0, Or.inl (gT_mem (tb1 100 rfl) rfl)⟩
theorem gfX0_32 : GOK RX0 32 0 1 := ⟨RX0, TX0, 5, rfl, Nat.le_of_ble_eq_true rfl, inGX0, Or.inl (gT_mem (tb1 99 rfl) rfl)⟩
theorem lkX0_35 : LKm RX0 35 yX4_isKind := Or.inr ⟨"OneLantern", nT_mem (tb3 34 rfl) rfl⟩
theorem lkX0_39 : LKm RX0 39 yX0_kindItem := Or.inl (gT_mem (tb3 35 rfl) rfl)
theorem lkX0_42 : LKm RX0 42 yX0_rootItem := Or.inl (gT_mem (tb3 45 rfl) rfl)
theorem lkX0_46 : LKm RX0 46 yX0_lanternItem := Or.inl (gT_mem (tb3 50 rfl) rfl)
theorem lkX0_49 : LKm RX0 49 yX0_brightItem := Or.inl (gT_mem (tb3 54 rfl) rfl)
theorem lkX0_52 : LKm RX0 52 yX0_swapItem := Or.inl (gT_mem (tb3 58 rfl) rfl)
theorem lkX0_55 : LKm RX0 55 yX1_isFull := Or.inr ⟨"OneLantern", nT_mem (tb3 39 rfl) rfl⟩
theorem lkX0_61 : LKm RX0 61 yX1_add := Or.inr ⟨"OneLantern", nT_mem (tb3 40 rfl) rfl⟩
theorem lkX0_65 : LKm RX0 65 yX0_nextIsNumber := Or.inl (gT_mem (tb3 41 rfl) rfl)
theorem gfX0_68 : GOK RX0 68 1 8 := ⟨RX1, TX1, 10, rfl, Nat.le_of_ble_eq_true rfl, inGX1, Or.inr ⟨"OneLantern", nT_mem (tb1 49 rfl) rfl⟩⟩
theorem gfX0_72 : GOK RX0 72 1 4 := ⟨RX1, TX1, 10, rfl, Nat.le_of_ble_eq_true rfl, inGX1, Or.inr ⟨"OneLantern", nT_mem (tb1 40 rfl) rfl⟩⟩
theorem gfX0_75 : GOK RX0 75 0 4 := ⟨RX0, TX0, 5, rfl, Nat.le_of_ble_eq_true rfl, inGX0, Or.inl (gT_mem (tb1 102 rfl) rfl)⟩
theorem lkX0_78 : LKm RX0 78 yX1_setRoot := Or.inr ⟨"OneLantern", nT_mem (tb3 49 rfl) rfl⟩
theorem pfX0_82 : POK RX0 82 1 2 .int := ⟨RX1, TX1, 10, tyX1, rfl, Nat.le_of_ble_eq_true rfl, inGX1, Or.inr ⟨"OneLantern", nT_mem (tb1 35 rfl) rfl⟩, rfl, (by decide +kernel), tyX1_ok, nmX1⟩
theorem pfX0_85 : POK RX0 85 1 3 .int := ⟨RX1, TX1, 10, tyX1, rfl, Nat.le_of_ble_eq_true rfl, inGX1, Or.inr ⟨"OneLantern", nT_mem (tb1 38 rfl) rfl⟩, rfl, (by decide +kernel), tyX1_ok, nmX1⟩
theorem lkX0_88 : LKm RX0 88 yX1_exchange := Or.inr ⟨"OneLantern", nT_mem (tb3 62 rfl) rfl⟩
theorem lkX0_92 : LKm RX0 92 yX0_behindBlanks := Or.inl (gT_mem (tb2 179 rfl) rfl)
theorem pfX0_29 : POK RX0 29 0 2 .int := ⟨RX0, TX0, 5, tyX0, rfl, Nat.le_of_ble_eq_true rfl, inGX0, Or.inl (gT_mem (tb1 100 rfl) rfl), rfl, (by decide +kernel), tyX0_ok, nmX0⟩
theorem gfX0_12 : GOK RX0 12 0 0 := ⟨RX0, TX0, 5, rfl, Nat.le_of_ble_eq_true rfl, inGX0, Or.inl (gT_mem (tb1 97 rfl) rfl)⟩
theorem lkX0_96 : LKm RX0 96 yX3_at := Or.inr ⟨"OneLantern", nT_mem (tb2 183 rfl) rfl⟩
theorem lkX0_100 : LKm RX0 100 yX0_isDigit := Or.inl (gT_mem (tb2 188 rfl) rfl)
theorem lkX0_103 : LKm RX0 103 yX0_takeNumber := Or.inl (gT_mem (tb2 191 rfl) rfl)
theorem gfX0_106 : GOK RX0 106 3 1 := ⟨RX3, TX3, 2, rfl, Nat.le_of_ble_eq_true rfl, inGX3, Or.inr ⟨"OneLantern", nT_mem (tb1 89 rfl) rfl⟩⟩
theorem pfX0_32 : POK RX0 32 0 1 .int := ⟨RX0, TX0, 5, tyX0, rfl, Nat.le_of_ble_eq_true rfl, inGX0, Or.inl (gT_mem (tb1 99 rfl) rfl), rfl, (by decide +kernel), tyX0_ok, nmX0⟩
theorem lkX0_109 : LKm RX0 109 yX0_isLetter := Or.inl (gT_mem (tb2 195 rfl) rfl)
theorem lkX0_112 : LKm RX0 112 yX0_takeWord := Or.inl (gT_mem (tb2 198 rfl) rfl)
theorem gfX0_18 : GOK RX0 18 0 3 := ⟨RX0, TX0, 5, rfl, Nat.le_of_ble_eq_true rfl, inGX0, Or.inl (gT_mem (tb1 101 rfl) rfl)⟩
theorem lkX0_115 : LKm RX0 115 yJ9_min_7cf53 := Or.inl (gT_mem (tb2 187 rfl) rfl)
theorem pfX0_75 : POK RX0 75 0 4 .int := ⟨RX0, TX0, 5, tyX0, rfl, Nat.le_of_ble_eq_true rfl, inGX0, Or.inl (gT_mem (tb1 102 rfl) rfl), rfl, (by decide +kernel), tyX0_ok, nmX0⟩
theorem lkX0_121 : LKm RX0 121 yX0_textOf := Or.inl (gT_mem (tb2 202 rfl) rfl)
theorem lkX0_125 : LKm RX0 125 yX0_isWord := Or.inl (gT_mem (tb2 218 rfl) rfl)
theorem lkX0_129 : LKm RX0 129 yJ0_length_8abf5 := Or.inl (gT_mem (tb2 222 rfl) rfl)
theorem lkX0_133 : LKm RX0 133 yJ0_charAt_5068e := Or.inl (gT_mem (tb2 232 rfl) rfl)
theorem kX1_9 : Cond.constant RX1 9 (16909320) ∈ gT := gT_mem (tb1 28 rfl) rfl
theorem pfX1_10 : POK RX1 10 1 1 .int := ⟨RX1, TX1, 10, tyX1, rfl, Nat.le_of_ble_eq_true rfl, inGX1, Or.inl (gT_mem (tb1 31 rfl) rfl), rfl, (by decide +kernel), tyX1_ok, nmX1⟩
theorem pfX1_16 : POK RX1 16 1 3 .int := ⟨RX1, TX1, 10, tyX1, rfl, Nat.le_of_ble_eq_true rfl, inGX1, Or.inl (gT_mem (tb1 36 rfl) rfl), rfl, (by decide +kernel), tyX1_ok, nmX1⟩
theorem gfX1_32 : GOK RX1 32 1 0 := ⟨RX1, TX1, 10, rfl, Nat.le_of_ble_eq_true rfl, inGX1, Or.inl (gT_mem (tb1 29 rfl) rfl)⟩
theorem pfX1_32 : POK RX1 32 1 0 .int := ⟨RX1, TX1, 10, tyX1, rfl, Nat.le_of_ble_eq_true rfl, inGX1, Or.inl (gT_mem (tb1 29 rfl) rfl), rfl, (by decide +kernel), tyX1_ok, nmX1⟩
theorem gfX1_10 : GOK RX1 10 1 1 := ⟨RX1, TX1, 10, rfl, Nat.le_of_ble_eq_true rfl, inGX1, Or.inl (gT_mem (tb1 31 rfl) rfl)⟩
theorem gfX1_35 : GOK RX1 35 1 2 := ⟨RX1, TX1, 10, rfl, Nat.le_of_ble_eq_true rfl, inGX1, Or.inl (gT_mem (tb1 33 rfl) rfl)⟩
theorem pfX1_35 : POK RX1 35 1 2 .int := ⟨RX1, TX1, 10, tyX1, rfl, Nat.le_of_ble_eq_true rfl, inGX1, Or.inl (gT_mem (tb1 33 rfl) rfl), rfl, (by decide +kernel), tyX1_ok, nmX1⟩
theorem gfX1_16 : GOK RX1 16 1 3 := ⟨RX1, TX1, 10, rfl, Nat.le_of_ble_eq_true rfl, inGX1, Or.inl (gT_mem (tb1 36 rfl) rfl)⟩
theorem gfX1_38 : GOK RX1 38 1 4 := ⟨RX1, TX1, 10, rfl, Nat.le_of_ble_eq_true rfl, inGX1, Or.inl (gT_mem (tb1 39 rfl) rfl)⟩
theorem pfX1_38 : POK RX1 38 1 4 .int := ⟨RX1, TX1, 10, tyX1, rfl, Nat.le_of_ble_eq_true rfl, inGX1, Or.inl (gT_mem (tb1 39 rfl) rfl), rfl, (by decide +kernel), tyX1_ok, nmX1⟩
theorem gfX1_19 : GOK RX1 19 1 5 := ⟨RX1, TX1, 10, rfl, Nat.le_of_ble_eq_true rfl, inGX1, Or.inl (gT_mem (tb1 42 rfl) rfl)⟩
theorem gfX1_23 : GOK RX1 23 1 6 := ⟨RX1, TX1, 10, rfl, Nat.le_of_ble_eq_true rfl, inGX1, Or.inl (gT_mem (tb1 44 rfl) rfl)⟩
theorem gfX1_26 : GOK RX1 26 1 7 := ⟨RX1, TX1, 10, rfl, Nat.le_of_ble_eq_true rfl, inGX1, Or.inl (gT_mem (tb1 46 rfl) rfl)⟩
theorem gfX1_29 : GOK RX1 29 1 8 := ⟨RX1, TX1, 10, rfl, Nat.le_of_ble_eq_true rfl, inGX1, Or.inl (gT_mem (tb1 48 rfl) rfl)⟩
theorem lkX1_41 : LKm RX1 41 yX1_isFull := Or.inl (gT_mem (tb1 232 rfl) rfl)
theorem lkX1_45 : LKm RX1 45 yX1_has := Or.inl (gT_mem (tb1 190 rfl) rfl)
theorem lkX1_49 : LKm RX1 49 yX1_exchangeIn := Or.inl (gT_mem (tb2 32 rfl) rfl)
theorem lkX1_53 : LKm RX1 53 yJ9_floorMod_7cf53 := Or.inl (gT_mem (tb1 202 rfl) rfl)
theorem lkX1_59 : LKm RX1 59 yX4_shadeOf := Or.inr ⟨"OneLantern", nT_mem (tb1 191 rfl) rfl⟩
theorem lkX1_63 : LKm RX1 63 yX1_paceOf := Or.inl (gT_mem (tb1 198 rfl) rfl)
theorem lkX1_66 : LKm RX1 66 yX4_isIn := Or.inr ⟨"OneLantern", nT_mem (tb1 205 rfl) rfl⟩
theorem lkX1_70 : LKm RX1 70 yX1_litSet := Or.inl (gT_mem (tb2 3 rfl) rfl)
theorem lkX1_74 : LKm RX1 74 yX1_sees := Or.inl (gT_mem (tb2 4 rfl) rfl)
theorem lkX1_78 : LKm RX1 78 yJ9_abs_0f7a4 := Or.inl (gT_mem (tb2 8 rfl) rfl)
theorem gfX1_81 : GOK RX1 81 1 9 := ⟨RX1, TX1, 10, rfl, Nat.le_of_ble_eq_true rfl, inGX1, Or.inl (gT_mem (tb1 52 rfl) rfl)⟩
theorem lkX1_84 : LKm RX1 84 yX1_heeds := Or.inl (gT_mem (tb2 73 rfl) rfl)
theorem lkX1_87 : LKm RX1 87 yX1_goStep := Or.inl (gT_mem (tb2 59 rfl) rfl)
theorem lkX1_90 : LKm RX1 90 yX1_atRootSet := Or.inl (gT_mem (tb2 63 rfl) rfl)
theorem lkX1_93 : LKm RX1 93 yX1_seeingSet := Or.inl (gT_mem (tb2 64 rfl) rfl)
theorem lkX1_96 : LKm RX1 96 yX1_walk := Or.inl (gT_mem (tb2 65 rfl) rfl)
theorem lkX1_100 : LKm RX1 100 yX1_sayOn := Or.inl (gT_mem (tb2 80 rfl) rfl)
theorem pfX1_81 : POK RX1 81 1 9 .int := ⟨RX1, TX1, 10, tyX1, rfl, Nat.le_of_ble_eq_true rfl, inGX1, Or.inl (gT_mem (tb1 52 rfl) rfl), rfl, (by decide +kernel), tyX1_ok, nmX1⟩
theorem lkX1_103 : LKm RX1 103 yX1_isWarned := Or.inl (gT_mem (tb2 69 rfl) rfl)
theorem lkX1_106 : LKm RX1 106 yJ9_min_7cf53 := Or.inl (gT_mem (tb2 74 rfl) rfl)
theorem lkX1_109 : LKm RX1 109 yJ9_max_7cf53 := Or.inl (gT_mem (tb2 77 rfl) rfl)
theorem lkX1_112 : LKm RX1 112 yX1_says := Or.inl (gT_mem (tb2 84 rfl) rfl)
theorem gfX2_15 : GOK RX2 15 2 0 := ⟨RX2, TX2, 3, rfl, Nat.le_of_ble_eq_true rfl, inGX2, Or.inl (gT_mem (tb1 121 rfl) rfl)⟩
theorem pfX2_15 : POK RX2 15 2 0 .int := ⟨RX2, TX2, 3, tyX2, rfl, Nat.le_of_ble_eq_true rfl, inGX2, Or.inl (gT_mem (tb1 121 rfl) rfl), rfl, (by decide +kernel), tyX2_ok, nmX2⟩
theorem pfX2_19 : POK RX2 19 2 1 .int := ⟨RX2, TX2, 3, tyX2, rfl, Nat.le_of_ble_eq_true rfl, inGX2, Or.inl (gT_mem (tb1 123 rfl) rfl), rfl, (by decide +kernel), tyX2_ok, nmX2⟩
theorem gfX2_9 : GOK RX2 9 2 2 := ⟨RX2, TX2, 3, rfl, Nat.le_of_ble_eq_true rfl, inGX2, Or.inl (gT_mem (tb1 125 rfl) rfl)⟩
theorem gfX2_19 : GOK RX2 19 2 1 := ⟨RX2, TX2, 3, rfl, Nat.le_of_ble_eq_true rfl, inGX2, Or.inl (gT_mem (tb1 123 rfl) rfl)⟩
theorem lkX2_22 : LKm RX2 22 yX2_cut := Or.inl (gT_mem (tb3 91 rfl) rfl)
theorem gfX3_15 : GOK RX3 15 3 1 := ⟨RX3, TX3, 2, rfl, Nat.le_of_ble_eq_true rfl, inGX3, Or.inl (gT_mem (tb1 88 rfl) rfl)⟩
theorem gfX3_9 : GOK RX3 9 3 0 := ⟨RX3, TX3, 2, rfl, Nat.le_of_ble_eq_true rfl, inGX3, Or.inl (gT_mem (tb1 87 rfl) rfl)⟩
theorem pfX3_15 : POK RX3 15 3 1 .int := ⟨RX3, TX3, 2, tyX3, rfl, Nat.le_of_ble_eq_true rfl, inGX3, Or.inl (gT_mem (tb1 88 rfl) rfl), rfl, (by decide +kernel), tyX3_ok, nmX3⟩
theorem lkX4_11 : LKm RX4 11 yX1_init := Or.inr ⟨"OneLantern", nT_mem (tb1 24 rfl) rfl⟩
theorem lkX4_24 : LKm RX4 24 yX0_init := Or.inr ⟨"OneLantern", nT_mem (tb1 77 rfl) rfl⟩
theorem gfX4_31 : GOK RX4 31 4 5 := ⟨RX4, TX4, 7, rfl, Nat.le_of_ble_eq_true rfl, inGX4, Or.inl (gT_mem (tb1 140 rfl) rfl)⟩
theorem lkX4_39 : LKm RX4 39 yX2_init := Or.inr ⟨"OneLantern", nT_mem (tb1 117 rfl) rfl⟩
theorem kX4_40 : Cond.constant RX4 40 (1073741823) ∈ gT := gT_mem (tb1 161 rfl) rfl
theorem lkX4_41 : LKm RX4 41 yX4_within := Or.inl (gT_mem (tb1 162 rfl) rfl)
theorem kX4_45 : Cond.constant RX4 45 (-1000000001) ∈ gT := gT_mem (tb1 165 rfl) rfl
theorem lkX4_46 : LKm RX4 46 yX4_tell := Or.inl (gT_mem (tb1 166 rfl) rfl)
theorem gfX4_12 : GOK RX4 12 4 0 := ⟨RX4, TX4, 7, rfl, Nat.le_of_ble_eq_true rfl, inGX4, Or.inl (gT_mem (tb1 135 rfl) rfl)⟩
theorem gfX4_50 : GOK RX4 50 1 1 := ⟨RX1, TX1, 10, rfl, Nat.le_of_ble_eq_true rfl, inGX1, Or.inr ⟨"OneLantern", nT_mem (tb1 32 rfl) rfl⟩⟩
theorem pfX4_50 : POK RX4 50 1 1 .int := ⟨RX1, TX1, 10, tyX1, rfl, Nat.le_of_ble_eq_true rfl, inGX1, Or.inr ⟨"OneLantern", nT_mem (tb1 32 rfl) rfl⟩, rfl, (by decide +kernel), tyX1_ok, nmX1⟩
theorem lkX4_54 : LKm RX4 54 yX1_has := Or.inr ⟨"OneLantern", nT_mem (tb1 174 rfl) rfl⟩
theorem gfX4_58 : GOK RX4 58 1 2 := ⟨RX1, TX1, 10, rfl, Nat.le_of_ble_eq_true rfl, inGX1, Or.inr ⟨"OneLantern", nT_mem (tb1 34 rfl) rfl⟩⟩
theorem pfX4_58 : POK RX4 58 1 2 .int := ⟨RX1, TX1, 10, tyX1, rfl, Nat.le_of_ble_eq_true rfl, inGX1, Or.inr ⟨"OneLantern", nT_mem (tb1 34 rfl) rfl⟩, rfl, (by decide +kernel), tyX1_ok, nmX1⟩
theorem gfX4_61 : GOK RX4 61 1 3 := ⟨RX1, TX1, 10, rfl, Nat.le_of_ble_eq_true rfl, inGX1, Or.inr ⟨"OneLantern", nT_mem (tb1 37 rfl) rfl⟩⟩
theorem pfX4_61 : POK RX4 61 1 3 .int := ⟨RX1, TX1, 10, tyX1, rfl, Nat.le_of_ble_eq_true rfl, inGX1, Or.inr ⟨"OneLantern", nT_mem (tb1 37 rfl) rfl⟩, rfl, (by decide +kernel), tyX1_ok, nmX1⟩
theorem gfX4_64 : GOK RX4 64 1 0 := ⟨RX1, TX1, 10, rfl, Nat.le_of_ble_eq_true rfl, inGX1, Or.inr ⟨"OneLantern", nT_mem (tb1 30 rfl) rfl⟩⟩
theorem lkX4_67 : LKm RX4 67 yX1_litSet := Or.inr ⟨"OneLantern", nT_mem (tb1 186 rfl) rfl⟩
theorem lkX4_71 : LKm RX4 71 yX1_atRootSet := Or.inr ⟨"OneLantern", nT_mem (tb1 194 rfl) rfl⟩
theorem lkX4_74 : LKm RX4 74 yX1_heardSet := Or.inr ⟨"OneLantern", nT_mem (tb1 208 rfl) rfl⟩
theorem lkX4_77 : LKm RX4 77 yX1_allStumbled := Or.inr ⟨"OneLantern", nT_mem (tb1 212 rfl) rfl⟩
theorem lkX4_80 : LKm RX4 80 yX4_isKind := Or.inl (gT_mem (tb1 220 rfl) rfl)
theorem lkX4_83 : LKm RX4 83 yX1_isFull := Or.inr ⟨"OneLantern", nT_mem (tb1 223 rfl) rfl⟩
theorem kX4_87 : Cond.constant RX4 87 (-1000000002) ∈ gT := gT_mem (tb1 227 rfl) rfl
theorem lkX4_88 : LKm RX4 88 yX1_add := Or.inr ⟨"OneLantern", nT_mem (tb1 228 rfl) rfl⟩
theorem gfX4_92 : GOK RX4 92 1 4 := ⟨RX1, TX1, 10, rfl, Nat.le_of_ble_eq_true rfl, inGX1, Or.inr ⟨"OneLantern", nT_mem (tb1 41 rfl) rfl⟩⟩
theorem gfX4_95 : GOK RX4 95 1 5 := ⟨RX1, TX1, 10, rfl, Nat.le_of_ble_eq_true rfl, inGX1, Or.inr ⟨"OneLantern", nT_mem (tb1 43 rfl) rfl⟩⟩
theorem lkX4_98 : LKm RX4 98 yX1_paceOf := Or.inr ⟨"OneLantern", nT_mem (tb1 237 rfl) rfl⟩
theorem gfX4_101 : GOK RX4 101 1 6 := ⟨RX1, TX1, 10, rfl, Nat.le_of_ble_eq_true rfl, inGX1, Or.inr ⟨"OneLantern", nT_mem (tb1 45 rfl) rfl⟩⟩
theorem gfX4_104 : GOK RX4 104 1 7 := ⟨RX1, TX1, 10, rfl, Nat.le_of_ble_eq_true rfl, inGX1, Or.inr ⟨"OneLantern", nT_mem (tb1 47 rfl) rfl⟩⟩
theorem gfX4_107 : GOK RX4 107 1 8 := ⟨RX1, TX1, 10, rfl, Nat.le_of_ble_eq_true rfl, inGX1, Or.inr ⟨"OneLantern", nT_mem (tb1 50 rfl) rfl⟩⟩
theorem lkX4_110 : LKm RX4 110 yX4_shadeOf := Or.inl (gT_mem (tb1 238 rfl) rfl)
theorem lkX4_113 : LKm RX4 113 yX1_seeingSet := Or.inr ⟨"OneLantern", nT_mem (tb1 239 rfl) rfl⟩
theorem lkX4_116 : LKm RX4 116 yX4_isIn := Or.inl (gT_mem (tb2 11 rfl) rfl)
theorem lkX4_120 : LKm RX4 120 yX1_heeds := Or.inr ⟨"OneLantern", nT_mem (tb2 12 rfl) rfl⟩
theorem lkX4_123 : LKm RX4 123 yX4_put := Or.inl (gT_mem (tb2 20 rfl) rfl)
theorem lkX4_127 : LKm RX4 127 yX1_exchange := Or.inr ⟨"OneLantern", nT_mem (tb2 28 rfl) rfl⟩
theorem lkX4_131 : LKm RX4 131 yX4_isUnder := Or.inl (gT_mem (tb2 43 rfl) rfl)
theorem kX4_134 : Cond.constant RX4 134 (-1000000003) ∈ gT := gT_mem (tb2 48 rfl) rfl
theorem kX4_135 : Cond.constant RX4 135 (99999) ∈ gT := gT_mem (tb2 53 rfl) rfl
theorem kX4_136 : Cond.constant RX4 136 (-1000000005) ∈ gT := gT_mem (tb2 54 rfl) rfl
theorem lkX4_137 : LKm RX4 137 yX1_goSteps := Or.inr ⟨"OneLantern", nT_mem (tb2 55 rfl) rfl⟩
theorem lkX4_140 : LKm RX4 140 yX4_lookAhead := Or.inl (gT_mem (tb2 92 rfl) rfl)
theorem gfX4_16 : GOK RX4 16 4 1 := ⟨RX4, TX4, 7, rfl, Nat.le_of_ble_eq_true rfl, inGX4, Or.inl (gT_mem (tb1 136 rfl) rfl)⟩
theorem lkX4_143 : LKm RX4 143 yX4_stumbledIn := Or.inl (gT_mem (tb2 104 rfl) rfl)
theorem lkX4_146 : LKm RX4 146 yX1_goStep := Or.inr ⟨"OneLantern", nT_mem (tb2 112 rfl) rfl⟩
theorem gfX4_149 : GOK RX4 149 1 9 := ⟨RX1, TX1, 10, rfl, Nat.le_of_ble_eq_true rfl, inGX1, Or.inr ⟨"OneLantern", nT_mem (tb1 51 rfl) rfl⟩⟩
theorem kX4_152 : Cond.constant RX4 152 (-1000000004) ∈ gT := gT_mem (tb2 113 rfl) rfl
theorem kX4_153 : Cond.constant RX4 153 (79993) ∈ gT := gT_mem (tb2 122 rfl) rfl
theorem lkX4_154 : LKm RX4 154 yX1_setRoot := Or.inr ⟨"OneLantern", nT_mem (tb2 139 rfl) rfl⟩
theorem lkX4_158 : LKm RX4 158 yX4_stumblesNoMore := Or.inl (gT_mem (tb2 147 rfl) rfl)
theorem gfX4_25 : GOK RX4 25 4 4 := ⟨RX4, TX4, 7, rfl, Nat.le_of_ble_eq_true rfl, inGX4, Or.inl (gT_mem (tb1 139 rfl) rfl)⟩
theorem gfX4_161 : GOK RX4 161 0 0 := ⟨RX0, TX0, 5, rfl, Nat.le_of_ble_eq_true rfl, inGX0, Or.inr ⟨"OneLantern", nT_mem (tb1 98 rfl) rfl⟩⟩
theorem gfX4_165 : GOK RX4 165 3 1 := ⟨RX3, TX3, 2, rfl, Nat.le_of_ble_eq_true rfl, inGX3, Or.inr ⟨"OneLantern", nT_mem (tb1 90 rfl) rfl⟩⟩
theorem lkX4_170 : LKm RX4 170 yX3_add := Or.inr ⟨"OneLantern", nT_mem (tb2 159 rfl) rfl⟩
theorem pfX4_165 : POK RX4 165 3 1 .int := ⟨RX3, TX3, 2, tyX3, rfl, Nat.le_of_ble_eq_true rfl, inGX3, Or.inr ⟨"OneLantern", nT_mem (tb1 90 rfl) rfl⟩, rfl, (by decide +kernel), tyX3_ok, nmX3⟩
theorem lkX4_173 : LKm RX4 173 yX0_tellTo := Or.inr ⟨"OneLantern", nT_mem (tb2 171 rfl) rfl⟩
theorem lkX4_177 : LKm RX4 177 yX1_takeFrom := Or.inr ⟨"OneLantern", nT_mem (tb2 96 rfl) rfl⟩
theorem lkX4_181 : LKm RX4 181 yX4_isSheet := Or.inl (gT_mem (tb3 67 rfl) rfl)
theorem lkX4_184 : LKm RX4 184 yX4_isWidth := Or.inl (gT_mem (tb3 70 rfl) rfl)
theorem kX4_187 : Cond.constant RX4 187 (-1000000007) ∈ gT := gT_mem (tb3 73 rfl) rfl
theorem lkX4_188 : LKm RX4 188 yX2_renew := Or.inr ⟨"OneLantern", nT_mem (tb3 74 rfl) rfl⟩
theorem gfX4_191 : GOK RX4 191 2 1 := ⟨RX2, TX2, 3, rfl, Nat.le_of_ble_eq_true rfl, inGX2, Or.inr ⟨"OneLantern", nT_mem (tb1 124 rfl) rfl⟩⟩
theorem lkX4_194 : LKm RX4 194 yX2_isMissing := Or.inr ⟨"OneLantern", nT_mem (tb3 82 rfl) rfl⟩
theorem kX4_197 : Cond.constant RX4 197 (-1000000006) ∈ gT := gT_mem (tb3 86 rfl) rfl
theorem gfX4_198 : GOK RX4 198 2 2 := ⟨RX2, TX2, 3, rfl, Nat.le_of_ble_eq_true rfl, inGX2, Or.inr ⟨"OneLantern", nT_mem (tb1 126 rfl) rfl⟩⟩
theorem lkX4_202 : LKm RX4 202 yX2_put := Or.inr ⟨"OneLantern", nT_mem (tb3 87 rfl) rfl⟩
theorem gfX4_205 : GOK RX4 205 2 0 := ⟨RX2, TX2, 3, rfl, Nat.le_of_ble_eq_true rfl, inGX2, Or.inr ⟨"OneLantern", nT_mem (tb1 122 rfl) rfl⟩⟩
theorem lkX4_208 : LKm RX4 208 yX2_spans := Or.inr ⟨"OneLantern", nT_mem (tb3 99 rfl) rfl⟩
theorem lkX4_217 : LKm RX4 217 yJ9_min_7cf53 := Or.inl (gT_mem (tb3 110 rfl) rfl)
theorem kX4_223 : Cond.constantLong RX4 223 (99) ∈ gT := gT_mem (tb3 111 rfl) rfl
theorem lkX4_225 : LKm RX4 225 yX4_findingOfBook := Or.inl (gT_mem (tb3 116 rfl) rfl)
theorem lkX4_228 : LKm RX4 228 yX4_stumblesJustAs := Or.inl (gT_mem (tb3 124 rfl) rfl)
theorem gfX4_19 : GOK RX4 19 4 2 := ⟨RX4, TX4, 7, rfl, Nat.le_of_ble_eq_true rfl, inGX4, Or.inl (gT_mem (tb1 137 rfl) rfl)⟩
theorem pfX4_232 : POK RX4 232 4 3 .boolean := ⟨RX4, TX4, 7, tyX4, rfl, Nat.le_of_ble_eq_true rfl, inGX4, Or.inl (gT_mem (tb1 138 rfl) rfl), rfl, (by decide +kernel), tyX4_ok, nmX4⟩
theorem gfX4_232 : GOK RX4 232 4 3 := ⟨RX4, TX4, 7, rfl, Nat.le_of_ble_eq_true rfl, inGX4, Or.inl (gT_mem (tb1 138 rfl) rfl)⟩
theorem lkX4_236 : LKm RX4 236 yJ6_bitCount_0f7a4 := Or.inl (gT_mem (tb3 144 rfl) rfl)
theorem lkX4_241 : LKm RX4 241 yX1_allNerve := Or.inr ⟨"OneLantern", nT_mem (tb3 150 rfl) rfl⟩
theorem gfX4_35 : GOK RX4 35 4 6 := ⟨RX4, TX4, 7, rfl, Nat.le_of_ble_eq_true rfl, inGX4, Or.inl (gT_mem (tb1 141 rfl) rfl)⟩
theorem gfX5_7 : GOK RX5 7 5 0 := ⟨RX5, TX5, 17, rfl, Nat.le_of_ble_eq_true rfl, inGX5, Or.inl (gT_mem (tb3 164 rfl) rfl)⟩
theorem gfX5_22 : GOK RX5 22 5 4 := ⟨RX5, TX5, 17, rfl, Nat.le_of_ble_eq_true rfl, inGX5, Or.inl (gT_mem (tb3 168 rfl) rfl)⟩
theorem kX5_41 : Cond.constant RX5 41 (-1000000001) ∈ gT := gT_mem (tb3 228 rfl) rfl
theorem gfX5_16 : GOK RX5 16 5 2 := ⟨RX5, TX5, 17, rfl, Nat.le_of_ble_eq_true rfl, inGX5, Or.inl (gT_mem (tb3 166 rfl) rfl)⟩
theorem gfX5_19 : GOK RX5 19 5 3 := ⟨RX5, TX5, 17, rfl, Nat.le_of_ble_eq_true rfl, inGX5, Or.inl (gT_mem (tb3 167 rfl) rfl)⟩
theorem lkX5_42 : LKm RX5 42 yX5_spot := Or.inl (gT_mem (tb4 26 rfl) rfl)
theorem lkX5_46 : LKm RX5 46 yX5_in := Or.inl (gT_mem (tb3 221 rfl) rfl)
theorem kX5_52 : Cond.constantLong RX5 52 (5) ∈ gT := gT_mem (tb4 60 rfl) rfl
theorem lkX5_54 : LKm RX5 54 yX5_its := Or.inl (gT_mem (tb4 22 rfl) rfl)
theorem lkX5_57 : LKm RX5 57 yX5_paceOf := Or.inl (gT_mem (tb4 41 rfl) rfl)
theorem kX5_61 : Cond.constantLong RX5 61 (1073741823) ∈ gT := gT_mem (tb3 220 rfl) rfl
theorem lkX5_63 : LKm RX5 63 yX5_becomes := Or.inl (gT_mem (tb3 224 rfl) rfl)
theorem lkX5_66 : LKm RX5 66 yX5_finds := Or.inl (gT_mem (tb3 229 rfl) rfl)
theorem lkX5_69 : LKm RX5 69 yX5_isPlace := Or.inl (gT_mem (tb3 237 rfl) rfl)
theorem kX5_73 : Cond.constantLong RX5 73 (9) ∈ gT := gT_mem (tb4 5 rfl) rfl
theorem lkX5_75 : LKm RX5 75 yX5_shadesOf := Or.inl (gT_mem (tb4 18 rfl) rfl)
theorem lkX5_78 : LKm RX5 78 yX5_farOf := Or.inl (gT_mem (tb4 29 rfl) rfl)
theorem lkX5_81 : LKm RX5 81 yX5_isLit := Or.inl (gT_mem (tb4 14 rfl) rfl)
theorem lkX5_84 : LKm RX5 84 yX5_isAtRoot := Or.inl (gT_mem (tb4 37 rfl) rfl)
theorem lkX5_87 : LKm RX5 87 yX5_litOnes := Or.inl (gT_mem (tb4 10 rfl) rfl)
theorem lkX5_91 : LKm RX5 91 yX5_rootedOnes := Or.inl (gT_mem (tb4 33 rfl) rfl)
theorem lkX5_94 : LKm RX5 94 yX5_heardOnes := Or.inl (gT_mem (tb4 45 rfl) rfl)
theorem lkX5_97 : LKm RX5 97 yX5_together := Or.inl (gT_mem (tb4 49 rfl) rfl)
theorem gfX5_100 : GOK RX5 100 5 6 := ⟨RX5, TX5, 17, rfl, Nat.le_of_ble_eq_true rfl, inGX5, Or.inl (gT_mem (tb3 170 rfl) rfl)⟩
theorem lkX5_104 : LKm RX5 104 yX5_isSeeing := Or.inl (gT_mem (tb4 70 rfl) rfl)
theorem lkX5_107 : LKm RX5 107 yX5_isKind := Or.inl (gT_mem (tb4 57 rfl) rfl)
theorem kX5_110 : Cond.constant RX5 110 (-1000000002) ∈ gT := gT_mem (tb4 61 rfl) rfl
theorem lkX5_111 : LKm RX5 111 yX5_adds := Or.inl (gT_mem (tb4 62 rfl) rfl)
theorem lkX5_114 : LKm RX5 114 yX5_isHeeding := Or.inl (gT_mem (tb4 74 rfl) rfl)
theorem kX5_117 : Cond.constantLong RX5 117 (2) ∈ gT := gT_mem (tb4 82 rfl) rfl
theorem kX5_119 : Cond.constantLong RX5 119 (4) ∈ gT := gT_mem (tb4 83 rfl) rfl
theorem kX5_121 : Cond.constantLong RX5 121 (9999) ∈ gT := gT_mem (tb4 84 rfl) rfl
theorem kX5_123 : Cond.constantLong RX5 123 (99) ∈ gT := gT_mem (tb4 85 rfl) rfl
theorem lkX5_125 : LKm RX5 125 yX5_swaps := Or.inl (gT_mem (tb4 90 rfl) rfl)
theorem lkX5_129 : LKm RX5 129 yX5_isUnder := Or.inl (gT_mem (tb4 102 rfl) rfl)
theorem kX5_133 : Cond.constant RX5 133 (-1000000003) ∈ gT := gT_mem (tb4 105 rfl) rfl
theorem pfX5_100 : POK RX5 100 5 6 .int := ⟨RX5, TX5, 17, tyX5, rfl, Nat.le_of_ble_eq_true rfl, inGX5, Or.inl (gT_mem (tb3 170 rfl) rfl), rfl, (by decide +kernel), tyX5_ok, nmX5⟩
theorem lkX5_134 : LKm RX5 134 yX5_treads := Or.inl (gT_mem (tb4 121 rfl) rfl)
theorem lkX5_138 : LKm RX5 138 yX5_isSaying := Or.inl (gT_mem (tb4 125 rfl) rfl)
theorem lkX5_141 : LKm RX5 141 yX5_step := Or.inl (gT_mem (tb4 117 rfl) rfl)
theorem kX5_144 : Cond.constantLong RX5 144 (200) ∈ gT := gT_mem (tb4 110 rfl) rfl
theorem kX5_146 : Cond.constant RX5 146 (99999) ∈ gT := gT_mem (tb4 111 rfl) rfl
theorem kX5_147 : Cond.constant RX5 147 (-1000000005) ∈ gT := gT_mem (tb4 112 rfl) rfl
theorem lkX5_148 : LKm RX5 148 yX5_stepsGo := Or.inl (gT_mem (tb4 113 rfl) rfl)
theorem kX5_151 : Cond.constantLong RX5 151 (300) ∈ gT := gT_mem (tb4 136 rfl) rfl
theorem lkX5_153 : LKm RX5 153 yX5_laysAside := Or.inl (gT_mem (tb4 141 rfl) rfl)
theorem lkX5_156 : LKm RX5 156 yX5_takesBack := Or.inl (gT_mem (tb4 145 rfl) rfl)
theorem lkX5_159 : LKm RX5 159 yX5_isAhead := Or.inl (gT_mem (tb4 133 rfl) rfl)
theorem lkX5_162 : LKm RX5 162 yX5_behind := Or.inl (gT_mem (tb4 137 rfl) rfl)
theorem kX5_165 : Cond.constant RX5 165 (-1000000004) ∈ gT := gT_mem (tb4 161 rfl) rfl
theorem lkX5_166 : LKm RX5 166 yX5_toldAt := Or.inl (gT_mem (tb4 157 rfl) rfl)
theorem kX5_169 : Cond.constantLong RX5 169 (100) ∈ gT := gT_mem (tb4 173 rfl) rfl
theorem kX5_171 : Cond.constant RX5 171 (999999) ∈ gT := gT_mem (tb4 178 rfl) rfl
theorem lkX5_172 : LKm RX5 172 yX5_isSoon := Or.inl (gT_mem (tb4 170 rfl) rfl)
theorem lkX5_175 : LKm RX5 175 yX5_leastBy := Or.inl (gT_mem (tb4 174 rfl) rfl)
theorem kX5_179 : Cond.constantLong RX5 179 (99999) ∈ gT := gT_mem (tb4 191 rfl) rfl
theorem kX5_181 : Cond.constantLong RX5 181 (60) ∈ gT := gT_mem (tb4 196 rfl) rfl
theorem gfX5_183 : GOK RX5 183 5 8 := ⟨RX5, TX5, 17, rfl, Nat.le_of_ble_eq_true rfl, inGX5, Or.inl (gT_mem (tb3 172 rfl) rfl)⟩
theorem gfX5_25 : GOK RX5 25 5 7 := ⟨RX5, TX5, 17, rfl, Nat.le_of_ble_eq_true rfl, inGX5, Or.inl (gT_mem (tb3 171 rfl) rfl)⟩
theorem pfX5_183 : POK RX5 183 5 8 .int := ⟨RX5, TX5, 17, tyX5, rfl, Nat.le_of_ble_eq_true rfl, inGX5, Or.inl (gT_mem (tb3 172 rfl) rfl), rfl, (by decide +kernel), tyX5_ok, nmX5⟩
theorem kX5_186 : Cond.constantLong RX5 186 (97) ∈ gT := gT_mem (tb4 232 rfl) rfl
theorem kX5_188 : Cond.constantLong RX5 188 (122) ∈ gT := gT_mem (tb4 233 rfl) rfl
theorem kX5_190 : Cond.constantLong RX5 190 (48) ∈ gT := gT_mem (tb4 237 rfl) rfl
theorem kX5_192 : Cond.constantLong RX5 192 (57) ∈ gT := gT_mem (tb4 238 rfl) rfl
theorem gfX5_194 : GOK RX5 194 5 10 := ⟨RX5, TX5, 17, rfl, Nat.le_of_ble_eq_true rfl, inGX5, Or.inl (gT_mem (tb3 174 rfl) rfl)⟩
theorem pfX5_197 : POK RX5 197 5 9 .int := ⟨RX5, TX5, 17, tyX5, rfl, Nat.le_of_ble_eq_true rfl, inGX5, Or.inl (gT_mem (tb3 173 rfl) rfl), rfl, (by decide +kernel), tyX5_ok, nmX5⟩
theorem gfX5_197 : GOK RX5 197 5 9 := ⟨RX5, TX5, 17, rfl, Nat.le_of_ble_eq_true rfl, inGX5, Or.inl (gT_mem (tb3 173 rfl) rfl)⟩
theorem lkX5_200 : LKm RX5 200 yX5_byteAt := Or.inl (gT_mem (tb4 225 rfl) rfl)
theorem lkX5_203 : LKm RX5 203 yX5_isLetter := Or.inl (gT_mem (tb4 229 rfl) rfl)
theorem lkX5_206 : LKm RX5 206 yX5_isDigit := Or.inl (gT_mem (tb4 234 rfl) rfl)
theorem pfX5_194 : POK RX5 194 5 10 .int := ⟨RX5, TX5, 17, tyX5, rfl, Nat.le_of_ble_eq_true rfl, inGX5, Or.inl (gT_mem (tb3 174 rfl) rfl), rfl, (by decide +kernel), tyX5_ok, nmX5⟩
theorem gfX5_209 : GOK RX5 209 5 12 := ⟨RX5, TX5, 17, rfl, Nat.le_of_ble_eq_true rfl, inGX5, Or.inl (gT_mem (tb3 176 rfl) rfl)⟩
theorem pfX5_209 : POK RX5 209 5 12 .boolean := ⟨RX5, TX5, 17, tyX5, rfl, Nat.le_of_ble_eq_true rfl, inGX5, Or.inl (gT_mem (tb3 176 rfl) rfl), rfl, (by decide +kernel), tyX5_ok, nmX5⟩
theorem lkX5_213 : LKm RX5 213 yX5_token := Or.inl (gT_mem (tb4 221 rfl) rfl)
theorem kX5_216 : Cond.constantLong RX5 216 (36028797018963967) ∈ gT := gT_mem (tb5 11 rfl) rfl
theorem kX5_218 : Cond.constantLong RX5 218 (32) ∈ gT := gT_mem (tb5 12 rfl) rfl
theorem pfX5_220 : POK RX5 220 5 11 .int := ⟨RX5, TX5, 17, tyX5, rfl, Nat.le_of_ble_eq_true rfl, inGX5, Or.inl (gT_mem (tb3 175 rfl) rfl), rfl, (by decide +kernel), tyX5_ok, nmX5⟩
theorem lkX5_223 : LKm RX5 223 yX5_must := Or.inl (gT_mem (tb5 23 rfl) rfl)
theorem lkX5_227 : LKm RX5 227 yX5_word := Or.inl (gT_mem (tb5 7 rfl) rfl)
theorem kX5_231 : Cond.constantLong RX5 231 (773205170) ∈ gT := gT_mem (tb5 13 rfl) rfl
theorem kX5_233 : Cond.constantLong RX5 233 (656780) ∈ gT := gT_mem (tb5 14 rfl) rfl
theorem kX5_235 : Cond.constantLong RX5 235 (3417476) ∈ gT := gT_mem (tb5 15 rfl) rfl
theorem kX5_237 : Cond.constantLong RX5 237 (8037509) ∈ gT := gT_mem (tb5 16 rfl) rfl
theorem kX5_239 : Cond.constantLong RX5 239 (553210034) ∈ gT := gT_mem (tb5 17 rfl) rfl
theorem kX5_241 : Cond.constantLong RX5 241 (650286617) ∈ gT := gT_mem (tb5 18 rfl) rfl
theorem kX5_243 : Cond.constantLong RX5 243 (14863045) ∈ gT := gT_mem (tb5 27 rfl) rfl
theorem lkX5_245 : LKm RX5 245 yX5_number := Or.inl (gT_mem (tb5 28 rfl) rfl)
theorem gfX5_220 : GOK RX5 220 5 11 := ⟨RX5, TX5, 17, rfl, Nat.le_of_ble_eq_true rfl, inGX5, Or.inl (gT_mem (tb3 175 rfl) rfl)⟩
theorem lkX5_248 : LKm RX5 248 yX5_numberHere := Or.inl (gT_mem (tb5 49 rfl) rfl)
theorem lkX5_251 : LKm RX5 251 yX5_kindHere := Or.inl (gT_mem (tb5 3 rfl) rfl)
theorem lkX5_254 : LKm RX5 254 yX5_walkerItem := Or.inl (gT_mem (tb5 19 rfl) rfl)
theorem kX5_257 : Cond.constantLong RX5 257 (605684) ∈ gT := gT_mem (tb5 32 rfl) rfl
theorem kX5_259 : Cond.constantLong RX5 259 (3544114) ∈ gT := gT_mem (tb5 33 rfl) rfl
theorem lkX5_261 : LKm RX5 261 yX5_rootItem := Or.inl (gT_mem (tb5 34 rfl) rfl)
theorem kX5_264 : Cond.constantLong RX5 264 (12933797454) ∈ gT := gT_mem (tb5 38 rfl) rfl
theorem lkX5_266 : LKm RX5 266 yX5_toldItem := Or.inl (gT_mem (tb5 39 rfl) rfl)
theorem kX5_269 : Cond.constantLong RX5 269 (86285588) ∈ gT := gT_mem (tb5 43 rfl) rfl
theorem kX5_271 : Cond.constantLong RX5 271 (646192) ∈ gT := gT_mem (tb5 44 rfl) rfl
theorem lkX5_273 : LKm RX5 273 yX5_swapItem := Or.inl (gT_mem (tb5 45 rfl) rfl)
theorem lkX5_276 : LKm RX5 276 yX5_saves := Or.inl (gT_mem (tb4 217 rfl) rfl)
theorem lkX5_279 : LKm RX5 279 yX5_item := Or.inl (gT_mem (tb4 239 rfl) rfl)
theorem lkX5_282 : LKm RX5 282 yX5_putsBack := Or.inl (gT_mem (tb5 53 rfl) rfl)
theorem kX5_285 : Cond.constantLong RX5 285 (3) ∈ gT := gT_mem (tb5 64 rfl) rfl
theorem lkX5_287 : LKm RX5 287 yX5_isOne := Or.inl (gT_mem (tb5 61 rfl) rfl)
theorem kX5_290 : Cond.constant RX5 290 (-1000000007) ∈ gT := gT_mem (tb5 65 rfl) rfl
theorem gfX5_28 : GOK RX5 28 5 13 := ⟨RX5, TX5, 17, rfl, Nat.le_of_ble_eq_true rfl, inGX5, Or.inl (gT_mem (tb3 177 rfl) rfl)⟩
theorem gfX5_31 : GOK RX5 31 5 14 := ⟨RX5, TX5, 17, rfl, Nat.le_of_ble_eq_true rfl, inGX5, Or.inl (gT_mem (tb3 178 rfl) rfl)⟩
theorem gfX5_34 : GOK RX5 34 5 15 := ⟨RX5, TX5, 17, rfl, Nat.le_of_ble_eq_true rfl, inGX5, Or.inl (gT_mem (tb3 179 rfl) rfl)⟩
theorem kX5_291 : Cond.constant RX5 291 (-1000000006) ∈ gT := gT_mem (tb5 74 rfl) rfl
theorem lkX5_292 : LKm RX5 292 yX5_wrongSheet := Or.inl (gT_mem (tb5 70 rfl) rfl)
theorem lkX5_295 : LKm RX5 295 yX5_narrowed := Or.inl (gT_mem (tb5 75 rfl) rfl)
theorem gfX5_38 : GOK RX5 38 5 16 := ⟨RX5, TX5, 17, rfl, Nat.le_of_ble_eq_true rfl, inGX5, Or.inl (gT_mem (tb3 180 rfl) rfl)⟩
theorem lkX5_299 : LKm RX5 299 yX5_isBook := Or.inl (gT_mem (tb5 94 rfl) rfl)
theorem gfX5_13 : GOK RX5 13 5 1 := ⟨RX5, TX5, 17, rfl, Nat.le_of_ble_eq_true rfl, inGX5, Or.inl (gT_mem (tb3 165 rfl) rfl)⟩
theorem pfX5_302 : POK RX5 302 5 5 .boolean := ⟨RX5, TX5, 17, tyX5, rfl, Nat.le_of_ble_eq_true rfl, inGX5, Or.inl (gT_mem (tb3 169 rfl) rfl), rfl, (by decide +kernel), tyX5_ok, nmX5⟩
theorem gfX5_302 : GOK RX5 302 5 5 := ⟨RX5, TX5, 17, rfl, Nat.le_of_ble_eq_true rfl, inGX5, Or.inl (gT_mem (tb3 169 rfl) rfl)⟩
theorem lkX5_305 : LKm RX5 305 yX5_rootsMany := Or.inl (gT_mem (tb5 114 rfl) rfl)
theorem kX5_308 : Cond.constantLong RX5 308 (-1) ∈ gT := gT_mem (tb5 122 rfl) rfl
theorem kX5_310 : Cond.constantLong RX5 310 (6) ∈ gT := gT_mem (tb5 123 rfl) rfl
theorem kJ6_265 : Cond.constant RJ6 265 (1431655765) ∈ gT := gT_mem (tb3 147 rfl) rfl
theorem kJ6_266 : Cond.constant RJ6 266 (858993459) ∈ gT := gT_mem (tb3 148 rfl) rfl
theorem kJ6_267 : Cond.constant RJ6 267 (252645135) ∈ gT := gT_mem (tb3 149 rfl) rfl
theorem lkJ0_335 : LKm RJ0 335 yJ0_coder_7d493 := Or.inl (gT_mem (tb2 226 rfl) rfl)
theorem lkJ0_492 : LKm RJ0 492 yJ0_isLatin1_aae02 := Or.inl (gT_mem (tb2 236 rfl) rfl)
theorem lkJ0_495 : LKm RJ0 495 yJ1_charAt_3b067 := Or.inl (gT_mem (tb3 0 rfl) rfl)
theorem lkJ0_498 : LKm RJ0 498 yJ2_charAt_3b067 := Or.inl (gT_mem (tb3 11 rfl) rfl)
theorem lkJ0_1059 : LKm RJ0 1059 yJ3_checkIndex_8e157 := Or.inl (gT_mem (tb3 8 rfl) rfl)
theorem lkJ1_9 : LKm RJ1 9 yJ0_checkIndex_df160 := Or.inl (gT_mem (tb3 3 rfl) rfl)
theorem lkJ2_48 : LKm RJ2 48 yJ2_length_9d52b := Or.inl (gT_mem (tb3 17 rfl) rfl)
theorem lkJ2_67 : LKm RJ2 67 yJ2_checkIndex_2214a := Or.inl (gT_mem (tb3 14 rfl) rfl)
theorem lkJ2_71 : LKm RJ2 71 yJ2_getChar_3b067 := Or.inl (gT_mem (tb3 21 rfl) rfl)
theorem lkJ2_414 : LKm RJ2 414 yJ0_checkIndex_df160 := Or.inl (gT_mem (tb3 20 rfl) rfl)
theorem lkL_9 : LKm RL 9 yX4_init := Or.inl (gT_mem (tb1 16 rfl) rfl)
theorem lkL_12 : LKm RL 12 yX5_init := Or.inl (gT_mem (tb3 160 rfl) rfl)
theorem lkL_13 : LKm RL 13 yX4_roots := Or.inl (gT_mem (tb1 157 rfl) rfl)
theorem lkL_17 : LKm RL 17 yX5_roots := Or.inl (gT_mem (tb3 216 rfl) rfl)
theorem lkL_18 : LKm RL 18 yX4_lantern := Or.inl (gT_mem (tb1 170 rfl) rfl)
theorem lkL_21 : LKm RL 21 yX5_lantern := Or.inl (gT_mem (tb3 233 rfl) rfl)
theorem lkL_22 : LKm RL 22 yX4_bright := Or.inl (gT_mem (tb1 178 rfl) rfl)
theorem lkL_25 : LKm RL 25 yX5_bright := Or.inl (gT_mem (tb4 1 rfl) rfl)
theorem lkL_26 : LKm RL 26 yX4_now := Or.inl (gT_mem (tb1 182 rfl) rfl)
theorem lkL_29 : LKm RL 29 yX5_now := Or.inl (gT_mem (tb4 6 rfl) rfl)
theorem lkL_30 : LKm RL 30 yX4_walker := Or.inl (gT_mem (tb1 216 rfl) rfl)
theorem lkL_33 : LKm RL 33 yX5_walker := Or.inl (gT_mem (tb4 53 rfl) rfl)
theorem lkL_34 : LKm RL 34 yX4_of := Or.inl (gT_mem (tb1 233 rfl) rfl)
theorem lkL_38 : LKm RL 38 yX5_of := Or.inl (gT_mem (tb4 66 rfl) rfl)
theorem lkL_39 : LKm RL 39 yX4_set := Or.inl (gT_mem (tb2 16 rfl) rfl)
theorem lkL_43 : LKm RL 43 yX5_set := Or.inl (gT_mem (tb4 78 rfl) rfl)
theorem lkL_44 : LKm RL 44 yX4_swap := Or.inl (gT_mem (tb2 24 rfl) rfl)
theorem lkL_47 : LKm RL 47 yX5_swap := Or.inl (gT_mem (tb4 86 rfl) rfl)
theorem lkL_48 : LKm RL 48 yX4_turn := Or.inl (gT_mem (tb2 35 rfl) rfl)
theorem lkL_51 : LKm RL 51 yX5_turn := Or.inl (gT_mem (tb4 94 rfl) rfl)
theorem lkL_52 : LKm RL 52 yX4_as := Or.inl (gT_mem (tb2 39 rfl) rfl)
theorem lkL_55 : LKm RL 55 yX5_as := Or.inl (gT_mem (tb4 98 rfl) rfl)
theorem lkL_56 : LKm RL 56 yX4_steps := Or.inl (gT_mem (tb2 49 rfl) rfl)
theorem lkL_59 : LKm RL 59 yX5_steps := Or.inl (gT_mem (tb4 106 rfl) rfl)
theorem lkL_60 : LKm RL 60 yX4_on := Or.inl (gT_mem (tb2 88 rfl) rfl)
theorem lkL_63 : LKm RL 63 yX5_on := Or.inl (gT_mem (tb4 129 rfl) rfl)
theorem lkL_64 : LKm RL 64 yX4_falls := Or.inl (gT_mem (tb2 100 rfl) rfl)
theorem lkL_67 : LKm RL 67 yX5_falls := Or.inl (gT_mem (tb4 149 rfl) rfl)
theorem lkL_68 : LKm RL 68 yX4_trips := Or.inl (gT_mem (tb2 108 rfl) rfl)
theorem lkL_71 : LKm RL 71 yX5_trips := Or.inl (gT_mem (tb4 153 rfl) rfl)
theorem lkL_72 : LKm RL 72 yX4_hears := Or.inl (gT_mem (tb2 114 rfl) rfl)
theorem lkL_75 : LKm RL 75 yX5_hears := Or.inl (gT_mem (tb4 162 rfl) rfl)
theorem lkL_76 : LKm RL 76 yX4_carry := Or.inl (gT_mem (tb2 118 rfl) rfl)
theorem lkL_79 : LKm RL 79 yX5_carry := Or.inl (gT_mem (tb4 166 rfl) rfl)
theorem lkL_80 : LKm RL 80 yX4_order := Or.inl (gT_mem (tb2 123 rfl) rfl)
theorem lkL_83 : LKm RL 83 yX5_order := Or.inl (gT_mem (tb4 179 rfl) rfl)
theorem lkL_84 : LKm RL 84 yX4_kind := Or.inl (gT_mem (tb2 127 rfl) rfl)
theorem lkL_87 : LKm RL 87 yX5_kind := Or.inl (gT_mem (tb4 183 rfl) rfl)
theorem lkL_88 : LKm RL 88 yX4_least := Or.inl (gT_mem (tb2 131 rfl) rfl)
theorem lkL_91 : LKm RL 91 yX5_least := Or.inl (gT_mem (tb4 187 rfl) rfl)
theorem lkL_92 : LKm RL 92 yX4_clear := Or.inl (gT_mem (tb2 135 rfl) rfl)
theorem lkL_95 : LKm RL 95 yX5_clear := Or.inl (gT_mem (tb4 192 rfl) rfl)
theorem lkL_96 : LKm RL 96 yX4_nerve := Or.inl (gT_mem (tb2 143 rfl) rfl)
theorem lkL_99 : LKm RL 99 yX5_nerve := Or.inl (gT_mem (tb4 197 rfl) rfl)
theorem lkL_100 : LKm RL 100 yX4_worst := Or.inl (gT_mem (tb2 151 rfl) rfl)
theorem lkL_103 : LKm RL 103 yX5_worst := Or.inl (gT_mem (tb4 201 rfl) rfl)
theorem lkL_104 : LKm RL 104 yX4_feed := Or.inl (gT_mem (tb2 155 rfl) rfl)
theorem lkL_107 : LKm RL 107 yX5_feed := Or.inl (gT_mem (tb4 205 rfl) rfl)
theorem lkL_108 : LKm RL 108 yX4_wipe := Or.inl (gT_mem (tb2 163 rfl) rfl)
theorem lkL_112 : LKm RL 112 yX5_wipe := Or.inl (gT_mem (tb4 209 rfl) rfl)
theorem lkL_113 : LKm RL 113 yX4_night := Or.inl (gT_mem (tb2 167 rfl) rfl)
theorem lkL_116 : LKm RL 116 yX5_night := Or.inl (gT_mem (tb4 213 rfl) rfl)
theorem lkL_117 : LKm RL 117 yX4_sheet := Or.inl (gT_mem (tb3 63 rfl) rfl)
theorem lkL_120 : LKm RL 120 yX5_sheet := Or.inl (gT_mem (tb5 57 rfl) rfl)
theorem kL_121 : Cond.constantLong RL 121 (4294967295) ∈ gT := gT_mem (tb5 124 rfl) rfl
theorem lkL_123 : LKm RL 123 yX4_write := Or.inl (gT_mem (tb3 78 rfl) rfl)
theorem lkL_127 : LKm RL 127 yX5_write := Or.inl (gT_mem (tb5 66 rfl) rfl)
theorem lkL_128 : LKm RL 128 yX4_copy := Or.inl (gT_mem (tb3 95 rfl) rfl)
theorem lkL_132 : LKm RL 132 yX5_copy := Or.inl (gT_mem (tb5 78 rfl) rfl)
theorem lkL_133 : LKm RL 133 yX4_lays := Or.inl (gT_mem (tb3 106 rfl) rfl)
theorem lkL_136 : LKm RL 136 yX5_lays := Or.inl (gT_mem (tb5 82 rfl) rfl)
theorem lkL_137 : LKm RL 137 yX4_book := Or.inl (gT_mem (tb3 112 rfl) rfl)
theorem lkL_140 : LKm RL 140 yX5_book := Or.inl (gT_mem (tb5 86 rfl) rfl)
theorem lkL_141 : LKm RL 141 yX4_read := Or.inl (gT_mem (tb3 120 rfl) rfl)
theorem lkL_144 : LKm RL 144 yX5_read := Or.inl (gT_mem (tb5 90 rfl) rfl)
theorem lkL_145 : LKm RL 145 yX4_image := Or.inl (gT_mem (tb3 128 rfl) rfl)
theorem lkL_148 : LKm RL 148 yX5_image := Or.inl (gT_mem (tb5 98 rfl) rfl)
theorem lkL_149 : LKm RL 149 yX4_undo := Or.inl (gT_mem (tb3 132 rfl) rfl)
theorem lkL_152 : LKm RL 152 yX5_undo := Or.inl (gT_mem (tb5 102 rfl) rfl)
theorem lkL_153 : LKm RL 153 yX4_tear := Or.inl (gT_mem (tb3 136 rfl) rfl)
theorem lkL_156 : LKm RL 156 yX5_tear := Or.inl (gT_mem (tb5 106 rfl) rfl)
theorem lkL_157 : LKm RL 157 yX4_count := Or.inl (gT_mem (tb3 140 rfl) rfl)
theorem lkL_160 : LKm RL 160 yX5_count := Or.inl (gT_mem (tb5 110 rfl) rfl)
theorem lkL_161 : LKm RL 161 yX4_status := Or.inl (gT_mem (tb3 154 rfl) rfl)
theorem lkL_164 : LKm RL 164 yX5_status := Or.inl (gT_mem (tb5 118 rfl) rfl)
