/-! THE CLAIM OUT OF ONE WALK OF THE LAW'S BODY. Your part is whole_start (and what it stands on); all else here is the same for every law, but numbers. -/
def R_law : String := "OneLanternLaw"
def lw_P (b : Addr) (xs : List Int32) (args : Array Value) (s : State) : Prop := args = #[.ref b] ∧ s.IntsAt b xs ∧ xs.length ≤ 3072 ∧ (Jvm.Cond.and given_1 narrow_1).before args s = true
def lw_Q (_ : Array Value) (s : State) (o : Outcome) (t : State) : Prop := o = .returned (some (.int 1)) ∧ Framed s o t [] 600000 7302250
def lw_Z (below : List Frame) (a : Array Value) (s : State) : State → Prop := fun t => ∃ o, t.status = .running ∧ Ended t below o ∧ lw_Q a s o t
/-- the law's own end, with 1 on the stack, nothing written that was there before, its room as the claim has it -/
theorem lw_ret {p : Program} {l : Launch} {e : Env} {s : State} {m : MethodId} {below : List Frame} {meth : Method} {c : Code} {b : Nat} (hx : p.tables.exec = Jvm.exec) (hb : c.code = code) (hr : meth.sig.returnType = ret) (hlocks : meth.locks = false) {pc : Nat} {H : Heap} {ls : Array Slot} (hdg : decode code pc = .ok (.ireturn, 1)) : W p l e room_1 s m #[Value.ref b] below meth c H [] 600000 7302250 (lw_Z below #[Value.ref b] s) (F0 m pc ls [.int 1]) := by
  intro T hT X
  obtain ⟨fs, hret, hrun, hended, hW, hframe⟩ := X.leave (v := some (.int 1)) (hlocks := hlocks) (fun h => by rw [hr] at h; cases h)
  have hmeth' : T.vm.method? m = some meth := X.method'
  refine ⟨T.setFrames fs, ?_, .returned (some (.int 1)), hrun, hended, rfl, ⟨_, rfl⟩, hW, hframe⟩
  jvm_step X.here [X.here.top, hx, hb, hdg, hmeth', hr, ret, narrow_b1]
  (try refine ⟨rfl, ?_⟩); (try refine ⟨rfl, ?_⟩)
  first | (intro acts; rw [hret _ acts rfl rfl rfl]) | rw [hret _ _ rfl rfl rfl]
  exact Steps.refl _
/-- what holds at the law's entry: the machine, the code, the tables' words (any of lw_tbl by 'hts w (by decide +kernel)'), the script of L ints xs at the cell b, what the Statement gives of the start (any of its parts by flat_of_before) -/
def lw_At (p : Program) (s : State) (m : MethodId) (meth : Method) (c : Code) (b L : Nat) (xs : Nat → Int32) : Prop :=
  p.tables.exec = Jvm.exec ∧ c.code = code ∧ meth.sig.returnType = ret ∧ c.maxLocals = 4 ∧ s.vm.findClass R_law = some m.cls ∧ (∀ w ∈ lw_tbl, w.before #[Value.ref b] s = true) ∧ va_X b L xs s s.heap ∧ b < s.heap.size ∧ meth.locks = false ∧ (Jvm.Cond.and given_1 narrow_1).before #[Value.ref b] s = true
theorem mT {w : Cond} (h : w ∈ tables_1) : w ∈ lw_tbl := List.mem_append_right _ h
set_option maxHeartbeats 4000000 in
set_option maxRecDepth 100000 in
theorem whole_start {p : Program} {e : Env} {s : State} {m : MethodId} {below : List Frame} {meth : Method} {c : Code} (l : Launch) (hflags : l.flags = flags0) {b L : Nat} {xs : Nat → Int32} (hL : L ≤ 3072) (C0 : lw_At p s m meth c b L xs) : W p l e room_1 s m #[Value.ref b] below meth c s.heap [] 0 0 (lw_Z below #[Value.ref b] s) (entryFrame m ([Value.ref b] : List Value).toArray 4) := by
  obtain ⟨hx, hb, hr, hml, hown, hts, hX, hbl, hlocks, hgv⟩ := id C0
  have hpr : ∀ w ∈ prm, w.before #[Value.ref b] s = true := flat_of_before _ hgv
  have hA0 : ∀ a : Nat, a < s.heap.size → ¬ (fun q : Nat => s.heap.size ≤ q) a := fun a h => Nat.not_le.mpr h
  obtain ⟨c0, iS0, hKn0⟩ := u_known (C := RX0) (T := TX0) (N := 5) (n := 5) hts (fun w hw => (List.mem_filter.mp (inGX0 w hw)).1) (hts (.instantiable RX0 5) (mT (tb1 76 rfl)))
  obtain ⟨c1, iS1, hKn1⟩ := u_known (C := RX1) (T := TX1) (N := 10) (n := 10) hts (fun w hw => (List.mem_filter.mp (inGX1 w hw)).1) (hts (.instantiable RX1 10) (mT (tb1 23 rfl)))
  obtain ⟨c2, iS2, hKn2⟩ := u_known (C := RX2) (T := TX2) (N := 3) (n := 3) hts (fun w hw => (List.mem_filter.mp (inGX2 w hw)).1) (hts (.instantiable RX2 3) (mT (tb1 116 rfl)))
  obtain ⟨c3, iS3, hKn3⟩ := u_known (C := RX3) (T := TX3) (N := 2) (n := 2) hts (fun w hw => (List.mem_filter.mp (inGX3 w hw)).1) (hts (.instantiable RX3 2) (mT (tb1 82 rfl)))
  obtain ⟨c4, iS4, hKn4⟩ := u_known (C := RX4) (T := TX4) (N := 7) (n := 7) hts (fun w hw => (List.mem_filter.mp (inGX4 w hw)).1) (hts (.instantiable RX4 7) (mT (tb1 15 rfl)))
  obtain ⟨c5, iS5, hKn5⟩ := u_known (C := RX5) (T := TX5) (N := 17) (n := 17) hts (fun w hw => (List.mem_filter.mp (inGX5 w hw)).1) (hts (.instantiable RX5 17) (mT (tb3 159 rfl)))
  obtain ⟨dC, dI, hKc⟩ : ∃ (dC : Nat → ClassId) (dI : Nat → Nat → Nat), ∀ (k : Nat) (q : vw_C), vwCl[k]? = some q → u_Kn s q.1 q.2.1 q.2.2 (dC k) (dI k) := by
    refine ⟨fun k => [c0, c1, c2, c3, c4, c5].getD k c0, fun k => [iS0, iS1, iS2, iS3, iS4, iS5].getD k iS0, ?_⟩
    intro k q hq
    match k, hq with
    | 0, hq => cases hq; exact hKn0
    | 1, hq => cases hq; exact hKn1
    | 2, hq => cases hq; exact hKn2
    | 3, hq => cases hq; exact hKn3
    | 4, hq => cases hq; exact hKn4
    | 5, hq => cases hq; exact hKn5
    | k + 6, hq => simp [vwCl] at hq
  obtain ⟨aI, kI, pI, fI1, fI2, fI3⟩ := Cond.arrayClass_spec (hts (.arrayClass .int) (mT (tb1 74 rfl)))
  obtain ⟨aJ, kJ, pJ, fJ1, fJ2, fJ3⟩ := Cond.arrayClass_spec (hts (.arrayClass .long) (mT (tb1 134 rfl)))
  obtain ⟨aB, kB, pB, fB1, fB2, fB3⟩ := Cond.arrayClass_spec (hts (.arrayClass .byte) (mT (tb1 96 rfl)))
  have hAO : AO s := va_AO.of (hts (.arrayOver (.object "OneLantern$Sheet")) (mT (tb1 115 rfl)))
  obtain ⟨pQ, aQ, kQ, fQ1, fQ2, fQ3, fQ4, fQ5⟩ := Cond.arrayOver_spec (va_AO.use (A := #[Value.ref b]) hAO)
  obtain ⟨cs, hcs⟩ : ∃ cs : Nat → ClassId, cs = fun k => [aI, aJ, aB, aQ].getD k aI := ⟨_, rfl⟩
  have hK : va_K (dC, dI) vwCl (tys cs) s := by
    refine ⟨hKc, fun k q hk => ?_⟩
    subst hcs
    match k, hk with
    | 0, hk => cases hk; exact ⟨fun n z => ⟨fun k h => (by cases h), kI, fI2, pI, fI3⟩, fI1⟩
    | 1, hk => cases hk; exact ⟨fun n z => ⟨fun k h => (by cases h), kJ, fJ2, pJ, fJ3⟩, fJ1⟩
    | 2, hk => cases hk; exact ⟨fun n z => ⟨fun k h => (by cases h), kB, fB2, pB, fB3⟩, fB1⟩
    | 3, hk => cases hk; exact ⟨fun n z => ⟨fun k h => (by cases h), kQ, fQ3, pQ, fQ4⟩, kQ, pQ, fQ3, fQ4, fQ1, fQ5⟩
    | k + 4, hk => simp [tys] at hk
  obtain ⟨adK, adV, hS9, hT9⟩ := vk_Sof (N := 13) (tm := tmS) (len := txL) (byt := txB) (A := fun q : Nat => s.heap.size ≤ q) (args := #[Value.ref b]) (s := s) pr_31 (fun i hi => hpr _ (pr_ex i hi)) (fun i hi => hpr _ (pr_co i hi)) (fun i hi => hpr _ (pr_ar i hi)) (fun i hi => hpr _ (pr_le i hi)) (fun i hi j hj => hpr _ (pr_el i hi j hj)) (fun i j hi hj hij => (pr_ne i hi j hj hij).imp (hpr _) (hpr _)) hA0
  obtain ⟨t1, ht1, hT1⟩ := va_Tof (ty := .int) (N := 6) (f := fun j => .int (kAbove j)) (A := fun q : Nat => s.heap.size ≤ q) (by decide) (hpr _ pr_kar) (va_eqt (hpr _ pr_kle)) (fun j hj => va_eqt (hpr _ (pr_kel j hj))) hA0
  have hZ1 := va_Zref (A := fun q : Nat => s.heap.size ≤ q) (hts (.laysStatic "OneLantern" "KIND_ABOVE" "[I") (mT (tb2 47 rfl))) (hts (.initialized "OneLantern") (mT (tb1 1 rfl))) ht1 hA0
  have hZ2 := va_Zof (A := fun q : Nat => s.heap.size ≤ q) (hts (.laysStatic "java/lang/String" "COMPACT_STRINGS" "Z") (mT (tb2 231 rfl))) (hts (.initialized "java/lang/String") (mT (tb1 8 rfl))) (va_eqt (hpr _ pr_cs)) hA0
  obtain ⟨t2, hZ3⟩ : ∃ t2 : Nat, va_Z "jdk/internal/util/Preconditions" "SIOOBE_FORMATTER" "Ljava/util/function/BiFunction;" .null (fun q : Nat => s.heap.size ≤ q) s s.heap ∨ va_Z "jdk/internal/util/Preconditions" "SIOOBE_FORMATTER" "Ljava/util/function/BiFunction;" (.ref t2) (fun q : Nat => s.heap.size ≤ q) s s.heap := by
    rcases va_Zqof (A := fun q : Nat => s.heap.size ≤ q) (hts (.laysStatic "jdk/internal/util/Preconditions" "SIOOBE_FORMATTER" "Ljava/util/function/BiFunction;") (mT (tb3 7 rfl))) (hts (.initialized "jdk/internal/util/Preconditions") (mT (tb1 10 rfl))) (hpr _ pr_fm) hA0 with h | ⟨t, h⟩
    · exact ⟨0, Or.inl h⟩
    · exact ⟨t, Or.inr h⟩
  obtain ⟨ad, had⟩ : ∃ ad : Nat → Nat, ad = fun k => if k = 1000 then b else if k = 1001 then t1 else if k = 1002 then t2 else if k < 3000 then adK (k - 2000) else adV (k - 3000) := ⟨_, rfl⟩
  have g0 : ad 1000 = b := by rw [had]; rfl
  have g1 : ad 1001 = t1 := by rw [had]; rfl
  have g2 : ad 1002 = t2 := by rw [had]; rfl
  have g3 : ∀ i, i < 13 → ad (1000 + (1000 + i)) = adK i := fun i hi => by
    rw [had]
    show (if 1000 + (1000 + i) = 1000 then b else if 1000 + (1000 + i) = 1001 then t1 else if 1000 + (1000 + i) = 1002 then t2 else if 1000 + (1000 + i) < 3000 then adK (1000 + (1000 + i) - 2000) else adV (1000 + (1000 + i) - 3000)) = adK i
    rw [if_neg (by omega), if_neg (by omega), if_neg (by omega), if_pos (by omega), show 1000 + (1000 + i) - 2000 = i by omega]
  have g4 : ∀ i, i < 13 → ad (1000 + (2000 + i)) = adV i := fun i hi => by
    rw [had]
    show (if 1000 + (2000 + i) = 1000 then b else if 1000 + (2000 + i) = 1001 then t1 else if 1000 + (2000 + i) = 1002 then t2 else if 1000 + (2000 + i) < 3000 then adK (1000 + (2000 + i) - 2000) else adV (1000 + (2000 + i) - 3000)) = adV i
    rw [if_neg (by omega), if_neg (by omega), if_neg (by omega), if_neg (by omega), show 1000 + (2000 + i) - 3000 = i by omega]
  have hE : Ev (L, xs) (fun k => ad (1000 + k)) (fun q : Nat => s.heap.size ≤ q) s s.heap := by
    refine ⟨?_, ?_, ?_, hZ2, ?_, fun i hi => ?_, ⟨fun i hi => ?_, fun i j hi hj eij => ?_⟩⟩
    · show va_T .int (ad 1000) L (fun j => .int (xs j)) _ s s.heap
      rw [g0]
      obtain ⟨scr, h1, h2, h3, h4, h5⟩ := hX
      exact ⟨scr, h1, h2, h3, Nat.le_of_eq h4.symm, (by rw [h4]), h5, hA0 b hbl⟩
    · show va_Z "OneLantern" "KIND_ABOVE" "[I" (.ref (ad 1001)) _ s s.heap
      rw [g1]
      exact hZ1
    · show va_T .int (ad 1001) 6 (fun j => .int (kAbove j)) _ s s.heap
      rw [g1]
      exact hT1
    · show va_Z _ _ _ .null _ s s.heap ∨ va_Z _ _ _ (.ref (ad 1002)) _ s s.heap
      rw [g2]
      exact hZ3
    · show vk_R RX0 (txI i) (txS i) (ad (1000 + (1000 + i))) s
      rw [g3 i hi]
      refine vk_R.of (A := #[Value.ref b]) ?_ (hT9 i hi)
      rcases (show i = 0 ∨ i = 1 ∨ i = 2 ∨ i = 3 ∨ i = 4 ∨ i = 5 ∨ i = 6 ∨ i = 7 ∨ i = 8 ∨ i = 9 ∨ i = 10 ∨ i = 11 ∨ i = 12 by omega) with rfl | rfl | rfl | rfl | rfl | rfl | rfl | rfl | rfl | rfl | rfl | rfl | rfl
      · exact hts (.stringRef RX0 137 "walker") (mT (tb2 205 rfl))
      · exact hts (.stringRef RX0 139 "tall") (mT (tb2 206 rfl))
      · exact hts (.stringRef RX0 141 "child") (mT (tb2 207 rfl))
      · exact hts (.stringRef RX0 143 "guide") (mT (tb2 208 rfl))
      · exact hts (.stringRef RX0 145 "porter") (mT (tb2 209 rfl))
      · exact hts (.stringRef RX0 147 "sleepy") (mT (tb2 210 rfl))
      · exact hts (.stringRef RX0 149 "nerve") (mT (tb2 211 rfl))
      · exact hts (.stringRef RX0 151 "root") (mT (tb2 212 rfl))
      · exact hts (.stringRef RX0 153 "clear") (mT (tb2 213 rfl))
      · exact hts (.stringRef RX0 155 "lantern") (mT (tb2 214 rfl))
      · exact hts (.stringRef RX0 156 "bright") (mT (tb2 215 rfl))
      · exact hts (.stringRef RX0 157 "swap") (mT (tb2 216 rfl))
      · exact hts (.stringRef RX0 159 "") (mT (tb2 217 rfl))
    · have h9 := hS9.1 i hi
      rw [← g3 i hi, ← g4 i hi] at h9
      exact h9
    · have e9 : ad (1000 + (1000 + i)) = ad (1000 + (1000 + j)) := eij
      rw [g3 i hi, g3 j hj] at e9
      exact hS9.2 i j hi hj e9
  have hl := lv_entry ([.ref b]) (n := 4) (Nat.le_of_ble_eq_true rfl)
  rw [lg_entry_eq]
  refine law_start (X := (L, xs)) hL p l e room_1 s m #[Value.ref b] below meth c 0 0 (lw_Z below #[Value.ref b] s) ad (dC, dI) cs (fun q : Nat => s.heap.size ≤ q) s.heap [] _ ⟨hx, hb, hml, hown, fun w hw => hts w (List.mem_filter.mp hw).1, fun w hw => ?_, ⟨by decide, by decide⟩, ⟨by decide, by decide⟩, hK, hE, fun _ h => h, hAO, fun h => absurd h (by decide), by decide, ?_⟩ ⟨fun k q h => (by cases h), ⟨fun i j p q h => (by cases h), fun k q h => (by cases h)⟩, va_S.rf⟩ ⟨hl.1, hl.2.1, fun i v hi => ?_⟩
  · have h1 := (List.mem_filter.mp hw).2
    have h2 := hts w (List.mem_filter.mp hw).1
    cases w with
    | fieldLinkNest a i b n d h => exact va_Nw.of rfl h2
    | methodLinkNest a i x h => exact va_Nw.of rfl h2
    | _ => cases h1
  · intro ad' H locs pc ls ins h' _ _ _ _ hS2 hret hdec
    rcases hret with ⟨rfl, v, ty, hv, hty, -⟩ | ⟨-, v, hv, -⟩ | ⟨-, hv, -⟩ | ⟨-, a, nm, hv, -⟩
    · exact va_forget (fun q hq => hS2.2.2 q hq) (W.widen (k := 600000) (n := 7302250) (Nat.le_of_ble_eq_true rfl) (Nat.le_of_ble_eq_true rfl) (lw_ret hx hb hr hlocks hdec))
    · cases hv
    · cases hv
    · cases hv
  · have h0 := hl.2.2 (0, .ref b) List.mem_cons_self
    match i, hi with
    | 0, hi =>
      cases hi
      show _ = some (Slot.val (.ref (ad 1000)))
      rw [g0]
      exact h0
    | 1, hi => cases hi
    | 2, hi => cases hi
    | 3, hi => cases hi
    | i + 4, hi => cases hi
