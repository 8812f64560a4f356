/-! THE WALK OVER PURE STATES. A state of a method is pc, locals, operand stack and a heap, a list of cells at places 0, 1, ..; references are places. 'Run' says: from here the method returns rv and leaves the heap h2. 'Spec': a method's contract in these words. -/
abbrev Mt : Type := MethodName × ByteArray × Nat × Option FieldType
abbrev AE : Type := (Nat × vp_A) ⊕ (Nat × List Value)
abbrev AH : Type := List AE
abbrev SX : Type := Nat × (Nat → Int32)
def cv (ad : Nat → Nat) : Value → Value
  | .ref k => .ref (ad k)
  | v => v
def cA (ad : Nat → Nat) : vp_A → vp_A
  | (n, .inr (.inr (.inr (.inr f)))) => (n, .inr (.inr (.inr (.inr (fun i => (f i).map ad)))))
  | a => a
def cE (cs : Nat → ClassId) (ad : Nat → Nat) : AE → va_E
  | .inl (τ, a) => .inl (cs τ, cA ad a)
  | .inr (ci, fs) => .inr (ci, fs.map (cv ad))
def wcF (cs : Nat → ClassId) (ad : Nat → Nat) : Nat → AH → va_W
  | _, [] => []
  | k, e :: t => (ad k, cE cs ad e) :: wcF cs ad (k + 1) t
def wc (cs : Nat → ClassId) (ad : Nat → Nat) (h : AH) : va_W := wcF cs ad 0 h
theorem wcF_get (cs : Nat → ClassId) (ad : Nat → Nat) : ∀ (h : AH) (j k : Nat), (wcF cs ad j h)[k]? = (h[k]?).map (fun e => (ad (j + k), cE cs ad e))
  | [], j, k => by simp [wcF]
  | e :: t, j, 0 => by simp [wcF]
  | e :: t, j, k + 1 => by
    have ih := wcF_get cs ad t (j + 1) k
    rw [wcF, List.getElem?_cons_succ, List.getElem?_cons_succ, ih, show j + 1 + k = j + (k + 1) by omega]
theorem wc_get (cs : Nat → ClassId) (ad : Nat → Nat) (h : AH) (k : Nat) : (wc cs ad h)[k]? = (h[k]?).map (fun e => (ad k, cE cs ad e)) := by
  rw [wc, wcF_get, Nat.zero_add]
theorem wc_at {cs : Nat → ClassId} {ad : Nat → Nat} {h : AH} {k : Nat} {e : AE} (hk : h[k]? = some e) : (wc cs ad h)[k]? = some (ad k, cE cs ad e) := by rw [wc_get, hk]; rfl
theorem wc_len (cs : Nat → ClassId) (ad : Nat → Nat) (h : AH) : (wc cs ad h).length = h.length := by
  have key : ∀ (h : AH) (j : Nat), (wcF cs ad j h).length = h.length := by
    intro h
    induction h with
    | nil => intro j; rfl
    | cons e t ih => intro j; simp [wcF, ih]
  exact key h 0
theorem wc_set (cs : Nat → ClassId) (ad : Nat → Nat) (h : AH) (k : Nat) (e : AE) : (wc cs ad h).set k (ad k, cE cs ad e) = wc cs ad (h.set k e) := by
  apply List.ext_getElem?
  intro j
  rw [wc_get, List.getElem?_set, List.getElem?_set, wc_len]
  by_cases q : k = j
  · subst q
    by_cases q2 : k < h.length
    · simp [q2]
    · simp [q2]
  · simp only [if_neg q]
    rw [wc_get]
/-- two heaps of as many cells lie at the same addresses -/
theorem wc_D {cs : Nat → ClassId} {ad : Nat → Nat} {A : Nat → Prop} {h h2 : AH} (hD : va_D A (wc cs ad h)) (hl : h2.length = h.length) : va_D A (wc cs ad h2) := by
  have key : ∀ (k : Nat) (q : Nat × va_E), (wc cs ad h2)[k]? = some q → ∃ e, (wc cs ad h)[k]? = some (q.1, e) := by
    intro k q hq
    have hk : k < h.length := by
      have := (List.getElem?_eq_some_iff.mp hq).1
      rw [wc_len] at this
      omega
    have h1 : h[k]? = some h[k] := List.getElem?_eq_getElem hk
    rw [wc_get] at hq
    cases h3 : h2[k]? with
    | none => rw [h3] at hq; cases hq
    | some e2 =>
      rw [h3] at hq
      cases hq
      exact ⟨_, wc_at h1⟩
  refine ⟨fun i j x y hi hj hxy => ?_, fun k q hk => ?_⟩
  · obtain ⟨e1, h1⟩ := key i x hi
    obtain ⟨e2, h2⟩ := key j y hj
    exact hD.1 i j _ _ h1 h2 hxy
  · obtain ⟨e1, h1⟩ := key k q hk
    exact hD.2 k (q.1, e1) h1
def tys (cs : Nat → ClassId) : List (ClassId × FieldType) := [(cs 0, .int), (cs 1, .long), (cs 2, .byte), (cs 3, .object "OneLantern$Sheet")]
/-- the tables' words that every call keeps; those on nest mates -/
def gT : List Cond := lw_tbl.filter goodWord
def isNest : Cond → Bool
  | .fieldLinkNest .. => true
  | .methodLinkNest .. => true
  | _ => false
def nT : List Cond := lw_tbl.filter isNest
theorem gT_mem {w : Cond} (h : w ∈ tables_1) (hg : goodWord w = true) : w ∈ gT := List.mem_filter.mpr ⟨List.mem_append_right _ h, hg⟩
theorem gT_sel {w : Cond} (h : w ∈ k2_sels lw_privs) (hg : goodWord w = true) : w ∈ gT := List.mem_filter.mpr ⟨List.mem_append_left _ h, hg⟩
theorem nT_mem {w : Cond} (h : w ∈ tables_1) (hg : isNest w = true) : w ∈ nT := List.mem_filter.mpr ⟨List.mem_append_right _ h, hg⟩
theorem tb1 {w : Cond} (i : Nat) (h : tables_1_1[i]? = some w) : w ∈ tables_1 := List.mem_append_left _ (List.mem_of_getElem? h)
theorem tb2 {w : Cond} (i : Nat) (h : tables_1_2[i]? = some w) : w ∈ tables_1 := List.mem_append_right _ (List.mem_append_left _ (List.mem_of_getElem? h))
theorem tb3 {w : Cond} (i : Nat) (h : tables_1_3[i]? = some w) : w ∈ tables_1 := List.mem_append_right _ (List.mem_append_right _ (List.mem_append_left _ (List.mem_of_getElem? h)))
theorem tb4 {w : Cond} (i : Nat) (h : tables_1_4[i]? = some w) : w ∈ tables_1 := List.mem_append_right _ (List.mem_append_right _ (List.mem_append_right _ (List.mem_append_left _ (List.mem_of_getElem? h))))
theorem tb5 {w : Cond} (i : Nat) (h : tables_1_5[i]? = some w) : w ∈ tables_1 := List.mem_append_right _ (List.mem_append_right _ (List.mem_append_right _ (List.mem_append_right _ (List.mem_of_getElem? h))))
theorem gT_good : ∀ w ∈ gT, ((w.onTables && w.keeps) = true ∨ ∃ ty, w = .arrayClass ty) := fun w hw => good_of_word (List.mem_filter.mp hw).2
def Nst (U : State) : Prop := ∀ w ∈ nT, va_Nw w U
theorem Nst.warm {s U : State} (hW : s.WarmedH U.vm) (h : Nst s) : Nst U := by
  intro w hw
  have h1 := h w hw
  have h2 := (List.mem_filter.mp hw).2
  cases w with
  | fieldLinkNest a i b n d h => exact va_Nw.warmF hW h1
  | methodLinkNest a i x h => exact va_Nw.warmM hW h1
  | _ => cases h2
theorem Nst.same {s U : State} (hv : s.vm = U.vm) (h : Nst s) : Nst U := by
  intro w hw
  have h1 := h w hw
  have h2 := (List.mem_filter.mp hw).2
  cases w with
  | fieldLinkNest a i b n d h => exact va_Nw.same rfl hv h1
  | methodLinkNest a i x h => exact va_Nw.same rfl hv h1
  | _ => cases h2
/-- the constants: the script, KIND_ABOVE, the texts' bytes -/
def kAbove : Nat → Int32 := fun k => ([-1, 0, 0, 0, 1, 2] : List Int32).getD k 0
def txI (i : Nat) : Nat := ([137, 139, 141, 143, 145, 147, 149, 151, 153, 155, 156, 157, 159] : List Nat).getD i 0
def txS (i : Nat) : String := (["walker", "tall", "child", "guide", "porter", "sleepy", "nerve", "root", "clear", "lantern", "bright", "swap", ""] : List String).getD i ""
def txL : List Nat := [6, 4, 5, 5, 6, 6, 5, 4, 5, 7, 6, 4, 0]
def txB : List (List Int32) := [[119, 97, 108, 107, 101, 114], [116, 97, 108, 108], [99, 104, 105, 108, 100], [103, 117, 105, 100, 101], [112, 111, 114, 116, 101, 114], [115, 108, 101, 101, 112, 121], [110, 101, 114, 118, 101], [114, 111, 111, 116], [99, 108, 101, 97, 114], [108, 97, 110, 116, 101, 114, 110], [98, 114, 105, 103, 104, 116], [115, 119, 97, 112], []]
/-- the formatter of a wrong index: null, or the object at the place 2 -/
def fmt (ae : Nat → Nat) (A : Nat → Prop) (U : State) (H : Heap) : Prop := va_Z "jdk/internal/util/Preconditions" "SIOOBE_FORMATTER" "Ljava/util/function/BiFunction;" .null A U H ∨ va_Z "jdk/internal/util/Preconditions" "SIOOBE_FORMATTER" "Ljava/util/function/BiFunction;" (.ref (ae 2)) A U H
theorem fmt.moved {ae : Nat → Nat} {A : Nat → Prop} {u U : State} {H : Heap} (hvm : u.vm.Alike U.vm) (h : fmt ae A u H) : fmt ae A U H := h.imp (va_Z.moved hvm) (va_Z.moved hvm)
theorem fmt.kept {ae : Nat → Nat} {A : Nat → Prop} {U : State} {H H1 : Heap} (h : fmt ae A U H) (hq : ∀ a : Nat, a < H.size → ¬ A a → H1[a]? = H[a]?) : fmt ae A U H1 := h.imp (fun z => z.kept hq) (fun z => z.kept hq)
theorem fmt.narrow {ae : Nat → Nat} {A B : Nat → Prop} {U : State} {H : Heap} (h : fmt ae A U H) (hAB : ∀ q, B q → A q) : fmt ae B U H := h.imp (fun z => z.narrow hAB) (fun z => z.narrow hAB)
/-- what holds of the constants: ae k is the address of the constant k (0: the script, 1: KIND_ABOVE, 1000 and on: the texts, 2000 and on: their bytes) -/
def Ev (X : SX) (ae : Nat → Nat) (A : Nat → Prop) (U : State) (H : Heap) : Prop :=
  va_T .int (ae 0) X.1 (fun j => .int (X.2 j)) A U H ∧
  va_Z "OneLantern" "KIND_ABOVE" "[I" (.ref (ae 1)) A U H ∧ va_T .int (ae 1) 6 (fun j => .int (kAbove j)) A U H ∧
  va_Z "java/lang/String" "COMPACT_STRINGS" "Z" (.int 1) A U H ∧ fmt ae A U H ∧
  (∀ i : Nat, i < 13 → vk_R RX0 (txI i) (txS i) (ae (1000 + i)) U) ∧ vk_S 13 txL txB (fun i => ae (1000 + i)) (fun i => ae (2000 + i)) A U H
theorem Ev.to {X : SX} {ae : Nat → Nat} {A B : Nat → Prop} {s U : State} {H : Heap} {locs : List Loc} (h : Ev X ae A s s.heap) (hW : s.WarmedH U.vm) (hU : U.heap = H) (hS : va_S A s.heap H locs) (hAB : ∀ q, B q → A q) : Ev X ae B U U.heap := by
  obtain ⟨h1, h2, h3, h4, h5, h6, h7⟩ := h
  rw [hU]
  have ha := hW.alike
  exact ⟨((h1.kept hS.2.1).narrow hAB).moved ha, ((h2.kept hS.2.1).narrow hAB).moved ha, ((h3.kept hS.2.1).narrow hAB).moved ha, ((h4.kept hS.2.1).narrow hAB).moved ha, ((h5.kept hS.2.1).narrow hAB).moved ha, fun i hi => (h6 i hi).warm hW, ((h7.kept hS.2.1).narrow hAB).moved ha⟩
theorem Ev.same {X : SX} {ae : Nat → Nat} {A : Nat → Prop} {s U : State} (h : Ev X ae A s s.heap) (hv : U.vm = s.vm) (hh : U.heap = s.heap) : Ev X ae A U U.heap := by
  obtain ⟨h1, h2, h3, h4, h5, h6, h7⟩ := h
  have ha : s.vm.Alike U.vm := by rw [hv]; exact Vm.Alike.refl s.vm
  rw [hh]
  exact ⟨h1.moved ha, h2.moved ha, h3.moved ha, h4.moved ha, h5.moved ha, fun i hi => (h6 i hi).same hv, h7.moved ha⟩
/-! locals by their places; none: unknown -/
def LH (ad : Nat → Nat) (ls : Array Slot) (nL : Nat) (lv : List (Option Value)) : Prop := ls.size = nL ∧ lv_wf ls ∧ ∀ (i : Nat) (v : Value), lv[i]? = some (some v) → ls[i]? = some (.val (cv ad v))
def lvl (ad : Nat → Nat) (lv : List (Option Value)) : List (Nat × Value) := (List.range lv.length).filterMap (fun i => match lv[i]? with
  | some (some v) => some (i, cv ad v)
  | _ => none)
theorem lvl_mem {ad : Nat → Nat} {lv : List (Option Value)} {i : Nat} {v : Value} (h : lv[i]? = some (some v)) : (i, cv ad v) ∈ lvl ad lv := by
  refine List.mem_filterMap.mpr ⟨i, List.mem_range.mpr (List.getElem?_eq_some_iff.mp h).1, ?_⟩
  rw [h]
theorem lvl_of {ad : Nat → Nat} {lv : List (Option Value)} {q : Nat × Value} (h : q ∈ lvl ad lv) : ∃ v, lv[q.1]? = some (some v) ∧ q.2 = cv ad v := by
  obtain ⟨i, -, hi⟩ := List.mem_filterMap.mp h
  split at hi
  · rename_i v hv
    cases hi
    exact ⟨v, hv, rfl⟩
  · cases hi
theorem LH.has {ad : Nat → Nat} {ls : Array Slot} {nL : Nat} {lv : List (Option Value)} (h : LH ad ls nL lv) : lv_has ls nL (lvl ad lv) := by
  refine ⟨h.1, h.2.1, fun q hq => ?_⟩
  obtain ⟨v, h1, h2⟩ := lvl_of hq
  rw [h2]
  exact h.2.2 q.1 v h1
def lgAt (lv : List (Option Value)) (i : Nat) : Bool := match lv[i]? with
  | some (some (.long _)) => true
  | some (some (.double _)) => true
  | _ => false
theorem cv_cat (ad : Nat → Nat) (v : Value) : (cv ad v).category = v.category := by cases v <;> rfl
theorem lgAt_cat {lv : List (Option Value)} {i : Nat} {v : Value} (h : lv[i]? = some (some v)) (hc : v.category = 2) : lgAt lv i = true := by
  unfold lgAt
  rw [h]
  cases v <;> first | rfl | cases hc
def st1 (lv : List (Option Value)) (i : Nat) (v : Value) : List (Option Value) := match i with
  | 0 => lv.set 0 (some v)
  | j + 1 => match lgAt lv j with
    | true => (lv.set j none).set (j + 1) (some v)
    | false => lv.set (j + 1) (some v)
def st2 (lv : List (Option Value)) (i : Nat) (v : Value) : List (Option Value) := (st1 lv i v).set (i + 1) none
theorem st1_get {lv : List (Option Value)} {i j : Nat} {v w : Value} (h : (st1 lv i v)[j]? = some (some w)) : (j = i ∧ w = v) ∨ (j ≠ i ∧ lv[j]? = some (some w) ∧ ¬ (j + 1 = i ∧ w.category = 2)) := by
  by_cases hji : j = i
  · refine Or.inl ⟨hji, ?_⟩
    subst hji
    cases j with
    | zero =>
      simp only [st1, List.getElem?_set] at h
      split at h
      · split at h
        · cases h; rfl
        · cases h
      · rename_i q; exact absurd trivial q
    | succ j =>
      simp only [st1] at h
      split at h <;>
      · simp only [List.getElem?_set] at h
        split at h
        · split at h
          · cases h; rfl
          · cases h
        · rename_i q; exact absurd trivial q
  · refine Or.inr ⟨hji, ?_⟩
    cases i with
    | zero =>
      simp only [st1] at h
      rw [List.getElem?_set_ne (Ne.symm hji)] at h
      exact ⟨h, fun q => by omega⟩
    | succ i =>
      simp only [st1] at h
      split at h
      · rw [List.getElem?_set_ne (Ne.symm hji)] at h
        by_cases q : i = j
        · subst q
          rw [List.getElem?_set] at h
          simp only [if_true] at h
          split at h <;> cases h
        · rw [List.getElem?_set_ne q] at h
          exact ⟨h, fun z => q (by omega)⟩
      · rename_i hl
        rw [List.getElem?_set_ne (Ne.symm hji)] at h
        refine ⟨h, fun z => ?_⟩
        have e : j = i := by omega
        subst e
        rw [lgAt_cat h z.2] at hl
        cases hl
theorem LH_st1 {ad : Nat → Nat} {ls : Array Slot} {nL : Nat} {lv : List (Option Value)} {i : Nat} {v : Value} (h : lv_has ls nL ((i, cv ad v) :: (lvl ad lv).filter (fun q => !(q.1 == i) && !(q.1 + 1 == i && q.2.category == 2)))) : LH ad ls nL (st1 lv i v) := by
  refine ⟨h.1, h.2.1, fun j w hj => ?_⟩
  rcases st1_get hj with ⟨rfl, rfl⟩ | ⟨h1, h2, h3⟩
  · exact h.2.2 _ List.mem_cons_self
  · refine h.2.2 (j, cv ad w) (List.mem_cons_of_mem _ (List.mem_filter.mpr ⟨lvl_mem h2, ?_⟩))
    have e1 : (j == i) = false := by simpa using h1
    by_cases q : j + 1 = i
    · have e2 : ¬ (cv ad w).category = 2 := fun z => h3 ⟨q, by rw [← cv_cat ad]; exact z⟩
      simp [e1, e2]
    · simp [e1, q]
theorem LH_st2 {ad : Nat → Nat} {ls : Array Slot} {nL : Nat} {lv : List (Option Value)} {i : Nat} {v : Value} (h : lv_has ls nL ((i, cv ad v) :: (lvl ad lv).filter (fun q => !(q.1 == i) && (!(q.1 == i + 1) && !(q.1 + 1 == i && q.2.category == 2))))) : LH ad ls nL (st2 lv i v) := by
  refine ⟨h.1, h.2.1, fun j w hj => ?_⟩
  unfold st2 at hj
  by_cases q0 : i + 1 = j
  · subst q0
    rw [List.getElem?_set] at hj
    simp only [if_true] at hj
    split at hj <;> cases hj
  · rw [List.getElem?_set_ne q0] at hj
    rcases st1_get hj with ⟨rfl, rfl⟩ | ⟨h1, h2, h3⟩
    · exact h.2.2 _ List.mem_cons_self
    · refine h.2.2 (j, cv ad w) (List.mem_cons_of_mem _ (List.mem_filter.mpr ⟨lvl_mem h2, ?_⟩))
      have e1 : (j == i) = false := by simpa using h1
      have e3 : (j == i + 1) = false := by simpa using (Ne.symm q0)
      by_cases q : j + 1 = i
      · have e2 : ¬ (cv ad w).category = 2 := fun z => h3 ⟨q, by rw [← cv_cat ad]; exact z⟩
        simp [e1, e2, e3]
      · simp [e1, q, e3]
/-- how a method may come back with rv -/
def RetI (ret : Option FieldType) (ins : Instr) (rv : Option Value) : Prop :=
  (ins = .ireturn ∧ ∃ (v : Int32) (ty : FieldType), rv = some (.int v) ∧ ret = some ty ∧ narrow ty (.int v) = .int v) ∨ (ins = .lreturn ∧ ∃ v : Int64, rv = some (.long v) ∧ ret = some .long) ∨
  (ins = .return_ ∧ rv = none ∧ ret = none) ∨ (ins = .areturn ∧ ∃ (a : Nat) (n : String), rv = some (.ref a) ∧ ret = some (.object n))
def Cx (X : SX) (d : Nat) (M : Mt) (rv : Option Value) (Q : AH → Prop) (p : Program) (l : Launch) (e : Env) (R : Room) (s : State) (m : MethodId) (args : Array Value) (below : List Frame) (meth : Method) (c : Code) (cells slots : Nat) (Z : State → Prop) (ad : Nat → Nat) (D : va_G) (cs : Nat → ClassId) (A : Nat → Prop) : Prop :=
  p.tables.exec = Jvm.exec ∧ c.code = M.2.1 ∧ c.maxLocals = M.2.2.1 ∧ s.vm.findClass M.1.cls = some m.cls ∧ (∀ w ∈ gT, w.before args s = true) ∧ Nst s ∧ (d ≤ R.frames ∧ 30 * d ≤ R.locals) ∧ (cells ≤ R.cells ∧ slots ≤ R.slots) ∧ va_K D vwCl (tys cs) s ∧ Ev X (fun k => ad (1000 + k)) A s s.heap ∧ (∀ q : Nat, s.heap.size ≤ q → A q) ∧
  (∀ (H : Heap) (locs : List Loc) (pc : Nat) (ls : Array Slot) (ins : Instr) (h' : AH), Q h' → va_P D vwCl (wc cs ad h') H → va_D A (wc cs ad h') → va_S A s.heap H locs → RetI M.2.2.2 ins rv → decode M.2.1 pc = .ok (ins, 1) → W p l e R s m args below meth c H locs cells slots Z (F0 m pc ls (rv.map (cv ad)).toList))
def Wd (h : AH) (s : State) (ad : Nat → Nat) (D : va_G) (cs : Nat → ClassId) (A : Nat → Prop) (H : Heap) (locs : List Loc) : Prop := va_P D vwCl (wc cs ad h) H ∧ va_D A (wc cs ad h) ∧ va_S A s.heap H locs
/-- from here the method returns rv and leaves a heap of which Q holds -/
def RunQ (X : SX) (d : Nat) (M : Mt) (pc : Nat) (lv : List (Option Value)) (st : List Value) (h : AH) (rv : Option Value) (Q : AH → Prop) : Prop :=
  ∀ (p : Program) (l : Launch) (e : Env) (R : Room) (s : State) (m : MethodId) (args : Array Value) (below : List Frame) (meth : Method) (c : Code) (cells slots : Nat) (Z : State → Prop) (ad : Nat → Nat) (D : va_G) (cs : Nat → ClassId) (A : Nat → Prop) (H : Heap) (locs : List Loc) (ls : Array Slot),
    Cx X d M rv Q p l e R s m args below meth c cells slots Z ad D cs A → Wd h s ad D cs A H locs → LH ad ls M.2.2.1 lv → W p l e R s m args below meth c H locs cells slots Z (F0 m pc ls (st.map (cv ad)))
/-- a method's contract: from the heap h it returns rv and leaves one of which Q holds -/
def PW (X : SX) (D : va_G) (cs : Nat → ClassId) (ad : Nat → Nat) (h : AH) (sz : Nat) (U : State) : Prop :=
  U.heap.size = sz ∧ va_P D vwCl (wc cs ad h) U.heap ∧ va_K D vwCl (tys cs) U ∧ va_D (fun _ => True) (wc cs ad h) ∧ Nst U ∧ Ev X (fun k => ad (1000 + k)) (va_A (wc cs ad h) sz) U U.heap
def PQ (D : va_G) (cs : Nat → ClassId) (ad : Nat → Nat) (h : AH) (sz : Nat) (rv : Option Value) (Q : AH → Prop) : Array Value → State → Outcome → State → Prop := fun _ st oc t =>
  oc = .returned (rv.map (cv ad)) ∧ (∃ h', Q h' ∧ va_P D vwCl (wc cs ad h') t.heap ∧ h'.length = h.length) ∧ va_F (va_A (wc cs ad h) sz) st t
def SpQ (d : Nat) (M : Mt) (as : List Value) (h : AH) (rv : Option Value) (Q : AH → Prop) : Prop :=
  ∀ (X : SX) (l : Launch) (D : va_G) (cs : Nat → ClassId) (ad : Nat → Nat) (sz : Nat),
    Met l M.1 (Cond.code M.1 M.2.1 M.2.2.1 M.2.2.2 :: gT) { frames := d, cells := 0, slots := 0, locals := 30 * d } (va_Pc (as.map (cv ad)) (PW X D cs ad h sz)) (PQ D cs ad h sz rv Q) 0 0 (va_A (wc cs ad h) sz)
/-! cells that look alike -/
/-- two cells that the machine can't tell apart: arrays that differ beyond their ends -/
def CE (e e' : AE) : Prop := ∀ (cs : Nat → ClassId) (ad : Nat → Nat) (D : va_G) (q : Nat) (H : Heap), va_at D vwCl (q, cE cs ad e) H ↔ va_at D vwCl (q, cE cs ad e') H
theorem CE.rf {e : AE} : CE e e := fun _ _ _ _ _ => Iff.rfl
theorem CE.of {e e' : AE} (h : e = e') : CE e e' := h ▸ CE.rf
theorem arrV_ext {cA : ClassId} {n : Nat} {F G : Nat → Value} (h : ∀ i, i < n → F i = G i) : arrV cA n F = arrV cA n G := by
  have e9 : (arrV cA n F).slots = (arrV cA n G).slots := by
    apply Array.ext_getElem?
    intro i
    rcases Nat.lt_or_ge i n with q | q
    · rw [arrV_read _ _ q, arrV_read _ _ q, h i q]
    · have h1 : (arrV cA n F).slots.size ≤ i := by rw [arrV_size]; exact q
      have h2 : (arrV cA n G).slots.size ≤ i := by rw [arrV_size]; exact q
      rw [Array.getElem?_eq_none h1, Array.getElem?_eq_none h2]
  have e8 : ∀ K : Nat → Value, arrV cA n K = { cls := cA, slots := (arrV cA n K).slots, vm := .none } := fun K => rfl
  rw [e8 F, e8 G, e9]
theorem CE.ints {τ n : Nat} {f g : Nat → Int32} (h : ∀ i, i < n → f i = g i) : CE (.inl (τ, n, .inl f)) (.inl (τ, n, .inl g)) := by
  intro cs ad D q H
  show H[q]? = some (vp_cell (cs τ) (n, .inl f)) ↔ H[q]? = some (vp_cell (cs τ) (n, .inl g))
  have e9 : vp_cell (cs τ) (n, .inl f) = vp_cell (cs τ) (n, .inl g) := arrV_ext (F := fun j => .int (f j)) (G := fun j => .int (g j)) (fun i hi => by rw [h i hi])
  rw [e9]
theorem CE.longs {τ n : Nat} {f g : Nat → Int64} (h : ∀ i, i < n → f i = g i) : CE (.inl (τ, n, .inr (.inl f))) (.inl (τ, n, .inr (.inl g))) := by
  intro cs ad D q H
  show H[q]? = some (vp_cell (cs τ) (n, .inr (.inl f))) ↔ H[q]? = some (vp_cell (cs τ) (n, .inr (.inl g)))
  have e9 : vp_cell (cs τ) (n, .inr (.inl f)) = vp_cell (cs τ) (n, .inr (.inl g)) := arrV_ext (F := fun j => .long (f j)) (G := fun j => .long (g j)) (fun i hi => by rw [h i hi])
  rw [e9]
def HE : AH → AH → Prop
  | [], [] => True
  | e :: t, e' :: t' => CE e e' ∧ HE t t'
  | _, _ => False
theorem HE.rf : ∀ {h : AH}, HE h h
  | [] => trivial
  | _ :: _ => ⟨CE.rf, HE.rf⟩
theorem HE.of {h h' : AH} (e : h = h') : HE h h' := e ▸ HE.rf
theorem HE.get : ∀ {h h' : AH}, HE h h' → ∀ (k : Nat) (e' : AE), h'[k]? = some e' → ∃ e, h[k]? = some e ∧ CE e e'
  | [], [], _, k, e', hk => by simp at hk
  | e :: t, e2 :: t', hh, 0, e', hk => ⟨e, rfl, by cases hk; exact hh.1⟩
  | e :: t, e2 :: t', hh, k + 1, e', hk => HE.get hh.2 k e' hk
theorem HE.len : ∀ {h h' : AH}, HE h h' → h'.length = h.length
  | [], [], _ => rfl
  | e :: t, e2 :: t', hh => congrArg (· + 1) (HE.len hh.2)
theorem HE.P {h h' : AH} {cs : Nat → ClassId} {ad : Nat → Nat} {D : va_G} {H : Heap} (hh : HE h h') (hP : va_P D vwCl (wc cs ad h) H) : va_P D vwCl (wc cs ad h') H := by
  intro k q hq
  rw [wc_get] at hq
  cases h3 : h'[k]? with
  | none => rw [h3] at hq; cases hq
  | some e2 =>
    rw [h3] at hq
    cases hq
    obtain ⟨e1, g1, g2⟩ := hh.get k e2 h3
    exact (g2 cs ad D (ad k) H).mp (hP k _ (wc_at g1))
/-- the same with the heap said: it leaves h2 -/
abbrev Run (X : SX) (d : Nat) (M : Mt) (pc : Nat) (lv : List (Option Value)) (st : List Value) (h : AH) (rv : Option Value) (h2 : AH) : Prop := RunQ X d M pc lv st h rv (fun h' => HE h' h2)
abbrev Sp (d : Nat) (M : Mt) (as : List Value) (h : AH) (rv : Option Value) (h2 : AH) : Prop := SpQ d M as h rv (fun h' => HE h' h2)
