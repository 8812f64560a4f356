/-! methods that make cells: from here nc cells of ns slots come, at the places n and on -/
def AO (U : State) : Prop := va_AO "OneLantern$Sheet" U
/-- addresses that differ at the places n, .., n + nc - 1 alone -/
def agr (n nc : Nat) (ad ad' : Nat → Nat) : Prop := ∀ k, k < n ∨ n + nc ≤ k → ad' k = ad k
def CxN (X : SX) (d : Nat) (M : Mt) (rv : Option Value) (Q : AH → Prop) (n nc ns : Nat) (p : Program) (l : Launch) (e : Env) (R : Room) (s : State) (m : MethodId) (args : Array Value) (below : List Frame) (meth : Method) (c : Code) (cells slots : Nat) (Z : State → Prop) (ad : Nat → Nat) (D : va_G) (cs : Nat → ClassId) (A : Nat → Prop) : Prop :=
  p.tables.exec = Jvm.exec ∧ c.code = M.2.1 ∧ c.maxLocals = M.2.2.1 ∧ s.vm.findClass M.1.cls = some m.cls ∧ (∀ w ∈ gT, w.before args s = true) ∧ Nst s ∧ (d ≤ R.frames ∧ 30 * d ≤ R.locals) ∧ (cells + nc ≤ R.cells ∧ slots + ns ≤ R.slots) ∧ va_K D vwCl (tys cs) s ∧ Ev X (fun k => ad (1000 + k)) A s s.heap ∧ (∀ q : Nat, s.heap.size ≤ q → A q) ∧
  (AO s ∧ (M.1.name = "<init>" → meth.name = "<init>") ∧ n + nc ≤ 1000 ∧
  (∀ (ad' : Nat → Nat) (H : Heap) (locs : List Loc) (pc : Nat) (ls : Array Slot) (ins : Instr) (h' : AH), agr n nc ad ad' → Q h' → va_P D vwCl (wc cs ad' h') H → va_D A (wc cs ad' h') → va_S A s.heap H locs → RetI M.2.2.2 ins rv → decode M.2.1 pc = .ok (ins, 1) → W p l e R s m args below meth c H locs (cells + nc) (slots + ns) Z (F0 m pc ls (rv.map (cv ad')).toList)))
def RunN (X : SX) (d : Nat) (M : Mt) (n nc ns : Nat) (pc : Nat) (lv : List (Option Value)) (st : List Value) (h : AH) (rv : Option Value) (Q : AH → Prop) : Prop :=
  ∀ (p : Program) (l : Launch) (e : Env) (R : Room) (s : State) (m : MethodId) (args : Array Value) (below : List Frame) (meth : Method) (c : Code) (cells slots : Nat) (Z : State → Prop) (ad : Nat → Nat) (D : va_G) (cs : Nat → ClassId) (A : Nat → Prop) (H : Heap) (locs : List Loc) (ls : Array Slot),
    CxN X d M rv Q n nc ns p l e R s m args below meth c cells slots Z ad D cs A → Wd h s ad D cs A H locs → LH ad ls M.2.2.1 lv → W p l e R s m args below meth c H locs cells slots Z (F0 m pc ls (st.map (cv ad)))

theorem n_iconst {X : SX} {d : Nat} {M : Mt} {pc : Nat} {lv : List (Option Value)} {st : List Value} {h : AH} {rv : Option Value} {Q : AH → Prop} {u9 c9 s9 : Nat} {n : Int} {v : Int32} (hd : decode M.2.1 pc = .ok (.iconst n, 1)) (hv : Int32.ofInt n = v) (k : RunN X d M u9 c9 s9 (pc + 1) lv (.int v :: st) h rv Q) : RunN X d M u9 c9 s9 (pc) lv (st) h rv Q := by
  intro p l e R s m args below meth c cells slots Z ad D cs A H locs ls C w hl
  obtain ⟨hx, hb, hml, hown, hts, hN, hR, hcs, hK, hE, hA, hend⟩ := id C
  exact lv_iconst hx hb hd hv (k p l e R s m args below meth c cells slots Z ad D cs A H locs ls C w hl)

theorem n_bipush {X : SX} {d : Nat} {M : Mt} {pc : Nat} {lv : List (Option Value)} {st : List Value} {h : AH} {rv : Option Value} {Q : AH → Prop} {u9 c9 s9 : Nat} {n : Int} {v : Int32} (hd : decode M.2.1 pc = .ok (.bipush n, 2)) (hv : (Int8.ofInt n).toInt32 = v) (k : RunN X d M u9 c9 s9 (pc + 2) lv (.int v :: st) h rv Q) : RunN X d M u9 c9 s9 (pc) lv (st) h rv Q := by
  intro p l e R s m args below meth c cells slots Z ad D cs A H locs ls C w hl
  obtain ⟨hx, hb, hml, hown, hts, hN, hR, hcs, hK, hE, hA, hend⟩ := id C
  exact lv_bipush hx hb hd hv (k p l e R s m args below meth c cells slots Z ad D cs A H locs ls C w hl)

theorem n_sipush {X : SX} {d : Nat} {M : Mt} {pc : Nat} {lv : List (Option Value)} {st : List Value} {h : AH} {rv : Option Value} {Q : AH → Prop} {u9 c9 s9 : Nat} {n : Int} {v : Int32} (hd : decode M.2.1 pc = .ok (.sipush n, 3)) (hv : (Int16.ofInt n).toInt32 = v) (k : RunN X d M u9 c9 s9 (pc + 3) lv (.int v :: st) h rv Q) : RunN X d M u9 c9 s9 (pc) lv (st) h rv Q := by
  intro p l e R s m args below meth c cells slots Z ad D cs A H locs ls C w hl
  obtain ⟨hx, hb, hml, hown, hts, hN, hR, hcs, hK, hE, hA, hend⟩ := id C
  exact lv_sipush hx hb hd hv (k p l e R s m args below meth c cells slots Z ad D cs A H locs ls C w hl)

theorem n_iload_n {X : SX} {d : Nat} {M : Mt} {pc : Nat} {lv : List (Option Value)} {st : List Value} {h : AH} {rv : Option Value} {Q : AH → Prop} {u9 c9 s9 : Nat} {j : Fin 4} {x : Int32} (hd : decode M.2.1 pc = .ok (.iload_n j, 1)) (hv : lv[(j : Nat)]? = some (some (.int x))) (k : RunN X d M u9 c9 s9 (pc + 1) lv (.int x :: st) h rv Q) : RunN X d M u9 c9 s9 (pc) lv (st) h rv Q := by
  intro p l e R s m args below meth c cells slots Z ad D cs A H locs ls C w hl
  obtain ⟨hx, hb, hml, hown, hts, hN, hR, hcs, hK, hE, hA, hend⟩ := id C
  exact lv_iload_n hx hb hd rfl (hl.2.2 _ _ hv) (k p l e R s m args below meth c cells slots Z ad D cs A H locs ls C w hl)

theorem n_aload_n {X : SX} {d : Nat} {M : Mt} {pc : Nat} {lv : List (Option Value)} {st : List Value} {h : AH} {rv : Option Value} {Q : AH → Prop} {u9 c9 s9 : Nat} {j : Fin 4} {x : Nat} (hd : decode M.2.1 pc = .ok (.aload_n j, 1)) (hv : lv[(j : Nat)]? = some (some (.ref x))) (k : RunN X d M u9 c9 s9 (pc + 1) lv (.ref x :: st) h rv Q) : RunN X d M u9 c9 s9 (pc) lv (st) h rv Q := by
  intro p l e R s m args below meth c cells slots Z ad D cs A H locs ls C w hl
  obtain ⟨hx, hb, hml, hown, hts, hN, hR, hcs, hK, hE, hA, hend⟩ := id C
  exact lv_aload_n hx hb hd rfl (hl.2.2 _ _ hv) (k p l e R s m args below meth c cells slots Z ad D cs A H locs ls C w hl)

theorem n_istore_n {X : SX} {d : Nat} {M : Mt} {pc : Nat} {lv : List (Option Value)} {st : List Value} {h : AH} {rv : Option Value} {Q : AH → Prop} {u9 c9 s9 : Nat} {j : Fin 4} {x : Int32} {lv' : List (Option Value)} (hd : decode M.2.1 pc = .ok (.istore_n j, 1)) (hj : (j : Nat) < M.2.2.1) (hv : st1 lv (j : Nat) (.int x) = lv') (k : RunN X d M u9 c9 s9 (pc + 1) lv' (st) h rv Q) : RunN X d M u9 c9 s9 (pc) lv (.int x :: st) h rv Q := by
  intro p l e R s m args below meth c cells slots Z ad D cs A H locs ls C w hl
  obtain ⟨hx, hb, hml, hown, hts, hN, hR, hcs, hK, hE, hA, hend⟩ := id C
  subst hv
  exact lv_istore_n hx hb hd rfl hl.has hj rfl (fun ls' h' => k p l e R s m args below meth c cells slots Z ad D cs A H locs ls' C w (LH_st1 (v := .int x) h'))

theorem n_astore_n {X : SX} {d : Nat} {M : Mt} {pc : Nat} {lv : List (Option Value)} {st : List Value} {h : AH} {rv : Option Value} {Q : AH → Prop} {u9 c9 s9 : Nat} {j : Fin 4} {x : Nat} {lv' : List (Option Value)} (hd : decode M.2.1 pc = .ok (.astore_n j, 1)) (hj : (j : Nat) < M.2.2.1) (hv : st1 lv (j : Nat) (.ref x) = lv') (k : RunN X d M u9 c9 s9 (pc + 1) lv' (st) h rv Q) : RunN X d M u9 c9 s9 (pc) lv (.ref x :: st) h rv Q := by
  intro p l e R s m args below meth c cells slots Z ad D cs A H locs ls C w hl
  obtain ⟨hx, hb, hml, hown, hts, hN, hR, hcs, hK, hE, hA, hend⟩ := id C
  subst hv
  exact lv_astore_n hx hb hd rfl hl.has hj rfl (fun ls' h' => k p l e R s m args below meth c cells slots Z ad D cs A H locs ls' C w (LH_st1 (v := .ref x) h'))

theorem n_iinc {X : SX} {d : Nat} {M : Mt} {pc : Nat} {lv : List (Option Value)} {st : List Value} {h : AH} {rv : Option Value} {Q : AH → Prop} {u9 c9 s9 : Nat} {j : Nat} {n : Int} {x v : Int32} {lv' : List (Option Value)} (hd : decode M.2.1 pc = .ok (.iinc j n, 3)) (hj : j < M.2.2.1) (hx0 : lv[j]? = some (some (.int x))) (hv0 : x + Int32.ofInt n = v) (hv : st1 lv j (.int v) = lv') (k : RunN X d M u9 c9 s9 (pc + 3) lv' (st) h rv Q) : RunN X d M u9 c9 s9 (pc) lv (st) h rv Q := by
  intro p l e R s m args below meth c cells slots Z ad D cs A H locs ls C w hl
  obtain ⟨hx, hb, hml, hown, hts, hN, hR, hcs, hK, hE, hA, hend⟩ := id C
  subst hv
  obtain ⟨kk, hkk⟩ := List.getElem?_of_mem (lvl_mem (ad := ad) hx0)
  exact lv_iinc hx hb hd hl.has (k := kk) hkk hv0 hj rfl (fun ls' h' => k p l e R s m args below meth c cells slots Z ad D cs A H locs ls' C w (LH_st1 (v := .int v) h'))

theorem n_ishl {X : SX} {d : Nat} {M : Mt} {pc : Nat} {lv : List (Option Value)} {st : List Value} {h : AH} {rv : Option Value} {Q : AH → Prop} {u9 c9 s9 : Nat} {x y : Int32} (hd : decode M.2.1 pc = .ok (.ishl, 1)) (k : RunN X d M u9 c9 s9 (pc + 1) lv (.int (x <<< (y &&& 31)) :: st) h rv Q) : RunN X d M u9 c9 s9 (pc) lv (.int y :: .int x :: st) h rv Q := by
  intro p l e R s m args below meth c cells slots Z ad D cs A H locs ls C w hl
  obtain ⟨hx, hb, hml, hown, hts, hN, hR, hcs, hK, hE, hA, hend⟩ := id C
  exact lv_ishl hx hb hd (k p l e R s m args below meth c cells slots Z ad D cs A H locs ls C w hl)

theorem n_ior {X : SX} {d : Nat} {M : Mt} {pc : Nat} {lv : List (Option Value)} {st : List Value} {h : AH} {rv : Option Value} {Q : AH → Prop} {u9 c9 s9 : Nat} {x y : Int32} (hd : decode M.2.1 pc = .ok (.ior, 1)) (k : RunN X d M u9 c9 s9 (pc + 1) lv (.int (x ||| y) :: st) h rv Q) : RunN X d M u9 c9 s9 (pc) lv (.int y :: .int x :: st) h rv Q := by
  intro p l e R s m args below meth c cells slots Z ad D cs A H locs ls C w hl
  obtain ⟨hx, hb, hml, hown, hts, hN, hR, hcs, hK, hE, hA, hend⟩ := id C
  exact lv_ior hx hb hd (k p l e R s m args below meth c cells slots Z ad D cs A H locs ls C w hl)

theorem n_dup {X : SX} {d : Nat} {M : Mt} {pc : Nat} {lv : List (Option Value)} {st : List Value} {h : AH} {rv : Option Value} {Q : AH → Prop} {u9 c9 s9 : Nat} {v : Value} (hd : decode M.2.1 pc = .ok (.dup, 1)) (hv : v.category = 1) (k : RunN X d M u9 c9 s9 (pc + 1) lv (v :: v :: st) h rv Q) : RunN X d M u9 c9 s9 (pc) lv (v :: st) h rv Q := by
  intro p l e R s m args below meth c cells slots Z ad D cs A H locs ls C w hl
  obtain ⟨hx, hb, hml, hown, hts, hN, hR, hcs, hK, hE, hA, hend⟩ := id C
  exact lv_dup hx hb hd ((cv_cat ad v).trans hv) (k p l e R s m args below meth c cells slots Z ad D cs A H locs ls C w hl)

theorem n_dup2 {X : SX} {d : Nat} {M : Mt} {pc : Nat} {lv : List (Option Value)} {st : List Value} {h : AH} {rv : Option Value} {Q : AH → Prop} {u9 c9 s9 : Nat} {v u : Value} (hd : decode M.2.1 pc = .ok (.dup2, 1)) (hv : v.category = 1) (hu : u.category = 1) (k : RunN X d M u9 c9 s9 (pc + 1) lv (v :: u :: v :: u :: st) h rv Q) : RunN X d M u9 c9 s9 (pc) lv (v :: u :: st) h rv Q := by
  intro p l e R s m args below meth c cells slots Z ad D cs A H locs ls C w hl
  obtain ⟨hx, hb, hml, hown, hts, hN, hR, hcs, hK, hE, hA, hend⟩ := id C
  exact lv_dup2_11 hx hb hd ((cv_cat ad v).trans hv) ((cv_cat ad u).trans hu) (k p l e R s m args below meth c cells slots Z ad D cs A H locs ls C w hl)

theorem n_icmp_ge {X : SX} {d : Nat} {M : Mt} {pc : Nat} {lv : List (Option Value)} {st : List Value} {h : AH} {rv : Option Value} {Q : AH → Prop} {u9 c9 s9 : Nat} {x y : Int32} {off : Int} (tgt : Nat) (hd : decode M.2.1 pc = .ok (.if_icmp .ge off, 3)) (ht : (pc : Int) + off = (tgt : Int)) (kt : y ≤ x → RunN X d M u9 c9 s9 (tgt) lv (st) h rv Q) (kf : ¬ y ≤ x → RunN X d M u9 c9 s9 (pc + 3) lv (st) h rv Q) : RunN X d M u9 c9 s9 (pc) lv (.int y :: .int x :: st) h rv Q := by
  intro p l e R s m args below meth c cells slots Z ad D cs A H locs ls C w hl
  obtain ⟨hx, hb, hml, hown, hts, hN, hR, hcs, hK, hE, hA, hend⟩ := id C
  exact lv_icmp_ge hx hb hd ht (fun q => kt q p l e R s m args below meth c cells slots Z ad D cs A H locs ls C w hl) (fun q => kf q p l e R s m args below meth c cells slots Z ad D cs A H locs ls C w hl)

theorem n_goto {X : SX} {d : Nat} {M : Mt} {pc : Nat} {lv : List (Option Value)} {st : List Value} {h : AH} {rv : Option Value} {Q : AH → Prop} {u9 c9 s9 : Nat} {off : Int} (tgt : Nat) (hd : decode M.2.1 pc = .ok (.goto off, 3)) (ht : (pc : Int) + off = (tgt : Int)) (k : RunN X d M u9 c9 s9 (tgt) lv (st) h rv Q) : RunN X d M u9 c9 s9 (pc) lv (st) h rv Q := by
  intro p l e R s m args below meth c cells slots Z ad D cs A H locs ls C w hl
  obtain ⟨hx, hb, hml, hown, hts, hN, hR, hcs, hK, hE, hA, hend⟩ := id C
  exact lv_goto hx hb hd ht (k p l e R s m args below meth c cells slots Z ad D cs A H locs ls C w hl)

theorem n_ldc {X : SX} {d : Nat} {M : Mt} {pc : Nat} {lv : List (Option Value)} {st : List Value} {h : AH} {rv : Option Value} {Q : AH → Prop} {u9 c9 s9 : Nat} {idx : Nat} {v : Int32} (hw : Cond.constant M.1.cls idx v ∈ gT) (hd : decode M.2.1 pc = .ok (.ldc idx, 2)) (k : RunN X d M u9 c9 s9 (pc + 2) lv (.int v :: st) h rv Q) : RunN X d M u9 c9 s9 (pc) lv (st) h rv Q := by
  intro p l e R s m args below meth c cells slots Z ad D cs A H locs ls C w hl
  obtain ⟨hx, hb, hml, hown, hts, hN, hR, hcs, hK, hE, hA, hend⟩ := id C
  exact lv_ldc hx hb hown (hts _ hw) hd (k p l e R s m args below meth c cells slots Z ad D cs A H locs ls C w hl)

theorem n_iaload {X : SX} {d : Nat} {M : Mt} {pc : Nat} {lv : List (Option Value)} {st : List Value} {h : AH} {rv : Option Value} {Q : AH → Prop} {u9 c9 s9 : Nat} {q n : Nat} {f : Nat → Int32} {i : Int32} (hd : decode M.2.1 pc = .ok (.iaload, 1)) (hq : h[q]? = some (.inl (0, n, .inl f))) (hi : vp_in i n) (k : RunN X d M u9 c9 s9 (pc + 1) lv (.int (f i.toNatClampNeg) :: st) h rv Q) : RunN X d M u9 c9 s9 (pc) lv (.int i :: .ref q :: st) h rv Q := by
  intro p l e R s m args below meth c cells slots Z ad D cs A H locs ls C w hl
  obtain ⟨hx, hb, hml, hown, hts, hN, hR, hcs, hK, hE, hA, hend⟩ := id C
  exact va_iald hx hb hK w.1 q 0 (wc_at hq) rfl hi hd (k p l e R s m args below meth c cells slots Z ad D cs A H locs ls C w hl)

theorem n_iastore {X : SX} {d : Nat} {M : Mt} {pc : Nat} {lv : List (Option Value)} {st : List Value} {h : AH} {rv : Option Value} {Q : AH → Prop} {u9 c9 s9 : Nat} {q n : Nat} {f : Nat → Int32} {i : Int32} {x : Int32} {h' : AH} (hd : decode M.2.1 pc = .ok (.iastore, 1)) (hq : h[q]? = some (.inl (0, n, .inl f))) (hi : vp_in i n) (hh : h.set q (.inl (0, n, .inl (upd f i.toNatClampNeg x))) = h') (k : RunN X d M u9 c9 s9 (pc + 1) lv (st) h' rv Q) : RunN X d M u9 c9 s9 (pc) lv (.int x :: .int i :: .ref q :: st) h rv Q := by
  intro p l e R s m args below meth c cells slots Z ad D cs A H locs ls C w hl
  obtain ⟨hx, hb, hml, hown, hts, hN, hR, hcs, hK, hE, hA, hend⟩ := id C
  subst hh
  refine va_iast hx hb hK w.1 w.2.1 w.2.2 q 0 (wc_at hq) rfl hi hd (fun H1 locs1 hP1 hD1 hS1 => ?_)
  have e9 := wc_set cs ad h q (.inl (0, n, .inl (upd f i.toNatClampNeg x)))
  refine k p l e R s m args below meth c cells slots Z ad D cs A H1 locs1 ls C ⟨?_, ?_, hS1⟩ hl
  · rw [← e9]; exact hP1
  · rw [← e9]; exact hD1

theorem n_getfield {X : SX} {d : Nat} {M : Mt} {pc : Nat} {lv : List (Option Value)} {st : List Value} {h : AH} {rv : Option Value} {Q : AH → Prop} {u9 c9 s9 : Nat} {q ci j idx : Nat} {fs : List Value} {v : Value} (hd : decode M.2.1 pc = .ok (.getfield idx, 3)) (g : GOK M.1.cls idx ci j) (hq : h[q]? = some (.inr (ci, fs))) (hv : fs[j]? = some v) (k : RunN X d M u9 c9 s9 (pc + 3) lv (v :: st) h rv Q) : RunN X d M u9 c9 s9 (pc) lv (.ref q :: st) h rv Q := by
  intro p l e R s m args below meth c cells slots Z ad D cs A H locs ls C w hl
  obtain ⟨hx, hb, hml, hown, hts, hN, hR, hcs, hK, hE, hA, hend⟩ := id C
  obtain ⟨C0, T0, N0, g1, g2, g3, g4⟩ := g
  have hv9 : (fs.map (cv ad))[j]? = some (cv ad v) := by rw [List.getElem?_map, hv]; rfl
  rcases g4 with g4 | ⟨host, g4⟩
  · exact va_get hx hb hts g3 hown hK w.1 q (wc_at hq) g1 j g2 (hts _ g4) (fun _ z => z) hv9 hd (k p l e R s m args below meth c cells slots Z ad D cs A H locs ls C w hl)
  · exact va_getN hx hb hts g3 hown hK w.1 q (wc_at hq) g1 j g2 (va_Nw.use rfl (hN _ g4)) (fun _ z => z) hv9 hd (k p l e R s m args below meth c cells slots Z ad D cs A H locs ls C w hl)

theorem n_putfield {X : SX} {d : Nat} {M : Mt} {pc : Nat} {lv : List (Option Value)} {st : List Value} {h : AH} {rv : Option Value} {Q : AH → Prop} {u9 c9 s9 : Nat} {q ci j idx : Nat} {fs fs' : List Value} {v : Value} {ty : FieldType} {h' : AH} (hd : decode M.2.1 pc = .ok (.putfield idx, 3)) (g : POK M.1.cls idx ci j ty) (hq : h[q]? = some (.inr (ci, fs))) (hj : j < fs.length) (hv : ∀ ad, cv ad v = v) (hn : narrow ty v = v) (hf : fits ty v = true) (hfs : fs.set j v = fs') (hh : h.set q (.inr (ci, fs')) = h') (k : RunN X d M u9 c9 s9 (pc + 3) lv (st) h' rv Q) : RunN X d M u9 c9 s9 (pc) lv (v :: .ref q :: st) h rv Q := by
  intro p l e R s m args below meth c cells slots Z ad D cs A H locs ls C w hl
  obtain ⟨hx, hb, hml, hown, hts, hN, hR, hcs, hK, hE, hA, hend⟩ := id C
  obtain ⟨C0, T0, N0, ty0, g1, g2, g3, g4, g5, g6, g7, g8⟩ := g
  subst hfs
  subst hh
  have e9 := wc_set cs ad h q (.inr (ci, fs.set j v))
  have e8 : cE cs ad (.inr (ci, fs.set j v)) = .inr (ci, (fs.map (cv ad)).set j (cv ad v)) := by
    show Sum.inr (ci, (fs.set j v).map (cv ad)) = _
    rw [List.map_set]
  rw [e8] at e9
  have hn9 : narrow ty (cv ad v) = cv ad v := by rw [hv]; exact hn
  have hf9 : fits ty (cv ad v) = true := by rw [hv]; exact hf
  have hj9 : j < (fs.map (cv ad)).length := by rw [List.length_map]; exact hj
  rcases g4 with g4 | ⟨host, g4⟩
  · refine va_put hx hb hts g3 ty0 g7 g8 hown hK w.1 w.2.1 w.2.2 q (wc_at hq) g1 j g2 (hts _ g4) (fun _ z => z) g5 g6 hn9 hf9 hj9 hd (fun H1 locs1 hP1 hD1 hS1 => ?_)
    refine k p l e R s m args below meth c cells slots Z ad D cs A H1 locs1 ls C ⟨?_, ?_, hS1⟩ hl
    · rw [← e9]; exact hP1
    · rw [← e9]; exact hD1
  · refine va_putN hx hb hts g3 ty0 g7 g8 hown hK w.1 w.2.1 w.2.2 q (wc_at hq) g1 j g2 (va_Nw.use rfl (hN _ g4)) (fun _ z => z) g5 g6 hn9 hf9 hj9 hd (fun H1 locs1 hP1 hD1 hS1 => ?_)
    refine k p l e R s m args below meth c cells slots Z ad D cs A H1 locs1 ls C ⟨?_, ?_, hS1⟩ hl
    · rw [← e9]; exact hP1
    · rw [← e9]; exact hD1

theorem n_heq {X : SX} {d : Nat} {M : Mt} {pc : Nat} {lv : List (Option Value)} {st : List Value} {h : AH} {rv : Option Value} {Q : AH → Prop} {u9 c9 s9 : Nat} {h' : AH} (hh : HE h h') (k : RunN X d M u9 c9 s9 (pc) lv (st) h' rv Q) : RunN X d M u9 c9 s9 (pc) lv (st) h rv Q := by
  intro p l e R s m args below meth c cells slots Z ad D cs A H locs ls C w hl
  obtain ⟨hx, hb, hml, hown, hts, hN, hR, hcs, hK, hE, hA, hend⟩ := id C
  exact k p l e R s m args below meth c cells slots Z ad D cs A H locs ls C ⟨hh.P w.1, wc_D w.2.1 hh.len, w.2.2⟩ hl

theorem n_lv {X : SX} {d : Nat} {M : Mt} {pc : Nat} {lv : List (Option Value)} {st : List Value} {h : AH} {rv : Option Value} {Q : AH → Prop} {u9 c9 s9 : Nat} {lv' : List (Option Value)} (hh : ∀ (i : Nat) (v : Value), lv'[i]? = some (some v) → lv[i]? = some (some v)) (k : RunN X d M u9 c9 s9 (pc) lv' (st) h rv Q) : RunN X d M u9 c9 s9 (pc) lv (st) h rv Q := by
  intro p l e R s m args below meth c cells slots Z ad D cs A H locs ls C w hl
  obtain ⟨hx, hb, hml, hown, hts, hN, hR, hcs, hK, hE, hA, hend⟩ := id C
  exact k p l e R s m args below meth c cells slots Z ad D cs A H locs ls C w ⟨hl.1, hl.2.1, fun i v hi => hl.2.2 i v (hh i v hi)⟩

section N9
variable {X : SX} {d : Nat} {M : Mt} {pc : Nat} {lv : List (Option Value)} {st : List Value} {h : AH} {rv : Option Value} {Q : AH → Prop} {u9 c9 s9 : Nat}

theorem n_ialdN {q n p : Nat} {f : Nat → Int32} {x : Int32} (hd : decode M.2.1 pc = .ok (.iaload, 1)) (hq : h[q]? = some (.inl (0, n, .inl f))) (hp : p < n) (hn : n < 2 ^ 31) (hv : f p = x) (k : RunN X d M u9 c9 s9 (pc + 1) lv (.int x :: st) h rv Q) : RunN X d M u9 c9 s9 pc lv (.int (nI p) :: .ref q :: st) h rv Q := by
  refine n_iaload hd hq (vp_in_N hp hn) ?_
  rw [nI_clamp (Nat.lt_trans hp hn), hv]
  exact k

theorem n_iastN {q n p : Nat} {f : Nat → Int32} {x : Int32} {h' : AH} (hd : decode M.2.1 pc = .ok (.iastore, 1)) (hq : h[q]? = some (.inl (0, n, .inl f))) (hp : p < n) (hn : n < 2 ^ 31) (hh : h.set q (.inl (0, n, .inl (upd f p x))) = h') (k : RunN X d M u9 c9 s9 (pc + 1) lv st h' rv Q) : RunN X d M u9 c9 s9 pc lv (.int x :: .int (nI p) :: .ref q :: st) h rv Q :=
  n_iastore hd hq (vp_in_N hp hn) (by rw [nI_clamp (Nat.lt_trans hp hn)]; exact hh) k

end N9


theorem n_vret {X : SX} {d : Nat} {M : Mt} {n nc ns pc : Nat} {lv : List (Option Value)} {h : AH} {Q : AH → Prop} (hd : decode M.2.1 pc = .ok (.return_, 1)) (hty : M.2.2.2 = none) (hh : Q h) : RunN X d M n nc ns pc lv [] h none Q := by
  intro p l e R s m args below meth c cells slots Z ad D cs A H locs ls C w hl
  obtain ⟨hx, hb, hml, hown, hts, hN, hR, hcs, hK, hE, hA, hAO, hin, hn9, hend⟩ := id C
  exact W.widen (k := cells + nc) (n := slots + ns) (Nat.le_add_right _ _) (Nat.le_add_right _ _) (hend ad H locs pc ls .return_ h (fun _ _ => rfl) hh w.1 w.2.1 w.2.2 (Or.inr (Or.inr (Or.inl ⟨rfl, rfl, hty⟩))) hd)
/-! nothing speaks of the new places yet -/
def okK (n c k : Nat) : Bool := decide (k < n) || decide (n + c ≤ k)
def okV (n c : Nat) : Value → Bool
  | .ref k => okK n c k
  | _ => true
def okO (n c : Nat) : Option Value → Bool
  | some v => okV n c v
  | none => true
def okA (n c : Nat) : vp_A → Prop
  | (_, .inr (.inr (.inr (.inr f)))) => ∀ i k, f i = some k → okK n c k = true
  | _ => True
def okE (n c : Nat) : AE → Prop
  | .inl (_, a) => okA n c a
  | .inr (_, fs) => fs.all (okV n c) = true
def okH (n c : Nat) : AH → Prop
  | [] => True
  | e :: t => okE n c e ∧ okH n c t
theorem okK_ad {n c k : Nat} {ad ad' : Nat → Nat} (h : okK n c k = true) (g : agr n c ad ad') : ad' k = ad k := by
  simp only [okK, Bool.or_eq_true, decide_eq_true_eq] at h
  exact g k h
theorem okV_cv {n c : Nat} {v : Value} {ad ad' : Nat → Nat} (h : okV n c v = true) (g : agr n c ad ad') : cv ad' v = cv ad v := by
  cases v with
  | ref k => exact congrArg Value.ref (okK_ad h g)
  | _ => rfl
theorem okL_cv {n c : Nat} {ad ad' : Nat → Nat} (g : agr n c ad ad') : ∀ {l : List Value}, l.all (okV n c) = true → l.map (cv ad') = l.map (cv ad) := by
  intro l h
  apply List.map_congr_left
  intro v hv
  exact okV_cv (List.all_eq_true.mp h v hv) g
theorem okE_cE {n c : Nat} {e : AE} {ad ad' : Nat → Nat} (cs : Nat → ClassId) (h : okE n c e) (g : agr n c ad ad') : cE cs ad' e = cE cs ad e := by
  rcases e with ⟨τ, m, f | f | f | f | f⟩ | ⟨ci, fs⟩
  · rfl
  · rfl
  · rfl
  · rfl
  · show Sum.inl (cs τ, m, Sum.inr (Sum.inr (Sum.inr (Sum.inr (fun i => (f i).map ad'))))) = Sum.inl (cs τ, m, Sum.inr (Sum.inr (Sum.inr (Sum.inr (fun i => (f i).map ad)))))
    have e9 : (fun i => (f i).map ad') = (fun i => (f i).map ad) := by
      funext i
      cases hf : f i with
      | none => rfl
      | some k => exact congrArg some (okK_ad (h i k hf) g)
    rw [e9]
  · show Sum.inr (ci, fs.map (cv ad')) = Sum.inr (ci, fs.map (cv ad))
    rw [okL_cv g h]
theorem okH_wc {n c : Nat} {ad ad' : Nat → Nat} (cs : Nat → ClassId) (g : agr n c ad ad') : ∀ (h : AH) (j : Nat), okH n c h → j + h.length ≤ n → wcF cs ad' j h = wcF cs ad j h
  | [], _, _, _ => rfl
  | e :: t, j, hk, hl => by
    rw [List.length_cons] at hl
    rw [wcF, wcF, okE_cE cs hk.1 g, g j (Or.inl (by omega)), okH_wc cs g t (j + 1) hk.2 (by omega)]
theorem wcF_app (cs : Nat → ClassId) (ad : Nat → Nat) : ∀ (a b : AH) (j : Nat), wcF cs ad j (a ++ b) = wcF cs ad j a ++ wcF cs ad (j + a.length) b
  | [], b, j => rfl
  | e :: a, b, j => by
    rw [List.cons_append, wcF, wcF, wcF_app cs ad a b (j + 1), List.cons_append, List.length_cons, show j + 1 + a.length = j + (a.length + 1) by omega]
theorem okLH {n c nL : Nat} {ad ad' : Nat → Nat} {ls : Array Slot} {lv : List (Option Value)} (g : agr n c ad ad') (h : lv.all (okO n c) = true) (hl : LH ad ls nL lv) : LH ad' ls nL lv := by
  refine ⟨hl.1, hl.2.1, fun i v hi => ?_⟩
  have h1 := List.all_eq_true.mp h (some v) (List.mem_of_getElem? hi)
  rw [okV_cv (n := n) (c := c) h1 g]
  exact hl.2.2 i v hi
theorem okEv {X : SX} {n c : Nat} {ad ad' : Nat → Nat} {A : Nat → Prop} {s : State} {H : Heap} (g : agr n c ad ad') (hn : n + c ≤ 1000) (h : Ev X (fun k => ad (1000 + k)) A s H) : Ev X (fun k => ad' (1000 + k)) A s H := by
  have e : (fun k => ad' (1000 + k)) = (fun k => ad (1000 + k)) := funext (fun k => g (1000 + k) (Or.inr (by omega)))
  rw [e]
  exact h
def updA (ad : Nat → Nat) (n q : Nat) : Nat → Nat := fun k => if k = n then q else ad k
theorem agr_upd (ad : Nat → Nat) (n q : Nat) : agr n 1 ad (updA ad n q) := fun k hk => by rw [updA, if_neg (by omega)]
/-- a cell more, at the place n, is what the walk behind it takes -/
theorem n_more {X : SX} {d : Nat} {M : Mt} {n nc ns N pc' : Nat} {lv : List (Option Value)} {st : List Value} {h : AH} {rv : Option Value} {Q : AH → Prop} {e1 : AE} (hfe : ∀ cs ad, cE cs ad e1 = cE cs (fun _ => 0) e1) (hlen : h.length = n) (ok : okH n 1 h ∧ lv.all (okO n 1) = true ∧ st.all (okV n 1) = true) (k : RunN X d M (n + 1) nc ns pc' lv (.ref n :: st) (h ++ [e1]) rv Q)
    {p : Program} {l : Launch} {e : Env} {R : Room} {s : State} {m : MethodId} {args : Array Value} {below : List Frame} {meth : Method} {c : Code} {cells slots : Nat} {Z : State → Prop} {ad : Nat → Nat} {D : va_G} {cs : Nat → ClassId} {A : Nat → Prop} {H1 : Heap} {locs : List Loc} {ls : Array Slot} {q : Nat}
    (C : CxN X d M rv Q n (nc + 1) (ns + N) p l e R s m args below meth c cells slots Z ad D cs A) (hl : LH ad ls M.2.2.1 lv) (hP1 : va_P D vwCl (wc cs ad h ++ [(q, cE cs ad e1)]) H1) (hD1 : va_D A (wc cs ad h ++ [(q, cE cs ad e1)])) (hS1 : va_S A s.heap H1 locs) : W p l e R s m args below meth c H1 locs (cells + 1) (slots + N) Z (F0 m pc' ls (.ref q :: st.map (cv ad))) := by
  obtain ⟨hx, hb, hml, hown, hts, hN, hR, hcs, hK, hE, hA, hAO, hin, hn9, hend⟩ := id C
  have g := agr_upd ad n q
  have ew : wc cs (updA ad n q) (h ++ [e1]) = wc cs ad h ++ [(q, cE cs ad e1)] := by
    show wcF cs (updA ad n q) 0 (h ++ [e1]) = wcF cs ad 0 h ++ [(q, cE cs ad e1)]
    rw [wcF_app, okH_wc cs g h 0 ok.1 (by omega), Nat.zero_add, hlen]
    show _ ++ [(updA ad n q n, cE cs (updA ad n q) e1)] = _
    rw [hfe cs (updA ad n q), hfe cs ad, updA, if_pos rfl]
  have es : (Value.ref n :: st).map (cv (updA ad n q)) = .ref q :: st.map (cv ad) := by
    rw [List.map_cons, okL_cv g ok.2.2]
    show Value.ref (updA ad n q n) :: _ = _
    rw [updA, if_pos rfl]
  have k1 := k p l e R s m args below meth c (cells + 1) (slots + N) Z (updA ad n q) D cs A H1 locs ls
    ⟨hx, hb, hml, hown, hts, hN, hR, ⟨by omega, by omega⟩, hK, okEv g (by omega) hE, hA, hAO, hin, by omega, fun ad2 H2 locs2 pc2 ls2 ins h2 g2 hq hp hd2 hs2 hr2 hdc => by
      have k2 := hend ad2 H2 locs2 pc2 ls2 ins h2 (fun j hj => (g2 j (by omega)).trans (g j (by omega))) hq hp hd2 hs2 hr2 hdc
      rw [show cells + 1 + nc = cells + (nc + 1) by omega, show slots + N + ns = slots + (ns + N) by omega]
      exact k2⟩
    ⟨by rw [ew]; exact hP1, by rw [ew]; exact hD1, hS1⟩ (okLH g ok.2.1 hl)
  rw [es] at k1
  exact k1
theorem n_new {X : SX} {d : Nat} {M : Mt} {n nc ns pc : Nat} {lv : List (Option Value)} {st : List Value} {h : AH} {rv : Option Value} {Q : AH → Prop} {idx ci N : Nat} {Cn : String} {T : u_T} {fs : List Value} (hd : decode M.2.1 pc = .ok (.new idx, 3)) (hc : vwCl[ci]? = some (Cn, T, N)) (hin : ∀ w ∈ u_ws Cn T N, w ∈ gT) (ty : Nat → FieldType) (hty : ∀ k, k < N → parseFieldDescriptor (T k).2.2.1 = some (ty k)) (hcl : Cond.classLink M.1.cls idx Cn ∈ gT) (hinst : Cond.instantiable Cn N ∈ gT) (hini : Cond.initialized Cn ∈ gT) (hfs : ∀ j, j < N → defaultValue (ty j) = vp_V fs j) (hfc : ∀ ad, fs.map (cv ad) = fs) (hlen : h.length = n) (ok : okH n 1 h ∧ lv.all (okO n 1) = true ∧ st.all (okV n 1) = true) (k : RunN X d M (n + 1) nc ns (pc + 3) lv (.ref n :: st) (h ++ [.inr (ci, fs)]) rv Q) : RunN X d M n (nc + 1) (ns + N) pc lv st h rv Q := by
  intro p l e R s m args below meth c cells slots Z ad D cs A H locs ls C w hl
  obtain ⟨hx, hb, hml, hown, hts, hN, hR, hcs, hK, hE, hA, hAO, hin9, hn9, hend⟩ := id C
  refine va_new (ci := ci) (fs := fs) (C := Cn) (T := T) (N := N) hx hb hts hin ty hty hown (hts _ hcl) (hts _ hinst) (hts _ hini) hK w.1 w.2.1 w.2.2 hA hc hfs (by omega) (by omega) hd (fun q H1 hP1 hD1 hS1 => ?_)
  have e9 : cE cs ad (.inr (ci, fs)) = .inr (ci, fs) := congrArg (fun z => Sum.inr (ci, z)) (hfc ad)
  exact n_more (e1 := .inr (ci, fs)) (fun cs ad => by
    show Sum.inr (ci, fs.map (cv ad)) = Sum.inr (ci, fs.map (cv _))
    rw [hfc, hfc]) hlen ok k C hl (by rw [e9]; exact hP1) (by rw [e9]; exact hD1) hS1
theorem n_newa {X : SX} {d : Nat} {M : Mt} {n nc ns pc : Nat} {lv : List (Option Value)} {st : List Value} {h : AH} {rv : Option Value} {Q : AH → Prop} {τ N : Nat} {atype : ArrayType} {ty : FieldType} {a0 : vp_A} (hd : decode M.2.1 pc = .ok (.newarray atype, 2)) (hty : newarray.typeOf atype = ty) (ha : ∀ cA : ClassId, vp_cell cA a0 = arrV cA N (fun _ => defaultValue ty)) (har : Cond.arrayClass (newarray.typeOf atype) ∈ gT) (hτ : ∀ cs, (tys cs)[τ]? = some (cs τ, ty)) (hra : ∀ (U : State) (cA : ClassId), va_RA U cA ty → U.vm.findClass ("[" ++ ty.toString) = some cA) (hfa : ∀ ad, cA ad a0 = a0) (hN31 : N < 2 ^ 31) (hby : N * componentBytes ty ≤ 536870912) (hlen : h.length = n) (ok : okH n 1 h ∧ lv.all (okO n 1) = true ∧ st.all (okV n 1) = true) (k : RunN X d M (n + 1) nc ns (pc + 2) lv (.ref n :: st) (h ++ [.inl (τ, a0)]) rv Q) : RunN X d M n (nc + 1) (ns + N) pc lv (.int (nI N) :: st) h rv Q := by
  intro p l e R s m args below meth c cells slots Z ad D cs A H locs ls C w hl
  obtain ⟨hx, hb, hml, hown, hts, hN, hR, hcs, hK, hE, hA, hAO, hin9, hn9, hend⟩ := id C
  refine va_newa (atype := atype) hx hb (hts _ har) hty hK w.1 w.2.1 w.2.2 hA ha (nI_pos hN31) (nI_clamp hN31) hby (by omega) (by omega) hd (fun q cA9 H1 hK1 hP1 hD1 hS1 => ?_)
  have h1 := hra s _ (hK.2 τ _ (hτ cs)).2
  have h2 := hra s _ (hK1.2 4 (cA9, ty) rfl).2
  have ec : cA9 = cs τ := Option.some.inj (h2.symm.trans h1)
  subst ec
  have e9 : cE cs ad (.inl (τ, a0)) = .inl (cs τ, a0) := congrArg (fun z => Sum.inl (cs τ, z)) (hfa ad)
  exact n_more (e1 := .inl (τ, a0)) (fun cs ad => by
    show Sum.inl (cs τ, cA ad a0) = Sum.inl (cs τ, cA _ a0)
    rw [hfa, hfa]) hlen ok k C hl (by rw [e9]; exact hP1) (by rw [e9]; exact hD1) hS1
theorem n_newI {X : SX} {d : Nat} {M : Mt} {n nc ns pc : Nat} {lv : List (Option Value)} {st : List Value} {h : AH} {rv : Option Value} {Q : AH → Prop} (N : Nat) (hd : decode M.2.1 pc = .ok (.newarray .int, 2)) (hN31 : N < 1000) (hlen : h.length = n) (ok : okH n 1 h ∧ lv.all (okO n 1) = true ∧ st.all (okV n 1) = true) (k : RunN X d M (n + 1) nc ns (pc + 2) lv (.ref n :: st) (h ++ [.inl (0, N, .inl (fun _ => 0))]) rv Q) : RunN X d M n (nc + 1) (ns + N) pc lv (.int (nI N) :: st) h rv Q :=
  n_newa (atype := .int) (ty := .int) (a0 := (N, .inl (fun _ => 0))) hd rfl (fun _ => rfl) (gT_mem (tb1 74 rfl) rfl) (fun _ => rfl) (fun _ _ z => z) (fun _ => rfl) (by omega) (by show N * 4 ≤ _; omega) hlen ok k
theorem n_newJ {X : SX} {d : Nat} {M : Mt} {n nc ns pc : Nat} {lv : List (Option Value)} {st : List Value} {h : AH} {rv : Option Value} {Q : AH → Prop} (N : Nat) (hd : decode M.2.1 pc = .ok (.newarray .long, 2)) (hN31 : N < 1000) (hlen : h.length = n) (ok : okH n 1 h ∧ lv.all (okO n 1) = true ∧ st.all (okV n 1) = true) (k : RunN X d M (n + 1) nc ns (pc + 2) lv (.ref n :: st) (h ++ [.inl (1, N, .inr (.inl (fun _ => 0)))]) rv Q) : RunN X d M n (nc + 1) (ns + N) pc lv (.int (nI N) :: st) h rv Q :=
  n_newa (atype := .long) (ty := .long) (a0 := (N, .inr (.inl (fun _ => 0)))) hd rfl (fun _ => rfl) (gT_mem (tb1 134 rfl) rfl) (fun _ => rfl) (fun _ _ z => z) (fun _ => rfl) (by omega) (by show N * 8 ≤ _; omega) hlen ok k
theorem n_newB {X : SX} {d : Nat} {M : Mt} {n nc ns pc : Nat} {lv : List (Option Value)} {st : List Value} {h : AH} {rv : Option Value} {Q : AH → Prop} (N : Nat) (hd : decode M.2.1 pc = .ok (.newarray .byte, 2)) (hN31 : N < 1000) (hlen : h.length = n) (ok : okH n 1 h ∧ lv.all (okO n 1) = true ∧ st.all (okV n 1) = true) (k : RunN X d M (n + 1) nc ns (pc + 2) lv (.ref n :: st) (h ++ [.inl (2, N, .inl (fun _ => 0))]) rv Q) : RunN X d M n (nc + 1) (ns + N) pc lv (.int (nI N) :: st) h rv Q :=
  n_newa (atype := .byte) (ty := .byte) (a0 := (N, .inl (fun _ => 0))) hd rfl (fun _ => rfl) (gT_mem (tb1 96 rfl) rfl) (fun _ => rfl) (fun _ _ z => z) (fun _ => rfl) (by omega) (by show N * 1 ≤ _; omega) hlen ok k
theorem n_anew {X : SX} {d : Nat} {M : Mt} {n nc ns pc : Nat} {lv : List (Option Value)} {st : List Value} {h : AH} {rv : Option Value} {Q : AH → Prop} {idx : Nat} (N : Nat) (hcl : Cond.classLink M.1.cls idx "OneLantern$Sheet" ∈ gT) (hd : decode M.2.1 pc = .ok (.anewarray idx, 3)) (hN31 : N < 1000) (hlen : h.length = n) (ok : okH n 1 h ∧ lv.all (okO n 1) = true ∧ st.all (okV n 1) = true) (k : RunN X d M (n + 1) nc ns (pc + 3) lv (.ref n :: st) (h ++ [.inl (3, N, .inr (.inr (.inr (.inr (fun _ => none)))))]) rv Q) : RunN X d M n (nc + 1) (ns + N) pc lv (.int (nI N) :: st) h rv Q := by
  intro p l e R s m args below meth c cells slots Z ad D cs A H locs ls C w hl
  obtain ⟨hx, hb, hml, hown, hts, hN, hR, hcs, hK, hE, hA, hAO, hin9, hn9, hend⟩ := id C
  refine va_newq (C := "OneLantern$Sheet") hx hb hown (hts _ hcl) hAO hK w.1 w.2.1 w.2.2 hA (nI_pos (by omega)) (nI_clamp (by omega)) (by omega) (by omega) (by omega) hd (fun q cA9 H1 hK1 hP1 hD1 hS1 => ?_)
  obtain ⟨_, _, _, _, _, h1⟩ := (hK.2 3 (cs 3, .object "OneLantern$Sheet") rfl).2
  obtain ⟨_, _, _, _, _, h2⟩ := (hK1.2 4 (cA9, .object "OneLantern$Sheet") rfl).2
  have ec : cA9 = cs 3 := Option.some.inj (h2.symm.trans h1)
  subst ec
  exact n_more (e1 := .inl (3, N, .inr (.inr (.inr (.inr (fun _ => none)))))) (fun cs ad => rfl) hlen ok k C hl hP1 hD1 hS1
theorem n_aast {X : SX} {d : Nat} {M : Mt} {u9 c9 s9 pc : Nat} {lv : List (Option Value)} {st : List Value} {h h' : AH} {rv : Option Value} {Q : AH → Prop} {q v n : Nat} {f : Nat → Option Nat} {vs : List Value} (i : Nat) (hd : decode M.2.1 pc = .ok (.aastore, 1)) (hq : h[q]? = some (.inl (3, n, .inr (.inr (.inr (.inr f)))))) (hv : h[v]? = some (.inr (2, vs))) (hi : i < n) (hn : n < 2 ^ 31) (hh : h.set q (.inl (3, n, .inr (.inr (.inr (.inr (va_up f i (some v))))))) = h') (k : RunN X d M u9 c9 s9 (pc + 1) lv st h' rv Q) : RunN X d M u9 c9 s9 pc lv (.ref v :: .int (nI i) :: .ref q :: st) h rv Q := by
  intro p l e R s m args below meth c cells slots Z ad D cs A H locs ls C w hl
  obtain ⟨hx, hb, hml, hown, hts, hN, hR, hcs, hK, hE, hA, hend⟩ := id C
  subst hh
  refine va_astq (r := (RX2, TX2, 3)) hx hb hK w.1 w.2.1 w.2.2 q 3 v 2 (wc_at hq) rfl (wc_at hv) rfl (vp_in_N hi hn) hd (fun H1 locs1 hP1 hD1 hS1 => ?_)
  rw [nI_clamp (Nat.lt_trans hi hn)] at hP1 hD1
  have e9 := wc_set cs ad h q (.inl (3, n, .inr (.inr (.inr (.inr (va_up f i (some v)))))))
  have e8 : cE cs ad (.inl (3, n, .inr (.inr (.inr (.inr (va_up f i (some v))))))) = .inl (cs 3, n, .inr (.inr (.inr (.inr (va_up (fun j => (f j).map ad) i (some (ad v))))))) := by
    show Sum.inl (cs 3, n, Sum.inr (Sum.inr (Sum.inr (Sum.inr (fun j => (va_up f i (some v) j).map ad))))) = _
    have e7 : (fun j => (va_up f i (some v) j).map ad) = va_up (fun j => (f j).map ad) i (some (ad v)) := by
      funext j
      simp only [va_up]
      split <;> rfl
    rw [e7]
  rw [e8] at e9
  refine k p l e R s m args below meth c cells slots Z ad D cs A H1 locs1 ls C ⟨?_, ?_, hS1⟩ hl
  · rw [← e9]; exact hP1
  · rw [← e9]; exact hD1
theorem n_obj {X : SX} {d : Nat} {M : Mt} {u9 c9 s9 pc idx q : Nat} {lv : List (Option Value)} {st : List Value} {h : AH} {rv : Option Value} {Q : AH → Prop} (hd : decode M.2.1 pc = .ok (.invokespecial idx, 3)) (hlk : Cond.methodLink M.1.cls idx objectInit ∈ gT) (hd1 : 1 ≤ d) (hw : (st.map fun v => v.category).sum ≤ 8) (k : RunN X d M u9 c9 s9 (pc + 3) lv st h rv Q) : RunN X d M u9 c9 s9 pc lv (.ref q :: st) h rv Q := by
  intro p l e R s m args below meth c cells slots Z ad D cs A H locs ls C w hl
  obtain ⟨hx, hb, hml, hown, hts, hN, hR, hcs, hK, hE, hA, hend⟩ := id C
  have hw9 : 2 * (F0 m pc ls ((Value.ref q :: st).map (cv ad))).monitorRoom + ((st.map (cv ad)).map fun v => v.category).sum ≤ 8 := lv_room (by
    rw [List.map_map, show ((fun v => Value.category v) ∘ cv ad) = (fun v => Value.category v) from funext (cv_cat ad)]; exact hw)
  exact W.objInit hx hb hown (hts _ hlk) (hts _ (gT_mem (tb1 20 rfl) rfl)) (hts _ (gT_mem (tb1 21 rfl) rfl)) rfl (hl.1.trans hml.symm) rfl hd (by omega) (by omega) (k p l e R s m args below meth c cells slots Z ad D cs A H locs ls C w hl)
def POF (own : String) (idx ci j : Nat) (ty : FieldType) : Prop := ∃ (C : String) (T : u_T) (N : Nat) (ty0 : Nat → FieldType), vwCl[ci]? = some (C, T, N) ∧ j < N ∧ (∀ w ∈ u_ws C T N, w ∈ gT) ∧ Cond.fieldLink own idx (T j).1 (T j).2.1 (T j).2.2.1 ∈ gT ∧ (T j).2.2.2 = true ∧ (T j).1 = own ∧ parseFieldDescriptor (T j).2.2.1 = some ty ∧ (∀ k, k < N → parseFieldDescriptor (T k).2.2.1 = some (ty0 k)) ∧ (∀ a, a < N → ∀ b, b < N → a ≠ b → (T a).2.1 ≠ (T b).2.1)
theorem n_putF {X : SX} {d : Nat} {M : Mt} {u9 c9 s9 pc : Nat} {lv : List (Option Value)} {st : List Value} {h : AH} {rv : Option Value} {Q : AH → Prop} {q ci j idx : Nat} {fs fs' : List Value} {v : Value} {ty : FieldType} {h' : AH} (hd : decode M.2.1 pc = .ok (.putfield idx, 3)) (g : POF M.1.cls idx ci j ty) (hnm : M.1.name = "<init>") (hq : h[q]? = some (.inr (ci, fs))) (hj : j < fs.length) (hn : ∀ ad, narrow ty (cv ad v) = cv ad v) (hf : ∀ ad, fits ty (cv ad v) = true) (hfs : fs.set j v = fs') (hh : h.set q (.inr (ci, fs')) = h') (k : RunN X d M u9 c9 s9 (pc + 3) lv (st) h' rv Q) : RunN X d M u9 c9 s9 (pc) lv (v :: .ref q :: st) h rv Q := by
  intro p l e R s m args below meth c cells slots Z ad D cs A H locs ls C w hl
  obtain ⟨hx, hb, hml, hown, hts, hN, hR, hcs, hK, hE, hA, hAO, hin, hn9, hend⟩ := id C
  obtain ⟨C0, T0, N0, ty0, g1, g2, g3, g4, g5, g6, g7, g8, g9⟩ := g
  subst hfs
  subst hh
  have e9 := wc_set cs ad h q (.inr (ci, fs.set j v))
  have e8 : cE cs ad (.inr (ci, fs.set j v)) = .inr (ci, (fs.map (cv ad)).set j (cv ad v)) := by
    show Sum.inr (ci, (fs.set j v).map (cv ad)) = _
    rw [List.map_set]
  rw [e8] at e9
  have hj9 : j < (fs.map (cv ad)).length := by rw [List.length_map]; exact hj
  refine va_putF hx hb hts g3 ty0 g8 g9 hown hK w.1 w.2.1 w.2.2 q (wc_at hq) g1 j g2 (hts _ g4) (fun _ z => z) g5 (hin hnm) g6 g7 (hn ad) (hf ad) hj9 hd (fun H1 locs1 hP1 hD1 hS1 => ?_)
  refine k p l e R s m args below meth c cells slots Z ad D cs A H1 locs1 ls C ⟨?_, ?_, hS1⟩ hl
  · rw [← e9]; exact hP1
  · rw [← e9]; exact hD1
/-! constructors: their contracts, their calls -/
def PWN (X : SX) (D : va_G) (cs : Nat → ClassId) (ad : Nat → Nat) (h : AH) (sz : Nat) (U : State) : Prop := PW X D cs ad h sz U ∧ AO U
def PQN (D : va_G) (cs : Nat → ClassId) (ad : Nat → Nat) (h : AH) (sz : Nat) (Q : AH → Prop) (nc : Nat) : Array Value → State → Outcome → State → Prop := fun _ st oc t =>
  oc = .returned none ∧ (∃ ad' h', agr h.length nc ad ad' ∧ Q h' ∧ va_P D vwCl (wc cs ad' h') t.heap ∧ va_D (va_A (wc cs ad h) sz) (wc cs ad' h') ∧ h'.length = h.length + nc) ∧ va_F (va_A (wc cs ad h) sz) st t
def SpN (d : Nat) (M : Mt) (as : List Value) (h : AH) (Q : AH → Prop) (nc ns : Nat) : Prop :=
  ∀ (X : SX) (l : Launch) (D : va_G) (cs : Nat → ClassId) (ad : Nat → Nat) (sz : Nat),
    Met l M.1 (Cond.code M.1 M.2.1 M.2.2.1 M.2.2.2 :: gT) { frames := d, cells := nc, slots := ns, locals := 30 * d } (va_Pc (as.map (cv ad)) (PWN X D cs ad h sz)) (PQN D cs ad h sz Q nc) nc ns (va_A (wc cs ad h) sz)
theorem SpN.of {d : Nat} {M : Mt} {as : List Value} {h : AH} {Q : AH → Prop} {nc ns : Nat} (lv : List (Option Value)) {n : Nat} (mr : MRb M n) (hlen : ∀ h', Q h' → h'.length = h.length + nc) (hsz : (ents as).length ≤ M.2.2.1) (hlv : ents as ++ List.replicate (M.2.2.1 - (ents as).length) none = lv) (h9 : h.length + nc ≤ 1000) (k : ∀ X, RunN X d M h.length nc ns 0 lv [] h none Q) : SpN d M as h Q nc ns := by
  intro X l D cs ad sz
  refine va_MetF (cc := M.2.1) (maxL := M.2.2.1) (ret := M.2.2.2) mr.2.2.2.2 rfl ?_
  intro p e s m args below meth c s₁ B hml hv
  obtain ⟨rfl, ⟨hz, hP, hK, hD0, hN, hE⟩, hAO⟩ := hv
  subst hz
  have hts := atoms_spec (ws := Cond.code M.1 M.2.1 M.2.2.1 M.2.2.2 :: gT) B.pre
  have hown : s.vm.findClass M.1.cls = some m.cls := findClass_of_methodNamed B.named
  have hnam : meth.name = M.1.name := (name_of_methodNamed B.named B.method).1
  have hr := B.returns
  have hlocks := B.notSynchronized
  rw [lg_entry_eq]
  refine k X p l e _ s m _ below meth c 0 0 _ ad D cs (va_A (wc cs ad h) s.heap.size) s.heap [] _ ⟨B.exec, B.bytes, hml, hown, fun w hw => hts w (List.mem_cons_of_mem _ hw), hN, ⟨Nat.le_refl _, Nat.le_refl _⟩, ⟨Nat.le_of_eq (Nat.zero_add _), Nat.le_of_eq (Nat.zero_add _)⟩, hK, hE, fun q hq => Or.inr hq, hAO, fun z => hnam.trans z, h9, ?_⟩ ⟨hP, hD0.self, va_S.rf⟩ ?_
  · intro ad' H locs pc ls ins h' hag hQ' hP2 hD2 hS2 hret hdec
    rw [Nat.zero_add, Nat.zero_add]
    have hq : ∀ t : State, t.heap = H → s.WarmedH t.vm → PQN D cs ad h s.heap.size Q nc ((as.map (cv ad)).toArray) s (.returned none) t := fun t ht _ => ⟨rfl, ⟨ad', h', hag, hQ', by rw [ht]; exact hP2, hD2, hlen h' hQ'⟩, hS2.F ht⟩
    rcases hret with ⟨-, v, ty, hv, -⟩ | ⟨-, v, hv, -⟩ | ⟨rfl, -, hty⟩ | ⟨-, a, nm, hv, -⟩
    · cases hv
    · cases hv
    · exact W.vret B.exec B.bytes (hr.trans hty) hq hS2.2.2 hdec
    · cases hv
  · have he := lv_entry (as.map (cv ad)) (n := M.2.2.1) (by rw [ents_len]; exact hsz)
    refine ⟨he.1, he.2.1, fun i v hi => ?_⟩
    rw [← hlv] at hi
    have hi2 : (ents as)[i]? = some (some v) := by
      rcases Nat.lt_or_ge i (ents as).length with q | q
      · rwa [List.getElem?_append_left q] at hi
      · rw [List.getElem?_append_right q, List.getElem?_replicate] at hi
        split at hi <;> cases hi
    have := ents_mem ad as 0 i v hi2
    rw [Nat.zero_add] at this
    exact he.2.2 _ this
section CALLN
variable {p : Program} {l : Launch} {e : Env} {R : Room} {s : State} {m : MethodId} {args : Array Value} {below : List Frame} {meth : Method} {c : Code} {H : Heap} {locs : List Loc} {cells slots : Nat} {Z : State → Prop}
theorem callN {D : va_G} {cs : Nat → ClassId} {ad : Nat → Nat} {A : Nat → Prop} {pc nc ns : Nat} {ls : Array Slot} {st0 rest : List Value} {h : AH} {Q1 : AH → Prop} {a : Array Value} (hr : va_Run p l e R s m args below meth c H locs cells slots nc ns (F0 m pc ls st0) rest (PQN D cs ad h H.size Q1 nc a) (va_A (wc cs ad h) H.size)) (hS : va_S A s.heap H locs) (hF : ∀ q, va_A (wc cs ad h) H.size q → A q)
    (kk : ∀ (H1 : Heap) (locs1 : List Loc) (ad' : Nat → Nat) (h1 : AH), agr h.length nc ad ad' → Q1 h1 → va_P D vwCl (wc cs ad' h1) H1 → va_D (va_A (wc cs ad h) H.size) (wc cs ad' h1) → h1.length = h.length + nc → (∀ q : Nat, q < H.size → ¬ va_A (wc cs ad h) H.size q → H1[q]? = H[q]?) → va_S A s.heap H1 locs1 → W p l e R s m args below meth c H1 locs1 (cells + nc) (slots + ns) Z (F0 m (pc + 3) ls rest)) : W p l e R s m args below meth c H locs cells slots Z (F0 m pc ls st0) := by
  intro T hT X
  obtain ⟨v, st₀, t, T', L, h0, X', hL, e1, e2, ⟨hv, ⟨ad', h9, hag, hq9, hp, hd9, hlen⟩, hz, hk⟩, st⟩ := hr T hT X
  have hv9 : v = none := Outcome.returned.inj hv
  subst hv9
  rw [h0] at hz hk
  obtain ⟨t2, a1, b1⟩ := kk T'.heap (locs ++ L) ad' h9 hag hq9 (by rw [e1]; exact hp) hd9 hlen (fun q h1 h2 => by rw [e1]; exact hk q h1 h2)
    ⟨Nat.le_trans hS.1 (by rw [e1]; exact hz), fun q h1 h2 => by rw [e1, hk q (Nat.lt_of_lt_of_le h1 hS.1) (fun z => h2 (hF q z))]; exact hS.2.1 q h1 h2, fun q hq => by
      rcases List.mem_append.mp hq with h | h
      · exact hS.2.2 q h
      · exact hF _ (hL q h)⟩ T' rfl X'
  exact ⟨t2, st t2 a1, b1⟩
end CALLN
theorem PWN.blind {X : SX} {D : va_G} {cs : Nat → ClassId} {ad : Nat → Nat} {h : AH} {sz : Nat} (av : List Value) : FrameBlind (va_Pc av (PWN X D cs ad h sz)) := by
  intro a U g mk q
  obtain ⟨q0, ⟨q1, q2, q3, q4, q5, q6⟩, q7⟩ := q
  exact ⟨q0, ⟨q1, q2, va_K.moved (u := U) (U := U.calling g mk a) (Vm.Alike.refl U.vm) q3, q4, Nst.same (s := U) (U := U.calling g mk a) rfl q5, Ev.same (s := U) (U := U.calling g mk a) q6 rfl rfl⟩, va_AO.moved (u := U) (U := U.calling g mk a) (Vm.Alike.refl U.vm) q7⟩
def MRi (M : Mt) (n : Nat) : Prop := MRb M n ∧ Cond.instanceMethod M.1 ∈ gT ∧ M.1.name = "<init>" ∧ M.2.2.2 = none
theorem wcF_shift (cs : Nat → ClassId) {ad' adL : Nat → Nat} {ρ : Nat → Nat} {b : Nat} (hE : ∀ e, cE cs ad' (rE ρ e) = cE cs adL e) : ∀ (g : AH) (j : Nat), (∀ i, i < g.length → ad' (b + j + i) = adL (j + i)) → wcF cs ad' (b + j) (g.map (rE ρ)) = wcF cs adL j g
  | [], _, _ => rfl
  | e :: g, j, h => by
    have h0 := h 0 (by rw [List.length_cons]; omega)
    rw [Nat.add_zero, Nat.add_zero] at h0
    have ih := wcF_shift cs hE g (j + 1) (fun i hi => by
      have := h (i + 1) (by rw [List.length_cons]; omega)
      rw [show b + (j + 1) + i = b + j + (i + 1) by omega, show j + 1 + i = j + (i + 1) by omega]
      exact this)
    rw [List.map_cons, wcF, wcF, hE, h0, show b + j + 1 = b + (j + 1) by omega, ih]
/-- a constructor on the cell that was made last -/
theorem n_init {X : SX} {d : Nat} {M : Mt} {nc ns pc : Nat} {lv : List (Option Value)} {st : List Value} {h0 : AH} {rv : Option Value} {Q : AH → Prop} {d' idx b nc' ns' : Nat} {M' : Mt} {eL e0 : AE} {QL : AH → Prop} (ρ : Nat → Nat) (asL as : List Value) (S : SpN d' M' (.ref 0 :: asL) [eL] QL nc' ns') (hdd : d' + 1 ≤ d) (mr : MRi M' as.length) (lk : LKm M.1.cls idx M'.1) (hd : decode M.2.1 pc = .ok (.invokespecial idx, 3)) (hw : (st.map fun v => v.category).sum ≤ 8) (hlen : h0.length = b) (hnd : va_nd (List.range b) = true) (he0 : rE ρ eL = e0) (r0 : ∀ j, j ≤ nc' → ρ j = b + j) (r1 : ∀ k, ρ (1000 + k) = 1000 + k) (r2 : ∀ j, nc' < j → ρ j < b ∨ b + 1 + nc' ≤ ρ j) (has : asL.map (cv ρ) = as) (ok : okH (b + 1) nc' h0 ∧ lv.all (okO (b + 1) nc') = true ∧ st.all (okV (b + 1) nc') = true)
    (k : ∀ hL2 : AH, hL2.length = 1 + nc' → QL hL2 → RunN X d M (b + 1 + nc') nc ns (pc + 3) lv st (h0 ++ hL2.map (rE ρ)) rv Q) : RunN X d M (b + 1) (nc' + nc) (ns' + ns) pc lv (as.reverse ++ .ref b :: st) (h0 ++ [e0]) rv Q := by
  intro p l e R s m args below meth c cells slots Z ad D cs A H locs ls C w hl
  obtain ⟨hx, hb, hml, hown, hts, hN, hR, hcs, hK, hE, hA, hAO, hin, hn9, hend⟩ := id C
  obtain ⟨⟨m1, m2, m3, m4, m5⟩, m6, m7, m8⟩ := mr
  subst he0
  have mg := MRb.good ⟨m1, m2, m3, m4, m5⟩
  have hR9 : (d' + 1 ≤ R.frames) ∧ (8 + (M'.2.2.1 + 11) + 30 * d' ≤ R.locals) := ⟨Nat.le_trans hdd hR.1, by omega⟩
  have e9 : (as.reverse ++ .ref b :: st).map (cv ad) = (as.map (cv ad)).reverse ++ .ref (ad b) :: st.map (cv ad) := by simp [cv]
  have e8 : (as.map (cv ad)).length = as.length := List.length_map _
  have hw9 : 2 * (F0 m pc ls ((as.reverse ++ .ref b :: st).map (cv ad))).monitorRoom + ((st.map (cv ad)).map fun v => v.category).sum ≤ 8 := lv_room (by
    rw [List.map_map, show ((fun v => Value.category v) ∘ cv ad) = (fun v => Value.category v) from funext (cv_cat ad)]; exact hw)
  obtain ⟨adL, hadL⟩ : ∃ adL : Nat → Nat, adL = fun k => ad (ρ k) := ⟨_, rfl⟩
  have hb0 : ρ 0 = b := r0 0 (Nat.zero_le _)
  have ewL : wc cs adL [eL] = [(ad b, cE cs ad (rE ρ eL))] := by
    show [(adL 0, cE cs adL eL)] = _
    rw [hadL, cE_comp]
    show [(ad (ρ 0), _)] = _
    rw [hb0]
  have ewh : wc cs ad (h0 ++ [rE ρ eL]) = wc cs ad h0 ++ wc cs adL [eL] := by
    rw [ewL]
    show wcF cs ad 0 (h0 ++ [rE ρ eL]) = _
    rw [wcF_app, Nat.zero_add, hlen]
    rfl
  have hlr : (wc cs ad h0).length = b := by rw [wc_len, hlen]
  have w1 := w.1
  have w2 := w.2.1
  rw [ewh] at w1 w2
  have hPL : va_P D vwCl (wc cs adL [eL]) H := fun j q hq => w1 (b + j) q (by rw [List.getElem?_append_right (by omega), hlr, show b + j - b = j by omega]; exact hq)
  have hDL : va_D (fun _ => True) (wc cs adL [eL]) := ⟨fun i j x y hi hj _ => by
    have h1 := (List.getElem?_eq_some_iff.mp hi).1
    have h2 := (List.getElem?_eq_some_iff.mp hj).1
    rw [wc_len, List.length_singleton] at h1 h2
    omega, fun _ _ _ => trivial⟩
  have hfree : ∀ q, va_A (wc cs adL [eL]) H.size q → A q := by
    intro q hq
    rcases hq with ⟨j, e2, hj⟩ | hq
    · exact w2.2 (b + j) (q, e2) (by rw [List.getElem?_append_right (by omega), hlr, show b + j - b = j by omega]; exact hj)
    · exact hA q (Nat.le_trans w.2.2.1 hq)
  have hadc : (fun k => adL (1000 + k)) = (fun k => ad (1000 + k)) := by
    rw [hadL]
    funext k
    show ad (ρ (1000 + k)) = _
    rw [r1]
  have hpre : ∀ U : State, U.heap = H → s.WarmedH U.vm → PWN X D cs adL [eL] H.size U := fun U hU hW => ⟨⟨by rw [hU], by rw [hU]; exact hPL, va_K.moved hW.alike hK, hDL, hN.warm hW, by rw [hadc]; exact hE.to hW hU w.2.2 hfree⟩, va_AO.moved hW.alike hAO⟩
  have hargs : (Value.ref 0 :: asL).map (cv adL) = .ref (ad b) :: as.map (cv ad) := by
    rw [List.map_cons, ← has, List.map_map, hadL]
    congr 1
    · show Value.ref (ad (ρ 0)) = _
      rw [hb0]
    · apply List.map_congr_left
      intro v _
      exact cv_comp ad ρ v
  have hM := S X l D cs adL H.size
  rw [hargs] at hM
  have fin : ∀ (H1 : Heap) (locs1 : List Loc) (ad2 : Nat → Nat) (h1 : AH), agr [eL].length nc' adL ad2 → QL h1 → va_P D vwCl (wc cs ad2 h1) H1 → va_D (va_A (wc cs adL [eL]) H.size) (wc cs ad2 h1) → h1.length = [eL].length + nc' → (∀ q : Nat, q < H.size → ¬ va_A (wc cs adL [eL]) H.size q → H1[q]? = H[q]?) → va_S A s.heap H1 locs1 → W p l e R s m args below meth c H1 locs1 (cells + nc') (slots + ns') Z (F0 m (pc + 3) ls (st.map (cv ad))) := by
    intro H1 locs1 ad2 h1 hag hq1 hP1 hD1 hl1 hk1 hS1
    rw [List.length_singleton] at hag hl1
    obtain ⟨ad', had'⟩ : ∃ ad' : Nat → Nat, ad' = fun k => if b + 1 ≤ k ∧ k < b + 1 + nc' then ad2 (k - b) else ad k := ⟨_, rfl⟩
    have g : agr (b + 1) nc' ad ad' := fun k hk => by
      rw [had']
      show (if _ then _ else _) = _
      rw [if_neg (by omega)]
    have key : ∀ j, ad' (ρ j) = ad2 j := by
      intro j
      rw [had']
      show (if b + 1 ≤ ρ j ∧ ρ j < b + 1 + nc' then ad2 (ρ j - b) else ad (ρ j)) = ad2 j
      by_cases h1 : j ≤ nc'
      · rw [r0 j h1]
        by_cases h2 : j = 0
        · subst h2
          rw [if_neg (by omega), hag 0 (Or.inl (by omega)), hadL]
          show ad (b + 0) = ad (ρ 0)
          rw [hb0, Nat.add_zero]
        · rw [if_pos (by omega), show b + j - b = j by omega]
      · have h3 := r2 j (by omega)
        rw [if_neg (by omega), hag j (Or.inr (by omega)), hadL]
    have keyE : ∀ e2, cE cs ad' (rE ρ e2) = cE cs ad2 e2 := by
      intro e2
      rw [← cE_comp]
      have : (fun k => ad' (ρ k)) = ad2 := funext key
      rw [this]
    have ew : wc cs ad' (h0 ++ h1.map (rE ρ)) = wc cs ad h0 ++ wc cs ad2 h1 := by
      show wcF cs ad' 0 (h0 ++ h1.map (rE ρ)) = wcF cs ad 0 h0 ++ wcF cs ad2 0 h1
      rw [wcF_app, okH_wc cs g h0 0 ok.1 (by omega), Nat.zero_add, hlen]
      have e7 := wcF_shift cs (b := b) keyE h1 0 (fun i hi => by
        have := key i
        rw [r0 i (by omega)] at this
        rw [Nat.add_zero, Nat.zero_add]
        exact this)
      rw [Nat.add_zero] at e7
      rw [e7]
    obtain ⟨j1, j2⟩ := va_join (D := D) (cl := vwCl) (wr := wc cs ad h0) (w1 := wc cs ad2 h1) w1 w2 [b] (List.range b) (by
        rw [ewL]
        show [(wc cs ad h0 ++ [(ad b, cE cs ad (rE ρ eL))])[b]?] = _
        rw [List.getElem?_append_right (by omega), hlr, Nat.sub_self]
        rfl) (by
        apply List.ext_getElem?
        intro i
        rw [List.getElem?_map, List.getElem?_map]
        by_cases h9 : i < b
        · rw [List.getElem?_range h9, List.getElem?_eq_getElem (show i < (wc cs ad h0).length by omega)]
          show some ((wc cs ad h0 ++ wc cs adL [eL])[i]?) = _
          rw [List.getElem?_append_left (by omega), List.getElem?_eq_getElem (show i < (wc cs ad h0).length by omega)]
          rfl
        · rw [List.getElem?_eq_none (by rw [List.length_range]; omega), List.getElem?_eq_none (by omega)]
          rfl) hnd (fun i hi hc => by
        have h8 := List.mem_range.mp hi
        have h9 := List.mem_singleton.mp hc
        omega) hk1 hfree hP1 hD1
    have k1 := k h1 (by omega) hq1 p l e R s m args below meth c (cells + nc') (slots + ns') Z ad' D cs A H1 locs1 ls
      ⟨hx, hb, hml, hown, hts, hN, hR, ⟨by omega, by omega⟩, hK, okEv g (by omega) hE, hA, hAO, hin, by omega, fun ad3 H2 locs2 pc2 ls2 ins h2 g2 hq hp hd2 hs2 hr2 hdc => by
        have k2 := hend ad3 H2 locs2 pc2 ls2 ins h2 (fun j hj => (g2 j (by omega)).trans (g j (by omega))) hq hp hd2 hs2 hr2 hdc
        rw [show cells + nc' + nc = cells + (nc' + nc) by omega, show slots + ns' + ns = slots + (ns' + ns) by omega]
        exact k2⟩
      ⟨by rw [ew]; exact j1, by rw [ew]; exact j2, hS1⟩ (okLH g ok.2.1 hl)
    rw [okL_cv g ok.2.2] at k1
    exact k1
  rcases lk with lk | ⟨host, lk⟩
  · exact callN (va_runI (As := as.map (cv ad)) (rest := st.map (cv ad)) ⟨hx, hb, hml, hown, hts⟩ hM ⟨callB_of as.length hts mg (by rw [m8]) rfl rfl (hts _ m2) (hts _ lk) m3 hR9, m7, hts _ m6⟩ ⟨PWN.blind _, fun U hU hW => ⟨rfl, hpre U hU hW⟩⟩ rfl e8 hl.1 e9 hw9 hd ⟨by omega, by omega⟩) w.2.2 hfree fin
  · exact callN (va_runIN (As := as.map (cv ad)) (rest := st.map (cv ad)) ⟨hx, hb, hml, hown, hts⟩ hM ⟨va_cnB as.length hts mg (by rw [m8]) rfl rfl (hN _ lk) (hts _ m2) m3 hR9, m7, hts _ m6⟩ ⟨PWN.blind _, fun U hU hW => ⟨rfl, hpre U hU hW⟩⟩ rfl e8 hl.1 e9 hw9 hd ⟨by omega, by omega⟩) w.2.2 hfree fin
/-- behind the last cell that is made, with the cells in another order -/
theorem n_ofQ {X : SX} {d : Nat} {M : Mt} {n nc ns pc : Nat} {lv lv2 : List (Option Value)} {h h2 : AH} {v : Int32} (is : List Nat) (hn : va_nd is = true) (hsm : is.length ≤ 1000) (hsub : is.map (fun i => h[i]?) = h2.map (fun e => some (rE (rh is) e))) (hlv : lv2.map (Option.map (cv (rh is))) = lv) (k : RunQ X d M pc lv2 [] h2 (some (.int v)) (fun _ => True)) : RunN X d M n nc ns pc lv [] h (some (.int v)) (fun _ => True) := by
  intro p l e R s m args below meth c cells slots Z ad D cs A H locs ls C w hl
  obtain ⟨hx, hb, hml, hown, hts, hN, hR, hcs, hK, hE, hA, hAO, hin, hn9, hend⟩ := id C
  have hae : (fun k => ad (rh is (1000 + k))) = (fun k => ad (1000 + k)) := by
    funext k
    unfold rh
    rw [List.getElem?_eq_none (by omega)]
  have hrhA : ∀ (j i : Nat), is[j]? = some i → rh is j = i := fun j i hj => by unfold rh; rw [hj]
  have hat : ∀ (j : Nat) (e : AE), h2[j]? = some e → ∃ i, is[j]? = some i ∧ h[i]? = some (rE (rh is) e) := by
    intro j e hj
    have h1 : (is.map (fun i => h[i]?))[j]? = some (some (rE (rh is) e)) := by rw [hsub, List.getElem?_map, hj]; rfl
    rw [List.getElem?_map] at h1
    cases h3 : is[j]? with
    | none => rw [h3] at h1; cases h1
    | some i => rw [h3] at h1; exact ⟨i, rfl, Option.some.inj h1⟩
  have hat2 : ∀ (j : Nat) (q : Nat × va_E), (wc cs (fun k => ad (rh is k)) h2)[j]? = some q → ∃ i, is[j]? = some i ∧ (wc cs ad h)[i]? = some q := by
    intro j q hq
    rw [wc_get] at hq
    cases h3 : h2[j]? with
    | none => rw [h3] at hq; cases hq
    | some e2 =>
      rw [h3] at hq
      cases hq
      obtain ⟨i, h4, h5⟩ := hat j e2 h3
      refine ⟨i, h4, ?_⟩
      rw [wc_at h5]
      show some (ad i, cE cs ad (rE (rh is) e2)) = some (ad (rh is j), cE cs (fun k => ad (rh is k)) e2)
      rw [hrhA j i h4, cE_comp cs ad (rh is) e2]
  refine k p l e R s m args below meth c cells slots Z (fun k => ad (rh is k)) D cs A H locs ls ⟨hx, hb, hml, hown, hts, hN, hR, ⟨by omega, by omega⟩, hK, by rw [hae]; exact hE, hA, ?_⟩ ⟨fun j q hq => ?_, ⟨fun i j x y hi hj hxy => ?_, fun j q hq => ?_⟩, w.2.2⟩ ⟨hl.1, hl.2.1, fun i u hi => ?_⟩
  · intro H1 locs1 pc1 ls1 ins h' _ hP2 hD2 hS2 hret hdec
    exact W.widen (k := cells + nc) (n := slots + ns) (Nat.le_add_right _ _) (Nat.le_add_right _ _) (hend ad H1 locs1 pc1 ls1 ins [] (fun _ _ => rfl) trivial (fun j q hq => (by cases hq)) ⟨fun i j x y hi _ _ => (by cases hi), fun j q hq => (by cases hq)⟩ hS2 hret hdec)
  · obtain ⟨i, -, h5⟩ := hat2 j q hq
    exact w.1 i q h5
  · obtain ⟨a, h5, h6⟩ := hat2 i x hi
    obtain ⟨b, h7, h8⟩ := hat2 j y hj
    have hab := w.2.1.1 a b _ _ h6 h8 hxy
    subst hab
    exact va_nd_inj is hn i j a h5 h7
  · obtain ⟨i, -, h5⟩ := hat2 j q hq
    exact w.2.1.2 i q h5
  · have h3 : lv[i]? = some (some (cv (rh is) u)) := by rw [← hlv, List.getElem?_map, hi]; rfl
    have h4 := hl.2.2 i _ h3
    rw [← cv_comp] at h4
    exact h4
