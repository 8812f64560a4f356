theorem r_iconst {X : SX} {d : Nat} {M : Mt} {pc : Nat} {lv : List (Option Value)} {st : List Value} {h : AH} {rv : Option Value} {Q : AH → Prop} {n : Int} {v : Int32} (hd : decode M.2.1 pc = .ok (.iconst n, 1)) (hv : Int32.ofInt n = v) (k : RunQ X d M (pc + 1) lv (.int v :: st) h rv Q) : RunQ X d M (pc) lv (st) h rv Q := by
  intro p l e R s m args below meth c cells slots Z ad D cs A H locs ls C w hl
  obtain ⟨hx, hb, hml, hown, hts, hN, hR, hcs, hK, hE, hA, hend⟩ := id C
  exact lv_iconst hx hb hd hv (k p l e R s m args below meth c cells slots Z ad D cs A H locs ls C w hl)

theorem r_bipush {X : SX} {d : Nat} {M : Mt} {pc : Nat} {lv : List (Option Value)} {st : List Value} {h : AH} {rv : Option Value} {Q : AH → Prop} {n : Int} {v : Int32} (hd : decode M.2.1 pc = .ok (.bipush n, 2)) (hv : (Int8.ofInt n).toInt32 = v) (k : RunQ X d M (pc + 2) lv (.int v :: st) h rv Q) : RunQ X d M (pc) lv (st) h rv Q := by
  intro p l e R s m args below meth c cells slots Z ad D cs A H locs ls C w hl
  obtain ⟨hx, hb, hml, hown, hts, hN, hR, hcs, hK, hE, hA, hend⟩ := id C
  exact lv_bipush hx hb hd hv (k p l e R s m args below meth c cells slots Z ad D cs A H locs ls C w hl)

theorem r_sipush {X : SX} {d : Nat} {M : Mt} {pc : Nat} {lv : List (Option Value)} {st : List Value} {h : AH} {rv : Option Value} {Q : AH → Prop} {n : Int} {v : Int32} (hd : decode M.2.1 pc = .ok (.sipush n, 3)) (hv : (Int16.ofInt n).toInt32 = v) (k : RunQ X d M (pc + 3) lv (.int v :: st) h rv Q) : RunQ X d M (pc) lv (st) h rv Q := by
  intro p l e R s m args below meth c cells slots Z ad D cs A H locs ls C w hl
  obtain ⟨hx, hb, hml, hown, hts, hN, hR, hcs, hK, hE, hA, hend⟩ := id C
  exact lv_sipush hx hb hd hv (k p l e R s m args below meth c cells slots Z ad D cs A H locs ls C w hl)

theorem r_lconst {X : SX} {d : Nat} {M : Mt} {pc : Nat} {lv : List (Option Value)} {st : List Value} {h : AH} {rv : Option Value} {Q : AH → Prop} {n : Fin 2} {v : Int64} (hd : decode M.2.1 pc = .ok (.lconst n, 1)) (hv : Int64.ofNat (n : Nat) = v) (k : RunQ X d M (pc + 1) lv (.long v :: st) h rv Q) : RunQ X d M (pc) lv (st) h rv Q := by
  intro p l e R s m args below meth c cells slots Z ad D cs A H locs ls C w hl
  obtain ⟨hx, hb, hml, hown, hts, hN, hR, hcs, hK, hE, hA, hend⟩ := id C
  exact lv_lconst hx hb hd hv (k p l e R s m args below meth c cells slots Z ad D cs A H locs ls C w hl)

theorem r_iload_n {X : SX} {d : Nat} {M : Mt} {pc : Nat} {lv : List (Option Value)} {st : List Value} {h : AH} {rv : Option Value} {Q : AH → Prop} {j : Fin 4} {x : Int32} (hd : decode M.2.1 pc = .ok (.iload_n j, 1)) (hv : lv[(j : Nat)]? = some (some (.int x))) (k : RunQ X d M (pc + 1) lv (.int x :: st) h rv Q) : RunQ X d M (pc) lv (st) h rv Q := by
  intro p l e R s m args below meth c cells slots Z ad D cs A H locs ls C w hl
  obtain ⟨hx, hb, hml, hown, hts, hN, hR, hcs, hK, hE, hA, hend⟩ := id C
  exact lv_iload_n hx hb hd rfl (hl.2.2 _ _ hv) (k p l e R s m args below meth c cells slots Z ad D cs A H locs ls C w hl)

theorem r_iload {X : SX} {d : Nat} {M : Mt} {pc : Nat} {lv : List (Option Value)} {st : List Value} {h : AH} {rv : Option Value} {Q : AH → Prop} {j : Nat} {x : Int32} (hd : decode M.2.1 pc = .ok (.iload j, 2)) (hv : lv[j]? = some (some (.int x))) (k : RunQ X d M (pc + 2) lv (.int x :: st) h rv Q) : RunQ X d M (pc) lv (st) h rv Q := by
  intro p l e R s m args below meth c cells slots Z ad D cs A H locs ls C w hl
  obtain ⟨hx, hb, hml, hown, hts, hN, hR, hcs, hK, hE, hA, hend⟩ := id C
  exact lv_iload hx hb hd (hl.2.2 _ _ hv) (k p l e R s m args below meth c cells slots Z ad D cs A H locs ls C w hl)

theorem r_lload_n {X : SX} {d : Nat} {M : Mt} {pc : Nat} {lv : List (Option Value)} {st : List Value} {h : AH} {rv : Option Value} {Q : AH → Prop} {j : Fin 4} {x : Int64} (hd : decode M.2.1 pc = .ok (.lload_n j, 1)) (hv : lv[(j : Nat)]? = some (some (.long x))) (k : RunQ X d M (pc + 1) lv (.long x :: st) h rv Q) : RunQ X d M (pc) lv (st) h rv Q := by
  intro p l e R s m args below meth c cells slots Z ad D cs A H locs ls C w hl
  obtain ⟨hx, hb, hml, hown, hts, hN, hR, hcs, hK, hE, hA, hend⟩ := id C
  exact lv_lload_n hx hb hd rfl (hl.2.2 _ _ hv) (k p l e R s m args below meth c cells slots Z ad D cs A H locs ls C w hl)

theorem r_lload {X : SX} {d : Nat} {M : Mt} {pc : Nat} {lv : List (Option Value)} {st : List Value} {h : AH} {rv : Option Value} {Q : AH → Prop} {j : Nat} {x : Int64} (hd : decode M.2.1 pc = .ok (.lload j, 2)) (hv : lv[j]? = some (some (.long x))) (k : RunQ X d M (pc + 2) lv (.long x :: st) h rv Q) : RunQ X d M (pc) lv (st) h rv Q := by
  intro p l e R s m args below meth c cells slots Z ad D cs A H locs ls C w hl
  obtain ⟨hx, hb, hml, hown, hts, hN, hR, hcs, hK, hE, hA, hend⟩ := id C
  exact lv_lload hx hb hd (hl.2.2 _ _ hv) (k p l e R s m args below meth c cells slots Z ad D cs A H locs ls C w hl)

theorem r_aload_n {X : SX} {d : Nat} {M : Mt} {pc : Nat} {lv : List (Option Value)} {st : List Value} {h : AH} {rv : Option Value} {Q : AH → Prop} {j : Fin 4} {x : Nat} (hd : decode M.2.1 pc = .ok (.aload_n j, 1)) (hv : lv[(j : Nat)]? = some (some (.ref x))) (k : RunQ X d M (pc + 1) lv (.ref x :: st) h rv Q) : RunQ X d M (pc) lv (st) h rv Q := by
  intro p l e R s m args below meth c cells slots Z ad D cs A H locs ls C w hl
  obtain ⟨hx, hb, hml, hown, hts, hN, hR, hcs, hK, hE, hA, hend⟩ := id C
  exact lv_aload_n hx hb hd rfl (hl.2.2 _ _ hv) (k p l e R s m args below meth c cells slots Z ad D cs A H locs ls C w hl)

theorem r_aload {X : SX} {d : Nat} {M : Mt} {pc : Nat} {lv : List (Option Value)} {st : List Value} {h : AH} {rv : Option Value} {Q : AH → Prop} {j : Nat} {x : Nat} (hd : decode M.2.1 pc = .ok (.aload j, 2)) (hv : lv[j]? = some (some (.ref x))) (k : RunQ X d M (pc + 2) lv (.ref x :: st) h rv Q) : RunQ X d M (pc) lv (st) h rv Q := by
  intro p l e R s m args below meth c cells slots Z ad D cs A H locs ls C w hl
  obtain ⟨hx, hb, hml, hown, hts, hN, hR, hcs, hK, hE, hA, hend⟩ := id C
  exact lv_aload hx hb hd (hl.2.2 _ _ hv) (k p l e R s m args below meth c cells slots Z ad D cs A H locs ls C w hl)

theorem r_istore_n {X : SX} {d : Nat} {M : Mt} {pc : Nat} {lv : List (Option Value)} {st : List Value} {h : AH} {rv : Option Value} {Q : AH → Prop} {j : Fin 4} {x : Int32} {lv' : List (Option Value)} (hd : decode M.2.1 pc = .ok (.istore_n j, 1)) (hj : (j : Nat) < M.2.2.1) (hv : st1 lv (j : Nat) (.int x) = lv') (k : RunQ X d M (pc + 1) lv' (st) h rv Q) : RunQ X d M (pc) lv (.int x :: st) h rv Q := by
  intro p l e R s m args below meth c cells slots Z ad D cs A H locs ls C w hl
  obtain ⟨hx, hb, hml, hown, hts, hN, hR, hcs, hK, hE, hA, hend⟩ := id C
  subst hv
  exact lv_istore_n hx hb hd rfl hl.has hj rfl (fun ls' h' => k p l e R s m args below meth c cells slots Z ad D cs A H locs ls' C w (LH_st1 (v := .int x) h'))

theorem r_istore {X : SX} {d : Nat} {M : Mt} {pc : Nat} {lv : List (Option Value)} {st : List Value} {h : AH} {rv : Option Value} {Q : AH → Prop} {j : Nat} {x : Int32} {lv' : List (Option Value)} (hd : decode M.2.1 pc = .ok (.istore j, 2)) (hj : j < M.2.2.1) (hv : st1 lv j (.int x) = lv') (k : RunQ X d M (pc + 2) lv' (st) h rv Q) : RunQ X d M (pc) lv (.int x :: st) h rv Q := by
  intro p l e R s m args below meth c cells slots Z ad D cs A H locs ls C w hl
  obtain ⟨hx, hb, hml, hown, hts, hN, hR, hcs, hK, hE, hA, hend⟩ := id C
  subst hv
  exact lv_istore hx hb hd hl.has hj rfl (fun ls' h' => k p l e R s m args below meth c cells slots Z ad D cs A H locs ls' C w (LH_st1 (v := .int x) h'))

theorem r_astore_n {X : SX} {d : Nat} {M : Mt} {pc : Nat} {lv : List (Option Value)} {st : List Value} {h : AH} {rv : Option Value} {Q : AH → Prop} {j : Fin 4} {x : Nat} {lv' : List (Option Value)} (hd : decode M.2.1 pc = .ok (.astore_n j, 1)) (hj : (j : Nat) < M.2.2.1) (hv : st1 lv (j : Nat) (.ref x) = lv') (k : RunQ X d M (pc + 1) lv' (st) h rv Q) : RunQ X d M (pc) lv (.ref x :: st) h rv Q := by
  intro p l e R s m args below meth c cells slots Z ad D cs A H locs ls C w hl
  obtain ⟨hx, hb, hml, hown, hts, hN, hR, hcs, hK, hE, hA, hend⟩ := id C
  subst hv
  exact lv_astore_n hx hb hd rfl hl.has hj rfl (fun ls' h' => k p l e R s m args below meth c cells slots Z ad D cs A H locs ls' C w (LH_st1 (v := .ref x) h'))

theorem r_astore {X : SX} {d : Nat} {M : Mt} {pc : Nat} {lv : List (Option Value)} {st : List Value} {h : AH} {rv : Option Value} {Q : AH → Prop} {j : Nat} {x : Nat} {lv' : List (Option Value)} (hd : decode M.2.1 pc = .ok (.astore j, 2)) (hj : j < M.2.2.1) (hv : st1 lv j (.ref x) = lv') (k : RunQ X d M (pc + 2) lv' (st) h rv Q) : RunQ X d M (pc) lv (.ref x :: st) h rv Q := by
  intro p l e R s m args below meth c cells slots Z ad D cs A H locs ls C w hl
  obtain ⟨hx, hb, hml, hown, hts, hN, hR, hcs, hK, hE, hA, hend⟩ := id C
  subst hv
  exact lv_astore hx hb hd hl.has hj rfl (fun ls' h' => k p l e R s m args below meth c cells slots Z ad D cs A H locs ls' C w (LH_st1 (v := .ref x) h'))

theorem r_lstore_n {X : SX} {d : Nat} {M : Mt} {pc : Nat} {lv : List (Option Value)} {st : List Value} {h : AH} {rv : Option Value} {Q : AH → Prop} {j : Fin 4} {x : Int64} {lv' : List (Option Value)} (hd : decode M.2.1 pc = .ok (.lstore_n j, 1)) (hj : (j : Nat) + 1 < M.2.2.1) (hv : st2 lv (j : Nat) (.long x) = lv') (k : RunQ X d M (pc + 1) lv' (st) h rv Q) : RunQ X d M (pc) lv (.long x :: st) h rv Q := by
  intro p l e R s m args below meth c cells slots Z ad D cs A H locs ls C w hl
  obtain ⟨hx, hb, hml, hown, hts, hN, hR, hcs, hK, hE, hA, hend⟩ := id C
  subst hv
  exact lv_lstore_n hx hb hd rfl hl.has hj rfl (fun ls' h' => k p l e R s m args below meth c cells slots Z ad D cs A H locs ls' C w (LH_st2 (v := .long x) h'))

theorem r_lstore {X : SX} {d : Nat} {M : Mt} {pc : Nat} {lv : List (Option Value)} {st : List Value} {h : AH} {rv : Option Value} {Q : AH → Prop} {j : Nat} {x : Int64} {lv' : List (Option Value)} (hd : decode M.2.1 pc = .ok (.lstore j, 2)) (hj : j + 1 < M.2.2.1) (hv : st2 lv j (.long x) = lv') (k : RunQ X d M (pc + 2) lv' (st) h rv Q) : RunQ X d M (pc) lv (.long x :: st) h rv Q := by
  intro p l e R s m args below meth c cells slots Z ad D cs A H locs ls C w hl
  obtain ⟨hx, hb, hml, hown, hts, hN, hR, hcs, hK, hE, hA, hend⟩ := id C
  subst hv
  exact lv_lstore hx hb hd hl.has hj rfl (fun ls' h' => k p l e R s m args below meth c cells slots Z ad D cs A H locs ls' C w (LH_st2 (v := .long x) h'))

theorem r_iinc {X : SX} {d : Nat} {M : Mt} {pc : Nat} {lv : List (Option Value)} {st : List Value} {h : AH} {rv : Option Value} {Q : AH → Prop} {j : Nat} {n : Int} {x v : Int32} {lv' : List (Option Value)} (hd : decode M.2.1 pc = .ok (.iinc j n, 3)) (hj : j < M.2.2.1) (hx0 : lv[j]? = some (some (.int x))) (hv0 : x + Int32.ofInt n = v) (hv : st1 lv j (.int v) = lv') (k : RunQ X d M (pc + 3) lv' (st) h rv Q) : RunQ X d M (pc) lv (st) h rv Q := by
  intro p l e R s m args below meth c cells slots Z ad D cs A H locs ls C w hl
  obtain ⟨hx, hb, hml, hown, hts, hN, hR, hcs, hK, hE, hA, hend⟩ := id C
  subst hv
  obtain ⟨kk, hkk⟩ := List.getElem?_of_mem (lvl_mem (ad := ad) hx0)
  exact lv_iinc hx hb hd hl.has (k := kk) hkk hv0 hj rfl (fun ls' h' => k p l e R s m args below meth c cells slots Z ad D cs A H locs ls' C w (LH_st1 (v := .int v) h'))

theorem r_iadd {X : SX} {d : Nat} {M : Mt} {pc : Nat} {lv : List (Option Value)} {st : List Value} {h : AH} {rv : Option Value} {Q : AH → Prop} {x y : Int32} (hd : decode M.2.1 pc = .ok (.iadd, 1)) (k : RunQ X d M (pc + 1) lv (.int (x + y) :: st) h rv Q) : RunQ X d M (pc) lv (.int y :: .int x :: st) h rv Q := by
  intro p l e R s m args below meth c cells slots Z ad D cs A H locs ls C w hl
  obtain ⟨hx, hb, hml, hown, hts, hN, hR, hcs, hK, hE, hA, hend⟩ := id C
  exact lv_iadd hx hb hd (k p l e R s m args below meth c cells slots Z ad D cs A H locs ls C w hl)

theorem r_isub {X : SX} {d : Nat} {M : Mt} {pc : Nat} {lv : List (Option Value)} {st : List Value} {h : AH} {rv : Option Value} {Q : AH → Prop} {x y : Int32} (hd : decode M.2.1 pc = .ok (.isub, 1)) (k : RunQ X d M (pc + 1) lv (.int (x - y) :: st) h rv Q) : RunQ X d M (pc) lv (.int y :: .int x :: st) h rv Q := by
  intro p l e R s m args below meth c cells slots Z ad D cs A H locs ls C w hl
  obtain ⟨hx, hb, hml, hown, hts, hN, hR, hcs, hK, hE, hA, hend⟩ := id C
  exact lv_isub hx hb hd (k p l e R s m args below meth c cells slots Z ad D cs A H locs ls C w hl)

theorem r_imul {X : SX} {d : Nat} {M : Mt} {pc : Nat} {lv : List (Option Value)} {st : List Value} {h : AH} {rv : Option Value} {Q : AH → Prop} {x y : Int32} (hd : decode M.2.1 pc = .ok (.imul, 1)) (k : RunQ X d M (pc + 1) lv (.int (x * y) :: st) h rv Q) : RunQ X d M (pc) lv (.int y :: .int x :: st) h rv Q := by
  intro p l e R s m args below meth c cells slots Z ad D cs A H locs ls C w hl
  obtain ⟨hx, hb, hml, hown, hts, hN, hR, hcs, hK, hE, hA, hend⟩ := id C
  exact lv_imul hx hb hd (k p l e R s m args below meth c cells slots Z ad D cs A H locs ls C w hl)

theorem r_iand {X : SX} {d : Nat} {M : Mt} {pc : Nat} {lv : List (Option Value)} {st : List Value} {h : AH} {rv : Option Value} {Q : AH → Prop} {x y : Int32} (hd : decode M.2.1 pc = .ok (.iand, 1)) (k : RunQ X d M (pc + 1) lv (.int (x &&& y) :: st) h rv Q) : RunQ X d M (pc) lv (.int y :: .int x :: st) h rv Q := by
  intro p l e R s m args below meth c cells slots Z ad D cs A H locs ls C w hl
  obtain ⟨hx, hb, hml, hown, hts, hN, hR, hcs, hK, hE, hA, hend⟩ := id C
  exact lv_iand hx hb hd (k p l e R s m args below meth c cells slots Z ad D cs A H locs ls C w hl)

theorem r_ior {X : SX} {d : Nat} {M : Mt} {pc : Nat} {lv : List (Option Value)} {st : List Value} {h : AH} {rv : Option Value} {Q : AH → Prop} {x y : Int32} (hd : decode M.2.1 pc = .ok (.ior, 1)) (k : RunQ X d M (pc + 1) lv (.int (x ||| y) :: st) h rv Q) : RunQ X d M (pc) lv (.int y :: .int x :: st) h rv Q := by
  intro p l e R s m args below meth c cells slots Z ad D cs A H locs ls C w hl
  obtain ⟨hx, hb, hml, hown, hts, hN, hR, hcs, hK, hE, hA, hend⟩ := id C
  exact lv_ior hx hb hd (k p l e R s m args below meth c cells slots Z ad D cs A H locs ls C w hl)

theorem r_ixor {X : SX} {d : Nat} {M : Mt} {pc : Nat} {lv : List (Option Value)} {st : List Value} {h : AH} {rv : Option Value} {Q : AH → Prop} {x y : Int32} (hd : decode M.2.1 pc = .ok (.ixor, 1)) (k : RunQ X d M (pc + 1) lv (.int (x ^^^ y) :: st) h rv Q) : RunQ X d M (pc) lv (.int y :: .int x :: st) h rv Q := by
  intro p l e R s m args below meth c cells slots Z ad D cs A H locs ls C w hl
  obtain ⟨hx, hb, hml, hown, hts, hN, hR, hcs, hK, hE, hA, hend⟩ := id C
  exact lv_ixor hx hb hd (k p l e R s m args below meth c cells slots Z ad D cs A H locs ls C w hl)

theorem r_ishl {X : SX} {d : Nat} {M : Mt} {pc : Nat} {lv : List (Option Value)} {st : List Value} {h : AH} {rv : Option Value} {Q : AH → Prop} {x y : Int32} (hd : decode M.2.1 pc = .ok (.ishl, 1)) (k : RunQ X d M (pc + 1) lv (.int (x <<< (y &&& 31)) :: st) h rv Q) : RunQ X d M (pc) lv (.int y :: .int x :: st) h rv Q := by
  intro p l e R s m args below meth c cells slots Z ad D cs A H locs ls C w hl
  obtain ⟨hx, hb, hml, hown, hts, hN, hR, hcs, hK, hE, hA, hend⟩ := id C
  exact lv_ishl hx hb hd (k p l e R s m args below meth c cells slots Z ad D cs A H locs ls C w hl)

theorem r_ishr {X : SX} {d : Nat} {M : Mt} {pc : Nat} {lv : List (Option Value)} {st : List Value} {h : AH} {rv : Option Value} {Q : AH → Prop} {x y : Int32} (hd : decode M.2.1 pc = .ok (.ishr, 1)) (k : RunQ X d M (pc + 1) lv (.int (x >>> (y &&& 31)) :: st) h rv Q) : RunQ X d M (pc) lv (.int y :: .int x :: st) h rv Q := by
  intro p l e R s m args below meth c cells slots Z ad D cs A H locs ls C w hl
  obtain ⟨hx, hb, hml, hown, hts, hN, hR, hcs, hK, hE, hA, hend⟩ := id C
  exact lv_ishr hx hb hd (k p l e R s m args below meth c cells slots Z ad D cs A H locs ls C w hl)

theorem r_idiv {X : SX} {d : Nat} {M : Mt} {pc : Nat} {lv : List (Option Value)} {st : List Value} {h : AH} {rv : Option Value} {Q : AH → Prop} {x y : Int32} (hd : decode M.2.1 pc = .ok (.idiv, 1)) (hne : ¬ y = 0) (k : RunQ X d M (pc + 1) lv (.int (x / y) :: st) h rv Q) : RunQ X d M (pc) lv (.int y :: .int x :: st) h rv Q := by
  intro p l e R s m args below meth c cells slots Z ad D cs A H locs ls C w hl
  obtain ⟨hx, hb, hml, hown, hts, hN, hR, hcs, hK, hE, hA, hend⟩ := id C
  exact lv_idiv hx hb hd hne (k p l e R s m args below meth c cells slots Z ad D cs A H locs ls C w hl)

theorem r_irem {X : SX} {d : Nat} {M : Mt} {pc : Nat} {lv : List (Option Value)} {st : List Value} {h : AH} {rv : Option Value} {Q : AH → Prop} {x y : Int32} (hd : decode M.2.1 pc = .ok (.irem, 1)) (hne : ¬ y = 0) (k : RunQ X d M (pc + 1) lv (.int (x - x / y * y) :: st) h rv Q) : RunQ X d M (pc) lv (.int y :: .int x :: st) h rv Q := by
  intro p l e R s m args below meth c cells slots Z ad D cs A H locs ls C w hl
  obtain ⟨hx, hb, hml, hown, hts, hN, hR, hcs, hK, hE, hA, hend⟩ := id C
  exact lv_irem hx hb hd hne (k p l e R s m args below meth c cells slots Z ad D cs A H locs ls C w hl)

theorem r_iushr {X : SX} {d : Nat} {M : Mt} {pc : Nat} {lv : List (Option Value)} {st : List Value} {h : AH} {rv : Option Value} {Q : AH → Prop} {x y v : Int32} (hd : decode M.2.1 pc = .ok (.iushr, 1)) (hv : (x.toUInt32 >>> (y.toUInt32 &&& Int32.toUInt32 31)).toInt32 = v) (k : RunQ X d M (pc + 1) lv (.int v :: st) h rv Q) : RunQ X d M (pc) lv (.int y :: .int x :: st) h rv Q := by
  intro p l e R s m args below meth c cells slots Z ad D cs A H locs ls C w hl
  obtain ⟨hx, hb, hml, hown, hts, hN, hR, hcs, hK, hE, hA, hend⟩ := id C
  exact lv_iushr hx hb hd hv (k p l e R s m args below meth c cells slots Z ad D cs A H locs ls C w hl)

theorem r_ineg {X : SX} {d : Nat} {M : Mt} {pc : Nat} {lv : List (Option Value)} {st : List Value} {h : AH} {rv : Option Value} {Q : AH → Prop} {x : Int32} (hd : decode M.2.1 pc = .ok (.ineg, 1)) (k : RunQ X d M (pc + 1) lv (.int (-x) :: st) h rv Q) : RunQ X d M (pc) lv (.int x :: st) h rv Q := by
  intro p l e R s m args below meth c cells slots Z ad D cs A H locs ls C w hl
  obtain ⟨hx, hb, hml, hown, hts, hN, hR, hcs, hK, hE, hA, hend⟩ := id C
  exact lv_ineg hx hb hd (k p l e R s m args below meth c cells slots Z ad D cs A H locs ls C w hl)

theorem r_ladd {X : SX} {d : Nat} {M : Mt} {pc : Nat} {lv : List (Option Value)} {st : List Value} {h : AH} {rv : Option Value} {Q : AH → Prop} {x y : Int64} (hd : decode M.2.1 pc = .ok (.ladd, 1)) (k : RunQ X d M (pc + 1) lv (.long (x + y) :: st) h rv Q) : RunQ X d M (pc) lv (.long y :: .long x :: st) h rv Q := by
  intro p l e R s m args below meth c cells slots Z ad D cs A H locs ls C w hl
  obtain ⟨hx, hb, hml, hown, hts, hN, hR, hcs, hK, hE, hA, hend⟩ := id C
  exact lv_ladd hx hb hd (k p l e R s m args below meth c cells slots Z ad D cs A H locs ls C w hl)

theorem r_lmul {X : SX} {d : Nat} {M : Mt} {pc : Nat} {lv : List (Option Value)} {st : List Value} {h : AH} {rv : Option Value} {Q : AH → Prop} {x y : Int64} (hd : decode M.2.1 pc = .ok (.lmul, 1)) (k : RunQ X d M (pc + 1) lv (.long (x * y) :: st) h rv Q) : RunQ X d M (pc) lv (.long y :: .long x :: st) h rv Q := by
  intro p l e R s m args below meth c cells slots Z ad D cs A H locs ls C w hl
  obtain ⟨hx, hb, hml, hown, hts, hN, hR, hcs, hK, hE, hA, hend⟩ := id C
  exact lv_lmul hx hb hd (k p l e R s m args below meth c cells slots Z ad D cs A H locs ls C w hl)

theorem r_land {X : SX} {d : Nat} {M : Mt} {pc : Nat} {lv : List (Option Value)} {st : List Value} {h : AH} {rv : Option Value} {Q : AH → Prop} {x y : Int64} (hd : decode M.2.1 pc = .ok (.land, 1)) (k : RunQ X d M (pc + 1) lv (.long (x &&& y) :: st) h rv Q) : RunQ X d M (pc) lv (.long y :: .long x :: st) h rv Q := by
  intro p l e R s m args below meth c cells slots Z ad D cs A H locs ls C w hl
  obtain ⟨hx, hb, hml, hown, hts, hN, hR, hcs, hK, hE, hA, hend⟩ := id C
  exact lv_land hx hb hd (k p l e R s m args below meth c cells slots Z ad D cs A H locs ls C w hl)

theorem r_lor {X : SX} {d : Nat} {M : Mt} {pc : Nat} {lv : List (Option Value)} {st : List Value} {h : AH} {rv : Option Value} {Q : AH → Prop} {x y : Int64} (hd : decode M.2.1 pc = .ok (.lor, 1)) (k : RunQ X d M (pc + 1) lv (.long (x ||| y) :: st) h rv Q) : RunQ X d M (pc) lv (.long y :: .long x :: st) h rv Q := by
  intro p l e R s m args below meth c cells slots Z ad D cs A H locs ls C w hl
  obtain ⟨hx, hb, hml, hown, hts, hN, hR, hcs, hK, hE, hA, hend⟩ := id C
  exact lv_lor hx hb hd (k p l e R s m args below meth c cells slots Z ad D cs A H locs ls C w hl)

theorem r_lshl {X : SX} {d : Nat} {M : Mt} {pc : Nat} {lv : List (Option Value)} {st : List Value} {h : AH} {rv : Option Value} {Q : AH → Prop} {x v : Int64} {y : Int32} (hd : decode M.2.1 pc = .ok (.lshl, 1)) (hv : x <<< (y.toInt64 &&& 63) = v) (k : RunQ X d M (pc + 1) lv (.long v :: st) h rv Q) : RunQ X d M (pc) lv (.int y :: .long x :: st) h rv Q := by
  intro p l e R s m args below meth c cells slots Z ad D cs A H locs ls C w hl
  obtain ⟨hx, hb, hml, hown, hts, hN, hR, hcs, hK, hE, hA, hend⟩ := id C
  exact lv_lshl hx hb hd hv (k p l e R s m args below meth c cells slots Z ad D cs A H locs ls C w hl)

theorem r_lcmp {X : SX} {d : Nat} {M : Mt} {pc : Nat} {lv : List (Option Value)} {st : List Value} {h : AH} {rv : Option Value} {Q : AH → Prop} {x y : Int64} (hd : decode M.2.1 pc = .ok (.lcmp, 1)) (k : RunQ X d M (pc + 1) lv (.int (lg_cmp x y) :: st) h rv Q) : RunQ X d M (pc) lv (.long y :: .long x :: st) h rv Q := by
  intro p l e R s m args below meth c cells slots Z ad D cs A H locs ls C w hl
  obtain ⟨hx, hb, hml, hown, hts, hN, hR, hcs, hK, hE, hA, hend⟩ := id C
  exact W.lcmp hx hb hd (k p l e R s m args below meth c cells slots Z ad D cs A H locs ls C w hl)

theorem r_i2l {X : SX} {d : Nat} {M : Mt} {pc : Nat} {lv : List (Option Value)} {st : List Value} {h : AH} {rv : Option Value} {Q : AH → Prop} {x : Int32} (hd : decode M.2.1 pc = .ok (.i2l, 1)) (k : RunQ X d M (pc + 1) lv (.long x.toInt64 :: st) h rv Q) : RunQ X d M (pc) lv (.int x :: st) h rv Q := by
  intro p l e R s m args below meth c cells slots Z ad D cs A H locs ls C w hl
  obtain ⟨hx, hb, hml, hown, hts, hN, hR, hcs, hK, hE, hA, hend⟩ := id C
  exact lv_i2l hx hb hd rfl (k p l e R s m args below meth c cells slots Z ad D cs A H locs ls C w hl)

theorem r_l2i {X : SX} {d : Nat} {M : Mt} {pc : Nat} {lv : List (Option Value)} {st : List Value} {h : AH} {rv : Option Value} {Q : AH → Prop} {x : Int64} (hd : decode M.2.1 pc = .ok (.l2i, 1)) (k : RunQ X d M (pc + 1) lv (.int x.toInt32 :: st) h rv Q) : RunQ X d M (pc) lv (.long x :: st) h rv Q := by
  intro p l e R s m args below meth c cells slots Z ad D cs A H locs ls C w hl
  obtain ⟨hx, hb, hml, hown, hts, hN, hR, hcs, hK, hE, hA, hend⟩ := id C
  exact lv_l2i hx hb hd rfl (k p l e R s m args below meth c cells slots Z ad D cs A H locs ls C w hl)

theorem r_i2b {X : SX} {d : Nat} {M : Mt} {pc : Nat} {lv : List (Option Value)} {st : List Value} {h : AH} {rv : Option Value} {Q : AH → Prop} {x : Int32} (hd : decode M.2.1 pc = .ok (.i2b, 1)) (k : RunQ X d M (pc + 1) lv (.int x.toInt8.toInt32 :: st) h rv Q) : RunQ X d M (pc) lv (.int x :: st) h rv Q := by
  intro p l e R s m args below meth c cells slots Z ad D cs A H locs ls C w hl
  obtain ⟨hx, hb, hml, hown, hts, hN, hR, hcs, hK, hE, hA, hend⟩ := id C
  exact lv_i2b hx hb hd rfl (k p l e R s m args below meth c cells slots Z ad D cs A H locs ls C w hl)

theorem r_i2s {X : SX} {d : Nat} {M : Mt} {pc : Nat} {lv : List (Option Value)} {st : List Value} {h : AH} {rv : Option Value} {Q : AH → Prop} {x : Int32} (hd : decode M.2.1 pc = .ok (.i2s, 1)) (k : RunQ X d M (pc + 1) lv (.int x.toInt16.toInt32 :: st) h rv Q) : RunQ X d M (pc) lv (.int x :: st) h rv Q := by
  intro p l e R s m args below meth c cells slots Z ad D cs A H locs ls C w hl
  obtain ⟨hx, hb, hml, hown, hts, hN, hR, hcs, hK, hE, hA, hend⟩ := id C
  exact lv_i2s hx hb hd rfl (k p l e R s m args below meth c cells slots Z ad D cs A H locs ls C w hl)

theorem r_i2c {X : SX} {d : Nat} {M : Mt} {pc : Nat} {lv : List (Option Value)} {st : List Value} {h : AH} {rv : Option Value} {Q : AH → Prop} {x : Int32} (hd : decode M.2.1 pc = .ok (.i2c, 1)) (k : RunQ X d M (pc + 1) lv (.int (x.toUInt32 % 65536).toInt32 :: st) h rv Q) : RunQ X d M (pc) lv (.int x :: st) h rv Q := by
  intro p l e R s m args below meth c cells slots Z ad D cs A H locs ls C w hl
  obtain ⟨hx, hb, hml, hown, hts, hN, hR, hcs, hK, hE, hA, hend⟩ := id C
  exact lv_i2c hx hb hd rfl (k p l e R s m args below meth c cells slots Z ad D cs A H locs ls C w hl)

theorem r_dup {X : SX} {d : Nat} {M : Mt} {pc : Nat} {lv : List (Option Value)} {st : List Value} {h : AH} {rv : Option Value} {Q : AH → Prop} {v : Value} (hd : decode M.2.1 pc = .ok (.dup, 1)) (hv : v.category = 1) (k : RunQ X d M (pc + 1) lv (v :: v :: st) h rv Q) : RunQ X d M (pc) lv (v :: st) h rv Q := by
  intro p l e R s m args below meth c cells slots Z ad D cs A H locs ls C w hl
  obtain ⟨hx, hb, hml, hown, hts, hN, hR, hcs, hK, hE, hA, hend⟩ := id C
  exact lv_dup hx hb hd ((cv_cat ad v).trans hv) (k p l e R s m args below meth c cells slots Z ad D cs A H locs ls C w hl)

theorem r_pop {X : SX} {d : Nat} {M : Mt} {pc : Nat} {lv : List (Option Value)} {st : List Value} {h : AH} {rv : Option Value} {Q : AH → Prop} {v : Value} (hd : decode M.2.1 pc = .ok (.pop, 1)) (hv : v.category = 1) (k : RunQ X d M (pc + 1) lv (st) h rv Q) : RunQ X d M (pc) lv (v :: st) h rv Q := by
  intro p l e R s m args below meth c cells slots Z ad D cs A H locs ls C w hl
  obtain ⟨hx, hb, hml, hown, hts, hN, hR, hcs, hK, hE, hA, hend⟩ := id C
  exact lv_pop hx hb hd ((cv_cat ad v).trans hv) (k p l e R s m args below meth c cells slots Z ad D cs A H locs ls C w hl)

theorem r_dup2 {X : SX} {d : Nat} {M : Mt} {pc : Nat} {lv : List (Option Value)} {st : List Value} {h : AH} {rv : Option Value} {Q : AH → Prop} {v u : Value} (hd : decode M.2.1 pc = .ok (.dup2, 1)) (hv : v.category = 1) (hu : u.category = 1) (k : RunQ X d M (pc + 1) lv (v :: u :: v :: u :: st) h rv Q) : RunQ X d M (pc) lv (v :: u :: st) h rv Q := by
  intro p l e R s m args below meth c cells slots Z ad D cs A H locs ls C w hl
  obtain ⟨hx, hb, hml, hown, hts, hN, hR, hcs, hK, hE, hA, hend⟩ := id C
  exact lv_dup2_11 hx hb hd ((cv_cat ad v).trans hv) ((cv_cat ad u).trans hu) (k p l e R s m args below meth c cells slots Z ad D cs A H locs ls C w hl)

theorem r_if_eq {X : SX} {d : Nat} {M : Mt} {pc : Nat} {lv : List (Option Value)} {st : List Value} {h : AH} {rv : Option Value} {Q : AH → Prop} {x : Int32} {off : Int} (tgt : Nat) (hd : decode M.2.1 pc = .ok (.ifCond .eq off, 3)) (ht : (pc : Int) + off = (tgt : Int)) (kt : x = 0 → RunQ X d M (tgt) lv (st) h rv Q) (kf : ¬ x = 0 → RunQ X d M (pc + 3) lv (st) h rv Q) : RunQ X d M (pc) lv (.int x :: st) h rv Q := by
  intro p l e R s m args below meth c cells slots Z ad D cs A H locs ls C w hl
  obtain ⟨hx, hb, hml, hown, hts, hN, hR, hcs, hK, hE, hA, hend⟩ := id C
  exact lv_if_eq hx hb hd ht (fun q => kt q p l e R s m args below meth c cells slots Z ad D cs A H locs ls C w hl) (fun q => kf q p l e R s m args below meth c cells slots Z ad D cs A H locs ls C w hl)

theorem r_icmp_eq {X : SX} {d : Nat} {M : Mt} {pc : Nat} {lv : List (Option Value)} {st : List Value} {h : AH} {rv : Option Value} {Q : AH → Prop} {x y : Int32} {off : Int} (tgt : Nat) (hd : decode M.2.1 pc = .ok (.if_icmp .eq off, 3)) (ht : (pc : Int) + off = (tgt : Int)) (kt : x = y → RunQ X d M (tgt) lv (st) h rv Q) (kf : ¬ x = y → RunQ X d M (pc + 3) lv (st) h rv Q) : RunQ X d M (pc) lv (.int y :: .int x :: st) h rv Q := by
  intro p l e R s m args below meth c cells slots Z ad D cs A H locs ls C w hl
  obtain ⟨hx, hb, hml, hown, hts, hN, hR, hcs, hK, hE, hA, hend⟩ := id C
  exact lv_icmp_eq hx hb hd ht (fun q => kt q p l e R s m args below meth c cells slots Z ad D cs A H locs ls C w hl) (fun q => kf q p l e R s m args below meth c cells slots Z ad D cs A H locs ls C w hl)

theorem r_if_ne {X : SX} {d : Nat} {M : Mt} {pc : Nat} {lv : List (Option Value)} {st : List Value} {h : AH} {rv : Option Value} {Q : AH → Prop} {x : Int32} {off : Int} (tgt : Nat) (hd : decode M.2.1 pc = .ok (.ifCond .ne off, 3)) (ht : (pc : Int) + off = (tgt : Int)) (kt : ¬ x = 0 → RunQ X d M (tgt) lv (st) h rv Q) (kf : x = 0 → RunQ X d M (pc + 3) lv (st) h rv Q) : RunQ X d M (pc) lv (.int x :: st) h rv Q := by
  intro p l e R s m args below meth c cells slots Z ad D cs A H locs ls C w hl
  obtain ⟨hx, hb, hml, hown, hts, hN, hR, hcs, hK, hE, hA, hend⟩ := id C
  exact lv_if_ne hx hb hd ht (fun q => kt q p l e R s m args below meth c cells slots Z ad D cs A H locs ls C w hl) (fun q => kf q p l e R s m args below meth c cells slots Z ad D cs A H locs ls C w hl)

theorem r_icmp_ne {X : SX} {d : Nat} {M : Mt} {pc : Nat} {lv : List (Option Value)} {st : List Value} {h : AH} {rv : Option Value} {Q : AH → Prop} {x y : Int32} {off : Int} (tgt : Nat) (hd : decode M.2.1 pc = .ok (.if_icmp .ne off, 3)) (ht : (pc : Int) + off = (tgt : Int)) (kt : ¬ x = y → RunQ X d M (tgt) lv (st) h rv Q) (kf : x = y → RunQ X d M (pc + 3) lv (st) h rv Q) : RunQ X d M (pc) lv (.int y :: .int x :: st) h rv Q := by
  intro p l e R s m args below meth c cells slots Z ad D cs A H locs ls C w hl
  obtain ⟨hx, hb, hml, hown, hts, hN, hR, hcs, hK, hE, hA, hend⟩ := id C
  exact lv_icmp_ne hx hb hd ht (fun q => kt q p l e R s m args below meth c cells slots Z ad D cs A H locs ls C w hl) (fun q => kf q p l e R s m args below meth c cells slots Z ad D cs A H locs ls C w hl)

theorem r_if_lt {X : SX} {d : Nat} {M : Mt} {pc : Nat} {lv : List (Option Value)} {st : List Value} {h : AH} {rv : Option Value} {Q : AH → Prop} {x : Int32} {off : Int} (tgt : Nat) (hd : decode M.2.1 pc = .ok (.ifCond .lt off, 3)) (ht : (pc : Int) + off = (tgt : Int)) (kt : x < 0 → RunQ X d M (tgt) lv (st) h rv Q) (kf : ¬ x < 0 → RunQ X d M (pc + 3) lv (st) h rv Q) : RunQ X d M (pc) lv (.int x :: st) h rv Q := by
  intro p l e R s m args below meth c cells slots Z ad D cs A H locs ls C w hl
  obtain ⟨hx, hb, hml, hown, hts, hN, hR, hcs, hK, hE, hA, hend⟩ := id C
  exact lv_if_lt hx hb hd ht (fun q => kt q p l e R s m args below meth c cells slots Z ad D cs A H locs ls C w hl) (fun q => kf q p l e R s m args below meth c cells slots Z ad D cs A H locs ls C w hl)

theorem r_icmp_lt {X : SX} {d : Nat} {M : Mt} {pc : Nat} {lv : List (Option Value)} {st : List Value} {h : AH} {rv : Option Value} {Q : AH → Prop} {x y : Int32} {off : Int} (tgt : Nat) (hd : decode M.2.1 pc = .ok (.if_icmp .lt off, 3)) (ht : (pc : Int) + off = (tgt : Int)) (kt : x < y → RunQ X d M (tgt) lv (st) h rv Q) (kf : ¬ x < y → RunQ X d M (pc + 3) lv (st) h rv Q) : RunQ X d M (pc) lv (.int y :: .int x :: st) h rv Q := by
  intro p l e R s m args below meth c cells slots Z ad D cs A H locs ls C w hl
  obtain ⟨hx, hb, hml, hown, hts, hN, hR, hcs, hK, hE, hA, hend⟩ := id C
  exact lv_icmp_lt hx hb hd ht (fun q => kt q p l e R s m args below meth c cells slots Z ad D cs A H locs ls C w hl) (fun q => kf q p l e R s m args below meth c cells slots Z ad D cs A H locs ls C w hl)

theorem r_if_ge {X : SX} {d : Nat} {M : Mt} {pc : Nat} {lv : List (Option Value)} {st : List Value} {h : AH} {rv : Option Value} {Q : AH → Prop} {x : Int32} {off : Int} (tgt : Nat) (hd : decode M.2.1 pc = .ok (.ifCond .ge off, 3)) (ht : (pc : Int) + off = (tgt : Int)) (kt : 0 ≤ x → RunQ X d M (tgt) lv (st) h rv Q) (kf : ¬ 0 ≤ x → RunQ X d M (pc + 3) lv (st) h rv Q) : RunQ X d M (pc) lv (.int x :: st) h rv Q := by
  intro p l e R s m args below meth c cells slots Z ad D cs A H locs ls C w hl
  obtain ⟨hx, hb, hml, hown, hts, hN, hR, hcs, hK, hE, hA, hend⟩ := id C
  exact lv_if_ge hx hb hd ht (fun q => kt q p l e R s m args below meth c cells slots Z ad D cs A H locs ls C w hl) (fun q => kf q p l e R s m args below meth c cells slots Z ad D cs A H locs ls C w hl)

theorem r_icmp_ge {X : SX} {d : Nat} {M : Mt} {pc : Nat} {lv : List (Option Value)} {st : List Value} {h : AH} {rv : Option Value} {Q : AH → Prop} {x y : Int32} {off : Int} (tgt : Nat) (hd : decode M.2.1 pc = .ok (.if_icmp .ge off, 3)) (ht : (pc : Int) + off = (tgt : Int)) (kt : y ≤ x → RunQ X d M (tgt) lv (st) h rv Q) (kf : ¬ y ≤ x → RunQ X d M (pc + 3) lv (st) h rv Q) : RunQ X d M (pc) lv (.int y :: .int x :: st) h rv Q := by
  intro p l e R s m args below meth c cells slots Z ad D cs A H locs ls C w hl
  obtain ⟨hx, hb, hml, hown, hts, hN, hR, hcs, hK, hE, hA, hend⟩ := id C
  exact lv_icmp_ge hx hb hd ht (fun q => kt q p l e R s m args below meth c cells slots Z ad D cs A H locs ls C w hl) (fun q => kf q p l e R s m args below meth c cells slots Z ad D cs A H locs ls C w hl)

theorem r_if_gt {X : SX} {d : Nat} {M : Mt} {pc : Nat} {lv : List (Option Value)} {st : List Value} {h : AH} {rv : Option Value} {Q : AH → Prop} {x : Int32} {off : Int} (tgt : Nat) (hd : decode M.2.1 pc = .ok (.ifCond .gt off, 3)) (ht : (pc : Int) + off = (tgt : Int)) (kt : 0 < x → RunQ X d M (tgt) lv (st) h rv Q) (kf : ¬ 0 < x → RunQ X d M (pc + 3) lv (st) h rv Q) : RunQ X d M (pc) lv (.int x :: st) h rv Q := by
  intro p l e R s m args below meth c cells slots Z ad D cs A H locs ls C w hl
  obtain ⟨hx, hb, hml, hown, hts, hN, hR, hcs, hK, hE, hA, hend⟩ := id C
  exact lv_if_gt hx hb hd ht (fun q => kt q p l e R s m args below meth c cells slots Z ad D cs A H locs ls C w hl) (fun q => kf q p l e R s m args below meth c cells slots Z ad D cs A H locs ls C w hl)

theorem r_icmp_gt {X : SX} {d : Nat} {M : Mt} {pc : Nat} {lv : List (Option Value)} {st : List Value} {h : AH} {rv : Option Value} {Q : AH → Prop} {x y : Int32} {off : Int} (tgt : Nat) (hd : decode M.2.1 pc = .ok (.if_icmp .gt off, 3)) (ht : (pc : Int) + off = (tgt : Int)) (kt : y < x → RunQ X d M (tgt) lv (st) h rv Q) (kf : ¬ y < x → RunQ X d M (pc + 3) lv (st) h rv Q) : RunQ X d M (pc) lv (.int y :: .int x :: st) h rv Q := by
  intro p l e R s m args below meth c cells slots Z ad D cs A H locs ls C w hl
  obtain ⟨hx, hb, hml, hown, hts, hN, hR, hcs, hK, hE, hA, hend⟩ := id C
  exact lv_icmp_gt hx hb hd ht (fun q => kt q p l e R s m args below meth c cells slots Z ad D cs A H locs ls C w hl) (fun q => kf q p l e R s m args below meth c cells slots Z ad D cs A H locs ls C w hl)

theorem r_if_le {X : SX} {d : Nat} {M : Mt} {pc : Nat} {lv : List (Option Value)} {st : List Value} {h : AH} {rv : Option Value} {Q : AH → Prop} {x : Int32} {off : Int} (tgt : Nat) (hd : decode M.2.1 pc = .ok (.ifCond .le off, 3)) (ht : (pc : Int) + off = (tgt : Int)) (kt : x ≤ 0 → RunQ X d M (tgt) lv (st) h rv Q) (kf : ¬ x ≤ 0 → RunQ X d M (pc + 3) lv (st) h rv Q) : RunQ X d M (pc) lv (.int x :: st) h rv Q := by
  intro p l e R s m args below meth c cells slots Z ad D cs A H locs ls C w hl
  obtain ⟨hx, hb, hml, hown, hts, hN, hR, hcs, hK, hE, hA, hend⟩ := id C
  exact lv_if_le hx hb hd ht (fun q => kt q p l e R s m args below meth c cells slots Z ad D cs A H locs ls C w hl) (fun q => kf q p l e R s m args below meth c cells slots Z ad D cs A H locs ls C w hl)

theorem r_icmp_le {X : SX} {d : Nat} {M : Mt} {pc : Nat} {lv : List (Option Value)} {st : List Value} {h : AH} {rv : Option Value} {Q : AH → Prop} {x y : Int32} {off : Int} (tgt : Nat) (hd : decode M.2.1 pc = .ok (.if_icmp .le off, 3)) (ht : (pc : Int) + off = (tgt : Int)) (kt : x ≤ y → RunQ X d M (tgt) lv (st) h rv Q) (kf : ¬ x ≤ y → RunQ X d M (pc + 3) lv (st) h rv Q) : RunQ X d M (pc) lv (.int y :: .int x :: st) h rv Q := by
  intro p l e R s m args below meth c cells slots Z ad D cs A H locs ls C w hl
  obtain ⟨hx, hb, hml, hown, hts, hN, hR, hcs, hK, hE, hA, hend⟩ := id C
  exact lv_icmp_le hx hb hd ht (fun q => kt q p l e R s m args below meth c cells slots Z ad D cs A H locs ls C w hl) (fun q => kf q p l e R s m args below meth c cells slots Z ad D cs A H locs ls C w hl)

theorem r_goto {X : SX} {d : Nat} {M : Mt} {pc : Nat} {lv : List (Option Value)} {st : List Value} {h : AH} {rv : Option Value} {Q : AH → Prop} {off : Int} (tgt : Nat) (hd : decode M.2.1 pc = .ok (.goto off, 3)) (ht : (pc : Int) + off = (tgt : Int)) (k : RunQ X d M (tgt) lv (st) h rv Q) : RunQ X d M (pc) lv (st) h rv Q := by
  intro p l e R s m args below meth c cells slots Z ad D cs A H locs ls C w hl
  obtain ⟨hx, hb, hml, hown, hts, hN, hR, hcs, hK, hE, hA, hend⟩ := id C
  exact lv_goto hx hb hd ht (k p l e R s m args below meth c cells slots Z ad D cs A H locs ls C w hl)

theorem r_tsw {X : SX} {d : Nat} {M : Mt} {pc : Nat} {lv : List (Option Value)} {st : List Value} {h : AH} {rv : Option Value} {Q : AH → Prop} {dflt lo hi : Int} {offs : Array Int} {len : Nat} {x : Int32} (tgt : Nat) (hd : decode M.2.1 pc = .ok (.tableswitch dflt lo hi offs, len)) (ht : (pc : Int) + dflt = (tgt : Int)) (kc : ∀ v : Int, lo ≤ v → v ≤ hi → x.toInt = v → ∃ (off : Int) (tg : Nat), offs[(v - lo).toNat]? = some off ∧ (pc : Int) + off = (tg : Int) ∧ RunQ X d M (tg) lv (st) h rv Q) (kd : (x.toInt < lo ∨ hi < x.toInt) → RunQ X d M (tgt) lv (st) h rv Q) : RunQ X d M (pc) lv (.int x :: st) h rv Q := by
  intro p l e R s m args below meth c cells slots Z ad D cs A H locs ls C w hl
  obtain ⟨hx, hb, hml, hown, hts, hN, hR, hcs, hK, hE, hA, hend⟩ := id C
  by_cases q : x.toInt < lo ∨ hi < x.toInt
  · exact lv_tableOut hx hb hd q ht (kd q p l e R s m args below meth c cells slots Z ad D cs A H locs ls C w hl)
  · obtain ⟨off, tg, h1, h2, k⟩ := kc x.toInt (by omega) (by omega) rfl
    exact lv_tableIn hx hb hd (by omega) (by omega) h1 h2 (k p l e R s m args below meth c cells slots Z ad D cs A H locs ls C w hl)

theorem r_lsw {X : SX} {d : Nat} {M : Mt} {pc : Nat} {lv : List (Option Value)} {st : List Value} {h : AH} {rv : Option Value} {Q : AH → Prop} {dflt : Int} {ps : Array (Int × Int)} {len : Nat} {x : Int32} (hd : decode M.2.1 pc = .ok (.lookupswitch dflt ps, len)) (hp : (ps.toList.zip (ps.toList.drop 1)).all (fun (a, next) => a.1 < next.1) = true) (k : ∃ (off : Int) (tg : Nat), Op.lookupswitch.offset ps.toList dflt x.toInt = off ∧ (pc : Int) + off = (tg : Int) ∧ RunQ X d M (tg) lv (st) h rv Q) : RunQ X d M (pc) lv (.int x :: st) h rv Q := by
  intro p l e R s m args below meth c cells slots Z ad D cs A H locs ls C w hl
  obtain ⟨hx, hb, hml, hown, hts, hN, hR, hcs, hK, hE, hA, hend⟩ := id C
  obtain ⟨off, tg, h1, h2, k⟩ := k
  exact lv_lookup hx hb hd hp h1 h2 (k p l e R s m args below meth c cells slots Z ad D cs A H locs ls C w hl)

theorem r_ldc {X : SX} {d : Nat} {M : Mt} {pc : Nat} {lv : List (Option Value)} {st : List Value} {h : AH} {rv : Option Value} {Q : AH → Prop} {idx : Nat} {v : Int32} (hw : Cond.constant M.1.cls idx v ∈ gT) (hd : decode M.2.1 pc = .ok (.ldc idx, 2)) (k : RunQ X d M (pc + 2) lv (.int v :: st) h rv Q) : RunQ X d M (pc) lv (st) h rv Q := by
  intro p l e R s m args below meth c cells slots Z ad D cs A H locs ls C w hl
  obtain ⟨hx, hb, hml, hown, hts, hN, hR, hcs, hK, hE, hA, hend⟩ := id C
  exact lv_ldc hx hb hown (hts _ hw) hd (k p l e R s m args below meth c cells slots Z ad D cs A H locs ls C w hl)

theorem r_ldcw {X : SX} {d : Nat} {M : Mt} {pc : Nat} {lv : List (Option Value)} {st : List Value} {h : AH} {rv : Option Value} {Q : AH → Prop} {idx : Nat} {v : Int32} (hw : Cond.constant M.1.cls idx v ∈ gT) (hd : decode M.2.1 pc = .ok (.ldc_w idx, 3)) (k : RunQ X d M (pc + 3) lv (.int v :: st) h rv Q) : RunQ X d M (pc) lv (st) h rv Q := by
  intro p l e R s m args below meth c cells slots Z ad D cs A H locs ls C w hl
  obtain ⟨hx, hb, hml, hown, hts, hN, hR, hcs, hK, hE, hA, hend⟩ := id C
  exact lv_ldcw hx hb hown (hts _ hw) hd (k p l e R s m args below meth c cells slots Z ad D cs A H locs ls C w hl)

theorem r_ldc2 {X : SX} {d : Nat} {M : Mt} {pc : Nat} {lv : List (Option Value)} {st : List Value} {h : AH} {rv : Option Value} {Q : AH → Prop} {idx : Nat} {v : Int64} (hw : Cond.constantLong M.1.cls idx v ∈ gT) (hd : decode M.2.1 pc = .ok (.ldc2_w idx, 3)) (k : RunQ X d M (pc + 3) lv (.long v :: st) h rv Q) : RunQ X d M (pc) lv (st) h rv Q := by
  intro p l e R s m args below meth c cells slots Z ad D cs A H locs ls C w hl
  obtain ⟨hx, hb, hml, hown, hts, hN, hR, hcs, hK, hE, hA, hend⟩ := id C
  exact lv_ldc2 hx hb hown (hts _ hw) hd (k p l e R s m args below meth c cells slots Z ad D cs A H locs ls C w hl)

theorem r_ldcS {X : SX} {d : Nat} {M : Mt} {pc : Nat} {lv : List (Option Value)} {st : List Value} {h : AH} {rv : Option Value} {Q : AH → Prop} {idx : Nat} (i : Nat) (hi : i < 13) (hc : M.1.cls = RX0) (hj : txI i = idx) (hd : decode M.2.1 pc = .ok (.ldc idx, 2)) (k : RunQ X d M (pc + 2) lv (.ref (2000 + i) :: st) h rv Q) : RunQ X d M (pc) lv (st) h rv Q := by
  intro p l e R s m args below meth c cells slots Z ad D cs A H locs ls C w hl
  obtain ⟨hx, hb, hml, hown, hts, hN, hR, hcs, hK, hE, hA, hend⟩ := id C
  have h6 := hE.2.2.2.2.2.1 i hi
  rw [hj, ← hc] at h6
  have e9 : 1000 + (1000 + i) = 2000 + i := by omega
  dsimp only at h6
  rw [e9] at h6
  exact va_ldcS hx hb hown h6 hd (k p l e R s m args below meth c cells slots Z ad D cs A H locs ls C w hl)

theorem r_iaload {X : SX} {d : Nat} {M : Mt} {pc : Nat} {lv : List (Option Value)} {st : List Value} {h : AH} {rv : Option Value} {Q : AH → Prop} {q n : Nat} {f : Nat → Int32} {i : Int32} (hd : decode M.2.1 pc = .ok (.iaload, 1)) (hq : h[q]? = some (.inl (0, n, .inl f))) (hi : vp_in i n) (k : RunQ X d M (pc + 1) lv (.int (f i.toNatClampNeg) :: st) h rv Q) : RunQ X d M (pc) lv (.int i :: .ref q :: st) h rv Q := by
  intro p l e R s m args below meth c cells slots Z ad D cs A H locs ls C w hl
  obtain ⟨hx, hb, hml, hown, hts, hN, hR, hcs, hK, hE, hA, hend⟩ := id C
  exact va_iald hx hb hK w.1 q 0 (wc_at hq) rfl hi hd (k p l e R s m args below meth c cells slots Z ad D cs A H locs ls C w hl)

theorem r_baload {X : SX} {d : Nat} {M : Mt} {pc : Nat} {lv : List (Option Value)} {st : List Value} {h : AH} {rv : Option Value} {Q : AH → Prop} {q n : Nat} {f : Nat → Int32} {i : Int32} (hd : decode M.2.1 pc = .ok (.baload, 1)) (hq : h[q]? = some (.inl (2, n, .inl f))) (hi : vp_in i n) (k : RunQ X d M (pc + 1) lv (.int (f i.toNatClampNeg) :: st) h rv Q) : RunQ X d M (pc) lv (.int i :: .ref q :: st) h rv Q := by
  intro p l e R s m args below meth c cells slots Z ad D cs A H locs ls C w hl
  obtain ⟨hx, hb, hml, hown, hts, hN, hR, hcs, hK, hE, hA, hend⟩ := id C
  exact va_bald hx hb hK w.1 q 2 (wc_at hq) rfl hi hd (k p l e R s m args below meth c cells slots Z ad D cs A H locs ls C w hl)

theorem r_laload {X : SX} {d : Nat} {M : Mt} {pc : Nat} {lv : List (Option Value)} {st : List Value} {h : AH} {rv : Option Value} {Q : AH → Prop} {q n : Nat} {f : Nat → Int64} {i : Int32} (hd : decode M.2.1 pc = .ok (.laload, 1)) (hq : h[q]? = some (.inl (1, n, .inr (.inl f)))) (hi : vp_in i n) (k : RunQ X d M (pc + 1) lv (.long (f i.toNatClampNeg) :: st) h rv Q) : RunQ X d M (pc) lv (.int i :: .ref q :: st) h rv Q := by
  intro p l e R s m args below meth c cells slots Z ad D cs A H locs ls C w hl
  obtain ⟨hx, hb, hml, hown, hts, hN, hR, hcs, hK, hE, hA, hend⟩ := id C
  exact va_lald hx hb hK w.1 q 1 (wc_at hq) rfl hi hd (k p l e R s m args below meth c cells slots Z ad D cs A H locs ls C w hl)

theorem r_aaload {X : SX} {d : Nat} {M : Mt} {pc : Nat} {lv : List (Option Value)} {st : List Value} {h : AH} {rv : Option Value} {Q : AH → Prop} {q n g : Nat} {f : Nat → Option Nat} {i : Int32} (hd : decode M.2.1 pc = .ok (.aaload, 1)) (hq : h[q]? = some (.inl (3, n, .inr (.inr (.inr (.inr f)))))) (hi : vp_in i n) (hg : f i.toNatClampNeg = some g) (k : RunQ X d M (pc + 1) lv (.ref g :: st) h rv Q) : RunQ X d M (pc) lv (.int i :: .ref q :: st) h rv Q := by
  intro p l e R s m args below meth c cells slots Z ad D cs A H locs ls C w hl
  obtain ⟨hx, hb, hml, hown, hts, hN, hR, hcs, hK, hE, hA, hend⟩ := id C
  refine va_aldq hx hb hK w.1 q 3 (wc_at hq) rfl hi hd ?_
  have k1 := k p l e R s m args below meth c cells slots Z ad D cs A H locs ls C w hl
  have e9 : va_rf ((f i.toNatClampNeg).map ad) = Value.ref (ad g) := by rw [hg]; rfl
  exact W.eq (congrArg (fun z => F0 m (pc + 1) ls (z :: List.map (cv ad) st)) e9) k1

theorem r_alen {X : SX} {d : Nat} {M : Mt} {pc : Nat} {lv : List (Option Value)} {st : List Value} {h : AH} {rv : Option Value} {Q : AH → Prop} {q τ n : Nat} {x : (Nat → Int32) ⊕ (Nat → Int64) ⊕ (Nat → UInt32) ⊕ (Nat → UInt64) ⊕ (Nat → Option Nat)} {ty : FieldType} (hd : decode M.2.1 pc = .ok (.arraylength, 1)) (hq : h[q]? = some (.inl (τ, n, x))) (hty : ∀ cs : Nat → ClassId, (tys cs)[τ]? = some (cs τ, ty)) (k : RunQ X d M (pc + 1) lv (.int (nI n) :: st) h rv Q) : RunQ X d M (pc) lv (.ref q :: st) h rv Q := by
  intro p l e R s m args below meth c cells slots Z ad D cs A H locs ls C w hl
  obtain ⟨hx, hb, hml, hown, hts, hN, hR, hcs, hK, hE, hA, hend⟩ := id C
  have e9 : (cA ad (n, x)).1 = n := by rcases x with f | f | f | f | f <;> rfl
  exact va_alen hx hb hK w.1 q τ (wc_at hq) (hty cs) (show Int32.ofNat (cA ad (n, x)).1 = nI n by rw [e9]; rfl) hd (k p l e R s m args below meth c cells slots Z ad D cs A H locs ls C w hl)

theorem r_iastore {X : SX} {d : Nat} {M : Mt} {pc : Nat} {lv : List (Option Value)} {st : List Value} {h : AH} {rv : Option Value} {Q : AH → Prop} {q n : Nat} {f : Nat → Int32} {i : Int32} {x : Int32} {h' : AH} (hd : decode M.2.1 pc = .ok (.iastore, 1)) (hq : h[q]? = some (.inl (0, n, .inl f))) (hi : vp_in i n) (hh : h.set q (.inl (0, n, .inl (upd f i.toNatClampNeg x))) = h') (k : RunQ X d M (pc + 1) lv (st) h' rv Q) : RunQ X d M (pc) lv (.int x :: .int i :: .ref q :: st) h rv Q := by
  intro p l e R s m args below meth c cells slots Z ad D cs A H locs ls C w hl
  obtain ⟨hx, hb, hml, hown, hts, hN, hR, hcs, hK, hE, hA, hend⟩ := id C
  subst hh
  refine va_iast hx hb hK w.1 w.2.1 w.2.2 q 0 (wc_at hq) rfl hi hd (fun H1 locs1 hP1 hD1 hS1 => ?_)
  have e9 := wc_set cs ad h q (.inl (0, n, .inl (upd f i.toNatClampNeg x)))
  refine k p l e R s m args below meth c cells slots Z ad D cs A H1 locs1 ls C ⟨?_, ?_, hS1⟩ hl
  · rw [← e9]; exact hP1
  · rw [← e9]; exact hD1

theorem r_bastore {X : SX} {d : Nat} {M : Mt} {pc : Nat} {lv : List (Option Value)} {st : List Value} {h : AH} {rv : Option Value} {Q : AH → Prop} {q n : Nat} {f : Nat → Int32} {i : Int32} {x : Int32} {h' : AH} (hd : decode M.2.1 pc = .ok (.bastore, 1)) (hq : h[q]? = some (.inl (2, n, .inl f))) (hi : vp_in i n) (hh : h.set q (.inl (2, n, .inl (upd f i.toNatClampNeg (vp_nar .byte x)))) = h') (k : RunQ X d M (pc + 1) lv (st) h' rv Q) : RunQ X d M (pc) lv (.int x :: .int i :: .ref q :: st) h rv Q := by
  intro p l e R s m args below meth c cells slots Z ad D cs A H locs ls C w hl
  obtain ⟨hx, hb, hml, hown, hts, hN, hR, hcs, hK, hE, hA, hend⟩ := id C
  subst hh
  refine va_bast hx hb hK w.1 w.2.1 w.2.2 q 2 (wc_at hq) rfl hi hd (fun H1 locs1 hP1 hD1 hS1 => ?_)
  have e9 := wc_set cs ad h q (.inl (2, n, .inl (upd f i.toNatClampNeg (vp_nar .byte x))))
  refine k p l e R s m args below meth c cells slots Z ad D cs A H1 locs1 ls C ⟨?_, ?_, hS1⟩ hl
  · rw [← e9]; exact hP1
  · rw [← e9]; exact hD1

theorem r_lastore {X : SX} {d : Nat} {M : Mt} {pc : Nat} {lv : List (Option Value)} {st : List Value} {h : AH} {rv : Option Value} {Q : AH → Prop} {q n : Nat} {f : Nat → Int64} {i : Int32} {x : Int64} {h' : AH} (hd : decode M.2.1 pc = .ok (.lastore, 1)) (hq : h[q]? = some (.inl (1, n, .inr (.inl f)))) (hi : vp_in i n) (hh : h.set q (.inl (1, n, .inr (.inl (vp_updL f i.toNatClampNeg x)))) = h') (k : RunQ X d M (pc + 1) lv (st) h' rv Q) : RunQ X d M (pc) lv (.long x :: .int i :: .ref q :: st) h rv Q := by
  intro p l e R s m args below meth c cells slots Z ad D cs A H locs ls C w hl
  obtain ⟨hx, hb, hml, hown, hts, hN, hR, hcs, hK, hE, hA, hend⟩ := id C
  subst hh
  refine va_last hx hb hK w.1 w.2.1 w.2.2 q 1 (wc_at hq) rfl hi hd (fun H1 locs1 hP1 hD1 hS1 => ?_)
  have e9 := wc_set cs ad h q (.inl (1, n, .inr (.inl (vp_updL f i.toNatClampNeg x))))
  refine k p l e R s m args below meth c cells slots Z ad D cs A H1 locs1 ls C ⟨?_, ?_, hS1⟩ hl
  · rw [← e9]; exact hP1
  · rw [← e9]; exact hD1

theorem r_taload {X : SX} {d : Nat} {M : Mt} {pc : Nat} {lv : List (Option Value)} {st : List Value} {h : AH} {rv : Option Value} {Q : AH → Prop} {i : Int32} (hd : decode M.2.1 pc = .ok (.iaload, 1)) (hi : vp_in i X.1) (k : RunQ X d M (pc + 1) lv (.int (X.2 i.toNatClampNeg) :: st) h rv Q) : RunQ X d M (pc) lv (.int i :: .ref 1000 :: st) h rv Q := by
  intro p l e R s m args below meth c cells slots Z ad D cs A H locs ls C w hl
  obtain ⟨hx, hb, hml, hown, hts, hN, hR, hcs, hK, hE, hA, hend⟩ := id C
  obtain ⟨cell, h1, h3, h4, h5, h6, h7, -⟩ := hE.1.kept w.2.2.2.1
  have hlt : i.toNatClampNeg < X.1 := Nat.not_le.mp fun q => hi (Or.inr q)
  exact W.iald hx hb h1 h3 h4 (fun q => hi (q.imp id (fun z => Nat.le_trans h5 z))) (h7 _ hlt) rfl rfl hd (k p l e R s m args below meth c cells slots Z ad D cs A H locs ls C w hl)

theorem r_tlen {X : SX} {d : Nat} {M : Mt} {pc : Nat} {lv : List (Option Value)} {st : List Value} {h : AH} {rv : Option Value} {Q : AH → Prop} (hd : decode M.2.1 pc = .ok (.arraylength, 1)) (k : RunQ X d M (pc + 1) lv (.int (nI X.1) :: st) h rv Q) : RunQ X d M (pc) lv (.ref 1000 :: st) h rv Q := by
  intro p l e R s m args below meth c cells slots Z ad D cs A H locs ls C w hl
  obtain ⟨hx, hb, hml, hown, hts, hN, hR, hcs, hK, hE, hA, hend⟩ := id C
  obtain ⟨cell, h1, h3, h4, h5, h6, h7, -⟩ := hE.1.kept w.2.2.2.1
  exact W.alen hx hb h1 h3 h6 rfl rfl hd (k p l e R s m args below meth c cells slots Z ad D cs A H locs ls C w hl)

theorem r_kaload {X : SX} {d : Nat} {M : Mt} {pc : Nat} {lv : List (Option Value)} {st : List Value} {h : AH} {rv : Option Value} {Q : AH → Prop} {i : Int32} (hd : decode M.2.1 pc = .ok (.iaload, 1)) (hi : vp_in i 6) (k : RunQ X d M (pc + 1) lv (.int (kAbove i.toNatClampNeg) :: st) h rv Q) : RunQ X d M (pc) lv (.int i :: .ref 1001 :: st) h rv Q := by
  intro p l e R s m args below meth c cells slots Z ad D cs A H locs ls C w hl
  obtain ⟨hx, hb, hml, hown, hts, hN, hR, hcs, hK, hE, hA, hend⟩ := id C
  obtain ⟨cell, h1, h3, h4, h5, h6, h7, -⟩ := hE.2.2.1.kept w.2.2.2.1
  have hlt : i.toNatClampNeg < 6 := Nat.not_le.mp fun q => hi (Or.inr q)
  exact W.iald hx hb h1 h3 h4 (fun q => hi (q.imp id (fun z => Nat.le_trans h5 z))) (h7 _ hlt) rfl rfl hd (k p l e R s m args below meth c cells slots Z ad D cs A H locs ls C w hl)

theorem r_kget {X : SX} {d : Nat} {M : Mt} {pc : Nat} {lv : List (Option Value)} {st : List Value} {h : AH} {rv : Option Value} {Q : AH → Prop} {idx : Nat} (hw : Cond.fieldLink M.1.cls idx "OneLantern" "KIND_ABOVE" "[I" ∈ gT) (hd : decode M.2.1 pc = .ok (.getstatic idx, 3)) (k : RunQ X d M (pc + 3) lv (.ref 1001 :: st) h rv Q) : RunQ X d M (pc) lv (st) h rv Q := by
  intro p l e R s m args below meth c cells slots Z ad D cs A H locs ls C w hl
  obtain ⟨hx, hb, hml, hown, hts, hN, hR, hcs, hK, hE, hA, hend⟩ := id C
  exact va_gets hx hb hE.2.1 w.2.2 hown (hts _ hw) (fun _ z => z) hd (k p l e R s m args below meth c cells slots Z ad D cs A H locs ls C w hl)

def GOK (own : String) (idx ci j : Nat) : Prop := ∃ (C : String) (T : u_T) (N : Nat), vwCl[ci]? = some (C, T, N) ∧ j < N ∧ (∀ w ∈ u_ws C T N, w ∈ gT) ∧ (Cond.fieldLink own idx (T j).1 (T j).2.1 (T j).2.2.1 ∈ gT ∨ ∃ host, Cond.fieldLinkNest own idx (T j).1 (T j).2.1 (T j).2.2.1 host ∈ nT)
def POK (own : String) (idx ci j : Nat) (ty : FieldType) : Prop := ∃ (C : String) (T : u_T) (N : Nat) (ty0 : Nat → FieldType), vwCl[ci]? = some (C, T, N) ∧ j < N ∧ (∀ w ∈ u_ws C T N, w ∈ gT) ∧ (Cond.fieldLink own idx (T j).1 (T j).2.1 (T j).2.2.1 ∈ gT ∨ ∃ host, Cond.fieldLinkNest own idx (T j).1 (T j).2.1 (T j).2.2.1 host ∈ nT) ∧ (T j).2.2.2 = false ∧ parseFieldDescriptor (T j).2.2.1 = some ty ∧ (∀ k, k < N → parseFieldDescriptor (T k).2.2.1 = some (ty0 k)) ∧ (∀ a, a < N → ∀ b, b < N → a ≠ b → (T a).2.1 ≠ (T b).2.1)

theorem r_getfield {X : SX} {d : Nat} {M : Mt} {pc : Nat} {lv : List (Option Value)} {st : List Value} {h : AH} {rv : Option Value} {Q : AH → Prop} {q ci j idx : Nat} {fs : List Value} {v : Value} (hd : decode M.2.1 pc = .ok (.getfield idx, 3)) (g : GOK M.1.cls idx ci j) (hq : h[q]? = some (.inr (ci, fs))) (hv : fs[j]? = some v) (k : RunQ X d M (pc + 3) lv (v :: st) h rv Q) : RunQ X d M (pc) lv (.ref q :: st) h rv Q := by
  intro p l e R s m args below meth c cells slots Z ad D cs A H locs ls C w hl
  obtain ⟨hx, hb, hml, hown, hts, hN, hR, hcs, hK, hE, hA, hend⟩ := id C
  obtain ⟨C0, T0, N0, g1, g2, g3, g4⟩ := g
  have hv9 : (fs.map (cv ad))[j]? = some (cv ad v) := by rw [List.getElem?_map, hv]; rfl
  rcases g4 with g4 | ⟨host, g4⟩
  · exact va_get hx hb hts g3 hown hK w.1 q (wc_at hq) g1 j g2 (hts _ g4) (fun _ z => z) hv9 hd (k p l e R s m args below meth c cells slots Z ad D cs A H locs ls C w hl)
  · exact va_getN hx hb hts g3 hown hK w.1 q (wc_at hq) g1 j g2 (va_Nw.use rfl (hN _ g4)) (fun _ z => z) hv9 hd (k p l e R s m args below meth c cells slots Z ad D cs A H locs ls C w hl)

theorem r_putfield {X : SX} {d : Nat} {M : Mt} {pc : Nat} {lv : List (Option Value)} {st : List Value} {h : AH} {rv : Option Value} {Q : AH → Prop} {q ci j idx : Nat} {fs fs' : List Value} {v : Value} {ty : FieldType} {h' : AH} (hd : decode M.2.1 pc = .ok (.putfield idx, 3)) (g : POK M.1.cls idx ci j ty) (hq : h[q]? = some (.inr (ci, fs))) (hj : j < fs.length) (hv : ∀ ad, cv ad v = v) (hn : narrow ty v = v) (hf : fits ty v = true) (hfs : fs.set j v = fs') (hh : h.set q (.inr (ci, fs')) = h') (k : RunQ X d M (pc + 3) lv (st) h' rv Q) : RunQ X d M (pc) lv (v :: .ref q :: st) h rv Q := by
  intro p l e R s m args below meth c cells slots Z ad D cs A H locs ls C w hl
  obtain ⟨hx, hb, hml, hown, hts, hN, hR, hcs, hK, hE, hA, hend⟩ := id C
  obtain ⟨C0, T0, N0, ty0, g1, g2, g3, g4, g5, g6, g7, g8⟩ := g
  subst hfs
  subst hh
  have e9 := wc_set cs ad h q (.inr (ci, fs.set j v))
  have e8 : cE cs ad (.inr (ci, fs.set j v)) = .inr (ci, (fs.map (cv ad)).set j (cv ad v)) := by
    show Sum.inr (ci, (fs.set j v).map (cv ad)) = _
    rw [List.map_set]
  rw [e8] at e9
  have hn9 : narrow ty (cv ad v) = cv ad v := by rw [hv]; exact hn
  have hf9 : fits ty (cv ad v) = true := by rw [hv]; exact hf
  have hj9 : j < (fs.map (cv ad)).length := by rw [List.length_map]; exact hj
  rcases g4 with g4 | ⟨host, g4⟩
  · refine va_put hx hb hts g3 ty0 g7 g8 hown hK w.1 w.2.1 w.2.2 q (wc_at hq) g1 j g2 (hts _ g4) (fun _ z => z) g5 g6 hn9 hf9 hj9 hd (fun H1 locs1 hP1 hD1 hS1 => ?_)
    refine k p l e R s m args below meth c cells slots Z ad D cs A H1 locs1 ls C ⟨?_, ?_, hS1⟩ hl
    · rw [← e9]; exact hP1
    · rw [← e9]; exact hD1
  · refine va_putN hx hb hts g3 ty0 g7 g8 hown hK w.1 w.2.1 w.2.2 q (wc_at hq) g1 j g2 (va_Nw.use rfl (hN _ g4)) (fun _ z => z) g5 g6 hn9 hf9 hj9 hd (fun H1 locs1 hP1 hD1 hS1 => ?_)
    refine k p l e R s m args below meth c cells slots Z ad D cs A H1 locs1 ls C ⟨?_, ?_, hS1⟩ hl
    · rw [← e9]; exact hP1
    · rw [← e9]; exact hD1

theorem r_heq {X : SX} {d : Nat} {M : Mt} {pc : Nat} {lv : List (Option Value)} {st : List Value} {h : AH} {rv : Option Value} {Q : AH → Prop} {h' : AH} (hh : HE h h') (k : RunQ X d M (pc) lv (st) h' rv Q) : RunQ X d M (pc) lv (st) h rv Q := by
  intro p l e R s m args below meth c cells slots Z ad D cs A H locs ls C w hl
  obtain ⟨hx, hb, hml, hown, hts, hN, hR, hcs, hK, hE, hA, hend⟩ := id C
  exact k p l e R s m args below meth c cells slots Z ad D cs A H locs ls C ⟨hh.P w.1, wc_D w.2.1 hh.len, w.2.2⟩ hl

theorem r_lv {X : SX} {d : Nat} {M : Mt} {pc : Nat} {lv : List (Option Value)} {st : List Value} {h : AH} {rv : Option Value} {Q : AH → Prop} {lv' : List (Option Value)} (hh : ∀ (i : Nat) (v : Value), lv'[i]? = some (some v) → lv[i]? = some (some v)) (k : RunQ X d M (pc) lv' (st) h rv Q) : RunQ X d M (pc) lv (st) h rv Q := by
  intro p l e R s m args below meth c cells slots Z ad D cs A H locs ls C w hl
  obtain ⟨hx, hb, hml, hown, hts, hN, hR, hcs, hK, hE, hA, hend⟩ := id C
  exact k p l e R s m args below meth c cells slots Z ad D cs A H locs ls C w ⟨hl.1, hl.2.1, fun i v hi => hl.2.2 i v (hh i v hi)⟩

theorem r_iret {X : SX} {d : Nat} {M : Mt} {pc : Nat} {lv : List (Option Value)} {h : AH} {rv : Option Value} {Q : AH → Prop} {v : Int32} {ty : FieldType} (hd : decode M.2.1 pc = .ok (.ireturn, 1)) (hty : M.2.2.2 = some ty) (hn : narrow ty (.int v) = .int v) (hrv : some (.int v) = rv) (hh : Q h) : RunQ X d M pc lv [.int v] h rv Q := by
  intro p l e R s m args below meth c cells slots Z ad D cs A H locs ls C w hl
  obtain ⟨hx, hb, hml, hown, hts, hN, hR, hcs, hK, hE, hA, hend⟩ := id C
  subst hrv
  exact hend H locs pc ls .ireturn h hh w.1 w.2.1 w.2.2 (Or.inl ⟨rfl, v, ty, rfl, hty, hn⟩) hd

theorem r_lret {X : SX} {d : Nat} {M : Mt} {pc : Nat} {lv : List (Option Value)} {h : AH} {rv : Option Value} {Q : AH → Prop} {v : Int64} (hd : decode M.2.1 pc = .ok (.lreturn, 1)) (hty : M.2.2.2 = some .long) (hrv : some (.long v) = rv) (hh : Q h) : RunQ X d M pc lv [.long v] h rv Q := by
  intro p l e R s m args below meth c cells slots Z ad D cs A H locs ls C w hl
  obtain ⟨hx, hb, hml, hown, hts, hN, hR, hcs, hK, hE, hA, hend⟩ := id C
  subst hrv
  exact hend H locs pc ls .lreturn h hh w.1 w.2.1 w.2.2 (Or.inr (Or.inl ⟨rfl, v, rfl, hty⟩)) hd

theorem r_vret {X : SX} {d : Nat} {M : Mt} {pc : Nat} {lv : List (Option Value)} {h : AH} {rv : Option Value} {Q : AH → Prop} (hd : decode M.2.1 pc = .ok (.return_, 1)) (hty : M.2.2.2 = none) (hrv : none = rv) (hh : Q h) : RunQ X d M pc lv [] h rv Q := by
  intro p l e R s m args below meth c cells slots Z ad D cs A H locs ls C w hl
  obtain ⟨hx, hb, hml, hown, hts, hN, hR, hcs, hK, hE, hA, hend⟩ := id C
  subst hrv
  exact hend H locs pc ls .return_ h hh w.1 w.2.1 w.2.2 (Or.inr (Or.inr (Or.inl ⟨rfl, rfl, hty⟩))) hd

theorem r_aret {X : SX} {d : Nat} {M : Mt} {pc : Nat} {lv : List (Option Value)} {h : AH} {rv : Option Value} {Q : AH → Prop} {a : Nat} {n : String} (hd : decode M.2.1 pc = .ok (.areturn, 1)) (hty : M.2.2.2 = some (.object n)) (hrv : some (.ref a) = rv) (hh : Q h) : RunQ X d M pc lv [.ref a] h rv Q := by
  intro p l e R s m args below meth c cells slots Z ad D cs A H locs ls C w hl
  obtain ⟨hx, hb, hml, hown, hts, hN, hR, hcs, hK, hE, hA, hend⟩ := id C
  subst hrv
  exact hend H locs pc ls .areturn h hh w.1 w.2.1 w.2.2 (Or.inr (Or.inr (Or.inr ⟨rfl, a, n, rfl, hty⟩))) hd

def LKm (own : String) (idx : Nat) (y : MethodName) : Prop := Cond.methodLink own idx y ∈ gT ∨ ∃ host, Cond.methodLinkNest own idx y host ∈ nT
def MRb (M : Mt) (n : Nat) : Prop := Cond.code M.1 M.2.1 M.2.2.1 M.2.2.2 ∈ gT ∧ Cond.initialized M.1.cls ∈ gT ∧ (M.1.cls ≠ "java/lang/invoke/MethodHandle" ∧ M.1.cls ≠ "java/lang/invoke/VarHandle" ∧ (parseMethodDescriptor M.1.desc).map (fun d => d.parameters.length) = some n) ∧ M.2.2.1 ≤ 11 ∧ plainFor M.1 = true
def MRs (M : Mt) (n : Nat) : Prop := MRb M n ∧ Cond.static M.1 ∈ gT
def MRv (M : Mt) (n : Nat) : Prop := MRb M n ∧ Cond.instanceMethod M.1 ∈ gT ∧ Cond.selects M.1.cls M.1 M.1 ∈ gT
theorem MRb.good {M : Mt} {n : Nat} (h : MRb M n) : GoodIn gT (Cond.code M.1 M.2.1 M.2.2.1 M.2.2.2 :: gT) := fun w hw => (List.mem_cons.mp hw).elim (fun z => by rw [z]; exact ⟨h.1, gT_good _ h.1⟩) (fun z => ⟨z, gT_good _ z⟩)
section CALLG
variable {p : Program} {l : Launch} {e : Env} {R : Room} {s : State} {m : MethodId} {args : Array Value} {below : List Frame} {meth : Method} {c : Code} {H : Heap} {locs : List Loc} {cells slots : Nat} {Z : State → Prop}
theorem callG {D : va_G} {cs : Nat → ClassId} {ad : Nat → Nat} {A : Nat → Prop} {pc : Nat} {ls : Array Slot} {st0 rest : List Value} {h : AH} {Q1 : AH → Prop} {rv1 : Option Value} {a : Array Value} (hr : va_Run p l e R s m args below meth c H locs cells slots 0 0 (F0 m pc ls st0) rest (PQ D cs ad h H.size rv1 Q1 a) (va_A (wc cs ad h) H.size)) (hS : va_S A s.heap H locs) (hF : ∀ q, va_A (wc cs ad h) H.size q → A q)
    (kk : ∀ (H1 : Heap) (locs1 : List Loc) (h1 : AH), Q1 h1 → va_P D vwCl (wc cs ad h1) H1 → h1.length = h.length → va_S A s.heap H1 locs1 → W p l e R s m args below meth c H1 locs1 cells slots Z (F0 m (pc + 3) ls ((rv1.map (cv ad)).toList ++ rest))) : W p l e R s m args below meth c H locs cells slots Z (F0 m pc ls st0) := by
  intro T hT X
  obtain ⟨v, st₀, t, T', L, h0, X', hL, e1, e2, ⟨hv, ⟨h9, hq9, hp, hlen⟩, hz, hk⟩, st⟩ := hr T hT X
  have hv9 : v = rv1.map (cv ad) := Outcome.returned.inj hv
  subst hv9
  rw [h0] at hz hk
  obtain ⟨t2, a1, b1⟩ := kk T'.heap (locs ++ L) h9 hq9 (by rw [e1]; exact hp) hlen
    ⟨Nat.le_trans hS.1 (by rw [e1]; exact hz), fun q h1 h2 => by rw [e1, hk q (Nat.lt_of_lt_of_le h1 hS.1) (fun z => h2 (hF q z))]; exact hS.2.1 q h1 h2, fun q hq => by
      rcases List.mem_append.mp hq with h | h
      · exact hS.2.2 q h
      · exact hF _ (hL q h)⟩ T' rfl X'
  exact ⟨t2, st t2 a1, b1⟩
end CALLG
theorem PW.blind {X : SX} {D : va_G} {cs : Nat → ClassId} {ad : Nat → Nat} {h : AH} {sz : Nat} (av : List Value) : FrameBlind (va_Pc av (PW X D cs ad h sz)) := by
  intro a U g mk q
  obtain ⟨q0, q1, q2, q3, q4, q5, q6⟩ := q
  exact ⟨q0, q1, q2, va_K.moved (u := U) (U := U.calling g mk a) (Vm.Alike.refl U.vm) q3, q4, Nst.same (s := U) (U := U.calling g mk a) rfl q5, Ev.same (s := U) (U := U.calling g mk a) q6 rfl rfl⟩
theorem wc_free {h : AH} {s : State} {ad : Nat → Nat} {D : va_G} {cs : Nat → ClassId} {A : Nat → Prop} {H : Heap} {locs : List Loc} (w : Wd h s ad D cs A H locs) (hA : ∀ q : Nat, s.heap.size ≤ q → A q) : ∀ q, va_A (wc cs ad h) H.size q → A q := by
  intro q hq
  rcases hq with ⟨k, e, hk⟩ | hq
  · exact w.2.1.2 k _ hk
  · exact hA q (Nat.le_trans w.2.2.1 hq)
theorem PW.mk {X : SX} {h : AH} {s U : State} {ad : Nat → Nat} {D : va_G} {cs : Nat → ClassId} {A : Nat → Prop} {H : Heap} {locs : List Loc} (w : Wd h s ad D cs A H locs) (hA : ∀ q : Nat, s.heap.size ≤ q → A q) (hN : Nst s) (hK : va_K D vwCl (tys cs) s) (hE : Ev X (fun k => ad (1000 + k)) A s s.heap) (hU : U.heap = H) (hW : s.WarmedH U.vm) : PW X D cs ad h H.size U :=
  ⟨by rw [hU], by rw [hU]; exact w.1, va_K.moved hW.alike hK, w.2.1.weaken (fun _ _ _ _ => trivial), hN.warm hW, hE.to hW hU w.2.2 (wc_free w hA)⟩

theorem r_callS {X : SX} {d : Nat} {M : Mt} {pc : Nat} {lv : List (Option Value)} {st : List Value} {h : AH} {rv : Option Value} {Q : AH → Prop} {d' idx : Nat} {M' : Mt} (as : List Value) {rv1 : Option Value} {Q1 : AH → Prop} (S : SpQ d' M' as h rv1 Q1) (hdd : d' + 1 ≤ d) (mr : MRs M' as.length) (lk : LKm M.1.cls idx M'.1) (hd : decode M.2.1 pc = .ok (.invokestatic idx, 3)) (hw : (st.map fun v => v.category).sum ≤ 8) (k : ∀ h1 : AH, h1.length = h.length → Q1 h1 → RunQ X d M (pc + 3) lv (rv1.toList ++ st) h1 rv Q) : RunQ X d M (pc) lv (as.reverse ++ st) h rv Q := by
  intro p l e R s m args below meth c cells slots Z ad D cs A H locs ls C w hl
  obtain ⟨hx, hb, hml, hown, hts, hN, hR, hcs, hK, hE, hA, hend⟩ := id C
  obtain ⟨⟨m1, m2, m3, m4, m5⟩, m6⟩ := mr
  have mg := MRb.good ⟨m1, m2, m3, m4, m5⟩
  have hR9 : (d' + 1 ≤ R.frames) ∧ (8 + (M'.2.2.1 + 11) + 30 * d' ≤ R.locals) := ⟨Nat.le_trans hdd hR.1, by omega⟩
  have e9 : (as.reverse ++ st).map (cv ad) = (as.map (cv ad)).reverse ++ st.map (cv ad) := by simp
  have e8 : (as.map (cv ad)).length = as.length := List.length_map _
  have hw9 : 2 * (F0 m pc ls ((as.reverse ++ st).map (cv ad))).monitorRoom + ((st.map (cv ad)).map fun v => v.category).sum ≤ 8 := lv_room (by
    rw [List.map_map, show ((fun v => Value.category v) ∘ cv ad) = (fun v => Value.category v) from funext (cv_cat ad)]; exact hw)
  rcases lk with lk | ⟨host, lk⟩
  · refine callG (va_runS (As := as.map (cv ad)) (rest := st.map (cv ad)) ⟨hx, hb, hml, hown, hts⟩ (S X l D cs ad H.size) ⟨callB_of as.length hts mg rfl rfl rfl (hts _ m2) (hts _ lk) m3 hR9, hts _ m6⟩ ⟨PW.blind _, fun U hU hW => ⟨rfl, PW.mk w hA hN hK hE hU hW⟩⟩ rfl e8 hl.1 e9 hw9 hd ⟨hcs.1, hcs.2⟩) w.2.2 (wc_free w hA) (fun H1 locs1 h1 hq1 hP1 hl1 hS1 => ?_)
    have k1 := k h1 hl1 hq1 p l e R s m args below meth c cells slots Z ad D cs A H1 locs1 ls C ⟨hP1, wc_D w.2.1 hl1, hS1⟩ hl
    have e7 : (rv1.toList ++ st).map (cv ad) = (rv1.map (cv ad)).toList ++ st.map (cv ad) := by cases rv1 <;> simp
    rw [e7] at k1
    exact k1
  · refine callG (va_runSN (As := as.map (cv ad)) (rest := st.map (cv ad)) ⟨hx, hb, hml, hown, hts⟩ (S X l D cs ad H.size) ⟨va_cnB as.length hts mg rfl rfl rfl (hN _ lk) (hts _ m2) m3 hR9, hts _ m6, trivial⟩ ⟨PW.blind _, fun U hU hW => ⟨rfl, PW.mk w hA hN hK hE hU hW⟩⟩ rfl e8 hl.1 e9 hw9 hd ⟨hcs.1, hcs.2⟩) w.2.2 (wc_free w hA) (fun H1 locs1 h1 hq1 hP1 hl1 hS1 => ?_)
    have k1 := k h1 hl1 hq1 p l e R s m args below meth c cells slots Z ad D cs A H1 locs1 ls C ⟨hP1, wc_D w.2.1 hl1, hS1⟩ hl
    have e7 : (rv1.toList ++ st).map (cv ad) = (rv1.map (cv ad)).toList ++ st.map (cv ad) := by cases rv1 <;> simp
    rw [e7] at k1
    exact k1

theorem r_callV {X : SX} {d : Nat} {M : Mt} {pc : Nat} {lv : List (Option Value)} {st : List Value} {h : AH} {rv : Option Value} {Q : AH → Prop} {d' idx q ci : Nat} {M' : Mt} {vc : vw_C} {fs : List Value} (as : List Value) {rv1 : Option Value} {Q1 : AH → Prop} (S : SpQ d' M' (.ref q :: as) h rv1 Q1) (hdd : d' + 1 ≤ d) (mr : MRv M' as.length) (lk : LKm M.1.cls idx M'.1) (hq : h[q]? = some (.inr (ci, fs))) (hvc : vwCl[ci]? = some vc) (hcc : vc.1 = M'.1.cls) (hd : decode M.2.1 pc = .ok (.invokevirtual idx, 3)) (hw : (st.map fun v => v.category).sum ≤ 8) (k : ∀ h1 : AH, h1.length = h.length → Q1 h1 → RunQ X d M (pc + 3) lv (rv1.toList ++ st) h1 rv Q) : RunQ X d M (pc) lv (as.reverse ++ .ref q :: st) h rv Q := by
  intro p l e R s m args below meth c cells slots Z ad D cs A H locs ls C w hl
  obtain ⟨hx, hb, hml, hown, hts, hN, hR, hcs, hK, hE, hA, hend⟩ := id C
  obtain ⟨⟨m1, m2, m3, m4, m5⟩, m6, m7⟩ := mr
  have mg := MRb.good ⟨m1, m2, m3, m4, m5⟩
  have hR9 : (d' + 1 ≤ R.frames) ∧ (8 + (M'.2.2.1 + 11) + 30 * d' ≤ R.locals) := ⟨Nat.le_trans hdd hR.1, by omega⟩
  have e9 : (as.reverse ++ .ref q :: st).map (cv ad) = (as.map (cv ad)).reverse ++ .ref (ad q) :: st.map (cv ad) := by simp [cv]
  have e8 : (as.map (cv ad)).length = as.length := List.length_map _
  have hw9 : 2 * (F0 m pc ls ((as.reverse ++ .ref q :: st).map (cv ad))).monitorRoom + ((st.map (cv ad)).map fun v => v.category).sum ≤ 8 := lv_room (by
    rw [List.map_map, show ((fun v => Value.category v) ∘ cv ad) = (fun v => Value.category v) from funext (cv_cat ad)]; exact hw)
  have hrc := va_recv hK w.1 hvc (wc_at hq)
  rw [hcc] at hrc
  rcases lk with lk | ⟨host, lk⟩
  · refine callG (va_runV (As := as.map (cv ad)) (rest := st.map (cv ad)) ⟨hx, hb, hml, hown, hts⟩ (S X l D cs ad H.size) ⟨callB_of as.length hts mg rfl rfl rfl (hts _ m2) (hts _ lk) m3 hR9, hts _ m6, hts _ m7⟩ ⟨PW.blind _, hrc, fun U hU hW => ⟨rfl, PW.mk w hA hN hK hE hU hW⟩⟩ rfl e8 hl.1 e9 hw9 hd ⟨hcs.1, hcs.2⟩) w.2.2 (wc_free w hA) (fun H1 locs1 h1 hq1 hP1 hl1 hS1 => ?_)
    have k1 := k h1 hl1 hq1 p l e R s m args below meth c cells slots Z ad D cs A H1 locs1 ls C ⟨hP1, wc_D w.2.1 hl1, hS1⟩ hl
    have e7 : (rv1.toList ++ st).map (cv ad) = (rv1.map (cv ad)).toList ++ st.map (cv ad) := by cases rv1 <;> simp
    rw [e7] at k1
    exact k1
  · refine callG (va_runVN (As := as.map (cv ad)) (rest := st.map (cv ad)) ⟨hx, hb, hml, hown, hts⟩ (S X l D cs ad H.size) ⟨va_cnB as.length hts mg rfl rfl rfl (hN _ lk) (hts _ m2) m3 hR9, hts _ m6, hts _ m7⟩ ⟨PW.blind _, hrc, fun U hU hW => ⟨rfl, PW.mk w hA hN hK hE hU hW⟩⟩ rfl e8 hl.1 e9 hw9 hd ⟨hcs.1, hcs.2⟩) w.2.2 (wc_free w hA) (fun H1 locs1 h1 hq1 hP1 hl1 hS1 => ?_)
    have k1 := k h1 hl1 hq1 p l e R s m args below meth c cells slots Z ad D cs A H1 locs1 ls C ⟨hP1, wc_D w.2.1 hl1, hS1⟩ hl
    have e7 : (rv1.toList ++ st).map (cv ad) = (rv1.map (cv ad)).toList ++ st.map (cv ad) := by cases rv1 <;> simp
    rw [e7] at k1
    exact k1

theorem r_s0r {X : SX} {d : Nat} {M : Mt} {pc : Nat} {lv : List (Option Value)} {st : List Value} {h : AH} {rv : Option Value} {Q : AH → Prop} {d' idx : Nat} {M' : Mt} {v : Value} {h1 : AH} (S : Sp d' M' [] h (some v) h1) (hdd : d' + 1 ≤ d) (mr : MRs M' 0) (lk : LKm M.1.cls idx M'.1) (hd : decode M.2.1 pc = .ok (.invokestatic idx, 3)) (hw : (st.map fun v => v.category).sum ≤ 8) (k : RunQ X d M (pc + 3) lv (v :: st) h1 rv Q) : RunQ X d M (pc) lv (st) h rv Q := r_callS [] S hdd mr lk hd hw (fun h9 _ q9 => r_heq q9 k)

theorem r_s0n {X : SX} {d : Nat} {M : Mt} {pc : Nat} {lv : List (Option Value)} {st : List Value} {h : AH} {rv : Option Value} {Q : AH → Prop} {d' idx : Nat} {M' : Mt}  {h1 : AH} (S : Sp d' M' [] h none h1) (hdd : d' + 1 ≤ d) (mr : MRs M' 0) (lk : LKm M.1.cls idx M'.1) (hd : decode M.2.1 pc = .ok (.invokestatic idx, 3)) (hw : (st.map fun v => v.category).sum ≤ 8) (k : RunQ X d M (pc + 3) lv (st) h1 rv Q) : RunQ X d M (pc) lv (st) h rv Q := r_callS [] S hdd mr lk hd hw (fun h9 _ q9 => r_heq q9 k)

theorem r_v0r {X : SX} {d : Nat} {M : Mt} {pc : Nat} {lv : List (Option Value)} {st : List Value} {h : AH} {rv : Option Value} {Q : AH → Prop} {d' idx q ci : Nat} {M' : Mt} {vc : vw_C} {fs : List Value} {v : Value} {h1 : AH} (S : Sp d' M' [.ref q] h (some v) h1) (hdd : d' + 1 ≤ d) (mr : MRv M' 0) (lk : LKm M.1.cls idx M'.1) (hq : h[q]? = some (.inr (ci, fs))) (hvc : vwCl[ci]? = some vc) (hcc : vc.1 = M'.1.cls) (hd : decode M.2.1 pc = .ok (.invokevirtual idx, 3)) (hw : (st.map fun v => v.category).sum ≤ 8) (k : RunQ X d M (pc + 3) lv (v :: st) h1 rv Q) : RunQ X d M (pc) lv (.ref q :: st) h rv Q := r_callV [] S hdd mr lk hq hvc hcc hd hw (fun h9 _ q9 => r_heq q9 k)

theorem r_v0n {X : SX} {d : Nat} {M : Mt} {pc : Nat} {lv : List (Option Value)} {st : List Value} {h : AH} {rv : Option Value} {Q : AH → Prop} {d' idx q ci : Nat} {M' : Mt} {vc : vw_C} {fs : List Value}  {h1 : AH} (S : Sp d' M' [.ref q] h none h1) (hdd : d' + 1 ≤ d) (mr : MRv M' 0) (lk : LKm M.1.cls idx M'.1) (hq : h[q]? = some (.inr (ci, fs))) (hvc : vwCl[ci]? = some vc) (hcc : vc.1 = M'.1.cls) (hd : decode M.2.1 pc = .ok (.invokevirtual idx, 3)) (hw : (st.map fun v => v.category).sum ≤ 8) (k : RunQ X d M (pc + 3) lv (st) h1 rv Q) : RunQ X d M (pc) lv (.ref q :: st) h rv Q := r_callV [] S hdd mr lk hq hvc hcc hd hw (fun h9 _ q9 => r_heq q9 k)

theorem r_s1r {X : SX} {d : Nat} {M : Mt} {pc : Nat} {lv : List (Option Value)} {st : List Value} {h : AH} {rv : Option Value} {Q : AH → Prop} {d' idx : Nat} {M' : Mt} {a1 v : Value} {h1 : AH} (S : Sp d' M' [a1] h (some v) h1) (hdd : d' + 1 ≤ d) (mr : MRs M' 1) (lk : LKm M.1.cls idx M'.1) (hd : decode M.2.1 pc = .ok (.invokestatic idx, 3)) (hw : (st.map fun v => v.category).sum ≤ 8) (k : RunQ X d M (pc + 3) lv (v :: st) h1 rv Q) : RunQ X d M (pc) lv (a1 :: st) h rv Q := r_callS [a1] S hdd mr lk hd hw (fun h9 _ q9 => r_heq q9 k)

theorem r_s1n {X : SX} {d : Nat} {M : Mt} {pc : Nat} {lv : List (Option Value)} {st : List Value} {h : AH} {rv : Option Value} {Q : AH → Prop} {d' idx : Nat} {M' : Mt} {a1 : Value} {h1 : AH} (S : Sp d' M' [a1] h none h1) (hdd : d' + 1 ≤ d) (mr : MRs M' 1) (lk : LKm M.1.cls idx M'.1) (hd : decode M.2.1 pc = .ok (.invokestatic idx, 3)) (hw : (st.map fun v => v.category).sum ≤ 8) (k : RunQ X d M (pc + 3) lv (st) h1 rv Q) : RunQ X d M (pc) lv (a1 :: st) h rv Q := r_callS [a1] S hdd mr lk hd hw (fun h9 _ q9 => r_heq q9 k)

theorem r_v1r {X : SX} {d : Nat} {M : Mt} {pc : Nat} {lv : List (Option Value)} {st : List Value} {h : AH} {rv : Option Value} {Q : AH → Prop} {d' idx q ci : Nat} {M' : Mt} {vc : vw_C} {fs : List Value} {a1 v : Value} {h1 : AH} (S : Sp d' M' [.ref q, a1] h (some v) h1) (hdd : d' + 1 ≤ d) (mr : MRv M' 1) (lk : LKm M.1.cls idx M'.1) (hq : h[q]? = some (.inr (ci, fs))) (hvc : vwCl[ci]? = some vc) (hcc : vc.1 = M'.1.cls) (hd : decode M.2.1 pc = .ok (.invokevirtual idx, 3)) (hw : (st.map fun v => v.category).sum ≤ 8) (k : RunQ X d M (pc + 3) lv (v :: st) h1 rv Q) : RunQ X d M (pc) lv (a1 :: .ref q :: st) h rv Q := r_callV [a1] S hdd mr lk hq hvc hcc hd hw (fun h9 _ q9 => r_heq q9 k)

theorem r_v1n {X : SX} {d : Nat} {M : Mt} {pc : Nat} {lv : List (Option Value)} {st : List Value} {h : AH} {rv : Option Value} {Q : AH → Prop} {d' idx q ci : Nat} {M' : Mt} {vc : vw_C} {fs : List Value} {a1 : Value} {h1 : AH} (S : Sp d' M' [.ref q, a1] h none h1) (hdd : d' + 1 ≤ d) (mr : MRv M' 1) (lk : LKm M.1.cls idx M'.1) (hq : h[q]? = some (.inr (ci, fs))) (hvc : vwCl[ci]? = some vc) (hcc : vc.1 = M'.1.cls) (hd : decode M.2.1 pc = .ok (.invokevirtual idx, 3)) (hw : (st.map fun v => v.category).sum ≤ 8) (k : RunQ X d M (pc + 3) lv (st) h1 rv Q) : RunQ X d M (pc) lv (a1 :: .ref q :: st) h rv Q := r_callV [a1] S hdd mr lk hq hvc hcc hd hw (fun h9 _ q9 => r_heq q9 k)

theorem r_s2r {X : SX} {d : Nat} {M : Mt} {pc : Nat} {lv : List (Option Value)} {st : List Value} {h : AH} {rv : Option Value} {Q : AH → Prop} {d' idx : Nat} {M' : Mt} {a1 a2 v : Value} {h1 : AH} (S : Sp d' M' [a1, a2] h (some v) h1) (hdd : d' + 1 ≤ d) (mr : MRs M' 2) (lk : LKm M.1.cls idx M'.1) (hd : decode M.2.1 pc = .ok (.invokestatic idx, 3)) (hw : (st.map fun v => v.category).sum ≤ 8) (k : RunQ X d M (pc + 3) lv (v :: st) h1 rv Q) : RunQ X d M (pc) lv (a2 :: a1 :: st) h rv Q := r_callS [a1, a2] S hdd mr lk hd hw (fun h9 _ q9 => r_heq q9 k)

theorem r_s2n {X : SX} {d : Nat} {M : Mt} {pc : Nat} {lv : List (Option Value)} {st : List Value} {h : AH} {rv : Option Value} {Q : AH → Prop} {d' idx : Nat} {M' : Mt} {a1 a2 : Value} {h1 : AH} (S : Sp d' M' [a1, a2] h none h1) (hdd : d' + 1 ≤ d) (mr : MRs M' 2) (lk : LKm M.1.cls idx M'.1) (hd : decode M.2.1 pc = .ok (.invokestatic idx, 3)) (hw : (st.map fun v => v.category).sum ≤ 8) (k : RunQ X d M (pc + 3) lv (st) h1 rv Q) : RunQ X d M (pc) lv (a2 :: a1 :: st) h rv Q := r_callS [a1, a2] S hdd mr lk hd hw (fun h9 _ q9 => r_heq q9 k)

theorem r_v2r {X : SX} {d : Nat} {M : Mt} {pc : Nat} {lv : List (Option Value)} {st : List Value} {h : AH} {rv : Option Value} {Q : AH → Prop} {d' idx q ci : Nat} {M' : Mt} {vc : vw_C} {fs : List Value} {a1 a2 v : Value} {h1 : AH} (S : Sp d' M' [.ref q, a1, a2] h (some v) h1) (hdd : d' + 1 ≤ d) (mr : MRv M' 2) (lk : LKm M.1.cls idx M'.1) (hq : h[q]? = some (.inr (ci, fs))) (hvc : vwCl[ci]? = some vc) (hcc : vc.1 = M'.1.cls) (hd : decode M.2.1 pc = .ok (.invokevirtual idx, 3)) (hw : (st.map fun v => v.category).sum ≤ 8) (k : RunQ X d M (pc + 3) lv (v :: st) h1 rv Q) : RunQ X d M (pc) lv (a2 :: a1 :: .ref q :: st) h rv Q := r_callV [a1, a2] S hdd mr lk hq hvc hcc hd hw (fun h9 _ q9 => r_heq q9 k)

theorem r_v2n {X : SX} {d : Nat} {M : Mt} {pc : Nat} {lv : List (Option Value)} {st : List Value} {h : AH} {rv : Option Value} {Q : AH → Prop} {d' idx q ci : Nat} {M' : Mt} {vc : vw_C} {fs : List Value} {a1 a2 : Value} {h1 : AH} (S : Sp d' M' [.ref q, a1, a2] h none h1) (hdd : d' + 1 ≤ d) (mr : MRv M' 2) (lk : LKm M.1.cls idx M'.1) (hq : h[q]? = some (.inr (ci, fs))) (hvc : vwCl[ci]? = some vc) (hcc : vc.1 = M'.1.cls) (hd : decode M.2.1 pc = .ok (.invokevirtual idx, 3)) (hw : (st.map fun v => v.category).sum ≤ 8) (k : RunQ X d M (pc + 3) lv (st) h1 rv Q) : RunQ X d M (pc) lv (a2 :: a1 :: .ref q :: st) h rv Q := r_callV [a1, a2] S hdd mr lk hq hvc hcc hd hw (fun h9 _ q9 => r_heq q9 k)

theorem r_s3r {X : SX} {d : Nat} {M : Mt} {pc : Nat} {lv : List (Option Value)} {st : List Value} {h : AH} {rv : Option Value} {Q : AH → Prop} {d' idx : Nat} {M' : Mt} {a1 a2 a3 v : Value} {h1 : AH} (S : Sp d' M' [a1, a2, a3] h (some v) h1) (hdd : d' + 1 ≤ d) (mr : MRs M' 3) (lk : LKm M.1.cls idx M'.1) (hd : decode M.2.1 pc = .ok (.invokestatic idx, 3)) (hw : (st.map fun v => v.category).sum ≤ 8) (k : RunQ X d M (pc + 3) lv (v :: st) h1 rv Q) : RunQ X d M (pc) lv (a3 :: a2 :: a1 :: st) h rv Q := r_callS [a1, a2, a3] S hdd mr lk hd hw (fun h9 _ q9 => r_heq q9 k)

theorem r_s3n {X : SX} {d : Nat} {M : Mt} {pc : Nat} {lv : List (Option Value)} {st : List Value} {h : AH} {rv : Option Value} {Q : AH → Prop} {d' idx : Nat} {M' : Mt} {a1 a2 a3 : Value} {h1 : AH} (S : Sp d' M' [a1, a2, a3] h none h1) (hdd : d' + 1 ≤ d) (mr : MRs M' 3) (lk : LKm M.1.cls idx M'.1) (hd : decode M.2.1 pc = .ok (.invokestatic idx, 3)) (hw : (st.map fun v => v.category).sum ≤ 8) (k : RunQ X d M (pc + 3) lv (st) h1 rv Q) : RunQ X d M (pc) lv (a3 :: a2 :: a1 :: st) h rv Q := r_callS [a1, a2, a3] S hdd mr lk hd hw (fun h9 _ q9 => r_heq q9 k)

theorem r_v3r {X : SX} {d : Nat} {M : Mt} {pc : Nat} {lv : List (Option Value)} {st : List Value} {h : AH} {rv : Option Value} {Q : AH → Prop} {d' idx q ci : Nat} {M' : Mt} {vc : vw_C} {fs : List Value} {a1 a2 a3 v : Value} {h1 : AH} (S : Sp d' M' [.ref q, a1, a2, a3] h (some v) h1) (hdd : d' + 1 ≤ d) (mr : MRv M' 3) (lk : LKm M.1.cls idx M'.1) (hq : h[q]? = some (.inr (ci, fs))) (hvc : vwCl[ci]? = some vc) (hcc : vc.1 = M'.1.cls) (hd : decode M.2.1 pc = .ok (.invokevirtual idx, 3)) (hw : (st.map fun v => v.category).sum ≤ 8) (k : RunQ X d M (pc + 3) lv (v :: st) h1 rv Q) : RunQ X d M (pc) lv (a3 :: a2 :: a1 :: .ref q :: st) h rv Q := r_callV [a1, a2, a3] S hdd mr lk hq hvc hcc hd hw (fun h9 _ q9 => r_heq q9 k)

theorem r_v3n {X : SX} {d : Nat} {M : Mt} {pc : Nat} {lv : List (Option Value)} {st : List Value} {h : AH} {rv : Option Value} {Q : AH → Prop} {d' idx q ci : Nat} {M' : Mt} {vc : vw_C} {fs : List Value} {a1 a2 a3 : Value} {h1 : AH} (S : Sp d' M' [.ref q, a1, a2, a3] h none h1) (hdd : d' + 1 ≤ d) (mr : MRv M' 3) (lk : LKm M.1.cls idx M'.1) (hq : h[q]? = some (.inr (ci, fs))) (hvc : vwCl[ci]? = some vc) (hcc : vc.1 = M'.1.cls) (hd : decode M.2.1 pc = .ok (.invokevirtual idx, 3)) (hw : (st.map fun v => v.category).sum ≤ 8) (k : RunQ X d M (pc + 3) lv (st) h1 rv Q) : RunQ X d M (pc) lv (a3 :: a2 :: a1 :: .ref q :: st) h rv Q := r_callV [a1, a2, a3] S hdd mr lk hq hvc hcc hd hw (fun h9 _ q9 => r_heq q9 k)

theorem r_s4r {X : SX} {d : Nat} {M : Mt} {pc : Nat} {lv : List (Option Value)} {st : List Value} {h : AH} {rv : Option Value} {Q : AH → Prop} {d' idx : Nat} {M' : Mt} {a1 a2 a3 a4 v : Value} {h1 : AH} (S : Sp d' M' [a1, a2, a3, a4] h (some v) h1) (hdd : d' + 1 ≤ d) (mr : MRs M' 4) (lk : LKm M.1.cls idx M'.1) (hd : decode M.2.1 pc = .ok (.invokestatic idx, 3)) (hw : (st.map fun v => v.category).sum ≤ 8) (k : RunQ X d M (pc + 3) lv (v :: st) h1 rv Q) : RunQ X d M (pc) lv (a4 :: a3 :: a2 :: a1 :: st) h rv Q := r_callS [a1, a2, a3, a4] S hdd mr lk hd hw (fun h9 _ q9 => r_heq q9 k)

theorem r_s4n {X : SX} {d : Nat} {M : Mt} {pc : Nat} {lv : List (Option Value)} {st : List Value} {h : AH} {rv : Option Value} {Q : AH → Prop} {d' idx : Nat} {M' : Mt} {a1 a2 a3 a4 : Value} {h1 : AH} (S : Sp d' M' [a1, a2, a3, a4] h none h1) (hdd : d' + 1 ≤ d) (mr : MRs M' 4) (lk : LKm M.1.cls idx M'.1) (hd : decode M.2.1 pc = .ok (.invokestatic idx, 3)) (hw : (st.map fun v => v.category).sum ≤ 8) (k : RunQ X d M (pc + 3) lv (st) h1 rv Q) : RunQ X d M (pc) lv (a4 :: a3 :: a2 :: a1 :: st) h rv Q := r_callS [a1, a2, a3, a4] S hdd mr lk hd hw (fun h9 _ q9 => r_heq q9 k)

theorem r_v4r {X : SX} {d : Nat} {M : Mt} {pc : Nat} {lv : List (Option Value)} {st : List Value} {h : AH} {rv : Option Value} {Q : AH → Prop} {d' idx q ci : Nat} {M' : Mt} {vc : vw_C} {fs : List Value} {a1 a2 a3 a4 v : Value} {h1 : AH} (S : Sp d' M' [.ref q, a1, a2, a3, a4] h (some v) h1) (hdd : d' + 1 ≤ d) (mr : MRv M' 4) (lk : LKm M.1.cls idx M'.1) (hq : h[q]? = some (.inr (ci, fs))) (hvc : vwCl[ci]? = some vc) (hcc : vc.1 = M'.1.cls) (hd : decode M.2.1 pc = .ok (.invokevirtual idx, 3)) (hw : (st.map fun v => v.category).sum ≤ 8) (k : RunQ X d M (pc + 3) lv (v :: st) h1 rv Q) : RunQ X d M (pc) lv (a4 :: a3 :: a2 :: a1 :: .ref q :: st) h rv Q := r_callV [a1, a2, a3, a4] S hdd mr lk hq hvc hcc hd hw (fun h9 _ q9 => r_heq q9 k)

theorem r_v4n {X : SX} {d : Nat} {M : Mt} {pc : Nat} {lv : List (Option Value)} {st : List Value} {h : AH} {rv : Option Value} {Q : AH → Prop} {d' idx q ci : Nat} {M' : Mt} {vc : vw_C} {fs : List Value} {a1 a2 a3 a4 : Value} {h1 : AH} (S : Sp d' M' [.ref q, a1, a2, a3, a4] h none h1) (hdd : d' + 1 ≤ d) (mr : MRv M' 4) (lk : LKm M.1.cls idx M'.1) (hq : h[q]? = some (.inr (ci, fs))) (hvc : vwCl[ci]? = some vc) (hcc : vc.1 = M'.1.cls) (hd : decode M.2.1 pc = .ok (.invokevirtual idx, 3)) (hw : (st.map fun v => v.category).sum ≤ 8) (k : RunQ X d M (pc + 3) lv (st) h1 rv Q) : RunQ X d M (pc) lv (a4 :: a3 :: a2 :: a1 :: .ref q :: st) h rv Q := r_callV [a1, a2, a3, a4] S hdd mr lk hq hvc hcc hd hw (fun h9 _ q9 => r_heq q9 k)

theorem r_s5r {X : SX} {d : Nat} {M : Mt} {pc : Nat} {lv : List (Option Value)} {st : List Value} {h : AH} {rv : Option Value} {Q : AH → Prop} {d' idx : Nat} {M' : Mt} {a1 a2 a3 a4 a5 v : Value} {h1 : AH} (S : Sp d' M' [a1, a2, a3, a4, a5] h (some v) h1) (hdd : d' + 1 ≤ d) (mr : MRs M' 5) (lk : LKm M.1.cls idx M'.1) (hd : decode M.2.1 pc = .ok (.invokestatic idx, 3)) (hw : (st.map fun v => v.category).sum ≤ 8) (k : RunQ X d M (pc + 3) lv (v :: st) h1 rv Q) : RunQ X d M (pc) lv (a5 :: a4 :: a3 :: a2 :: a1 :: st) h rv Q := r_callS [a1, a2, a3, a4, a5] S hdd mr lk hd hw (fun h9 _ q9 => r_heq q9 k)

theorem r_s5n {X : SX} {d : Nat} {M : Mt} {pc : Nat} {lv : List (Option Value)} {st : List Value} {h : AH} {rv : Option Value} {Q : AH → Prop} {d' idx : Nat} {M' : Mt} {a1 a2 a3 a4 a5 : Value} {h1 : AH} (S : Sp d' M' [a1, a2, a3, a4, a5] h none h1) (hdd : d' + 1 ≤ d) (mr : MRs M' 5) (lk : LKm M.1.cls idx M'.1) (hd : decode M.2.1 pc = .ok (.invokestatic idx, 3)) (hw : (st.map fun v => v.category).sum ≤ 8) (k : RunQ X d M (pc + 3) lv (st) h1 rv Q) : RunQ X d M (pc) lv (a5 :: a4 :: a3 :: a2 :: a1 :: st) h rv Q := r_callS [a1, a2, a3, a4, a5] S hdd mr lk hd hw (fun h9 _ q9 => r_heq q9 k)

theorem r_v5r {X : SX} {d : Nat} {M : Mt} {pc : Nat} {lv : List (Option Value)} {st : List Value} {h : AH} {rv : Option Value} {Q : AH → Prop} {d' idx q ci : Nat} {M' : Mt} {vc : vw_C} {fs : List Value} {a1 a2 a3 a4 a5 v : Value} {h1 : AH} (S : Sp d' M' [.ref q, a1, a2, a3, a4, a5] h (some v) h1) (hdd : d' + 1 ≤ d) (mr : MRv M' 5) (lk : LKm M.1.cls idx M'.1) (hq : h[q]? = some (.inr (ci, fs))) (hvc : vwCl[ci]? = some vc) (hcc : vc.1 = M'.1.cls) (hd : decode M.2.1 pc = .ok (.invokevirtual idx, 3)) (hw : (st.map fun v => v.category).sum ≤ 8) (k : RunQ X d M (pc + 3) lv (v :: st) h1 rv Q) : RunQ X d M (pc) lv (a5 :: a4 :: a3 :: a2 :: a1 :: .ref q :: st) h rv Q := r_callV [a1, a2, a3, a4, a5] S hdd mr lk hq hvc hcc hd hw (fun h9 _ q9 => r_heq q9 k)

theorem r_v5n {X : SX} {d : Nat} {M : Mt} {pc : Nat} {lv : List (Option Value)} {st : List Value} {h : AH} {rv : Option Value} {Q : AH → Prop} {d' idx q ci : Nat} {M' : Mt} {vc : vw_C} {fs : List Value} {a1 a2 a3 a4 a5 : Value} {h1 : AH} (S : Sp d' M' [.ref q, a1, a2, a3, a4, a5] h none h1) (hdd : d' + 1 ≤ d) (mr : MRv M' 5) (lk : LKm M.1.cls idx M'.1) (hq : h[q]? = some (.inr (ci, fs))) (hvc : vwCl[ci]? = some vc) (hcc : vc.1 = M'.1.cls) (hd : decode M.2.1 pc = .ok (.invokevirtual idx, 3)) (hw : (st.map fun v => v.category).sum ≤ 8) (k : RunQ X d M (pc + 3) lv (st) h1 rv Q) : RunQ X d M (pc) lv (a5 :: a4 :: a3 :: a2 :: a1 :: .ref q :: st) h rv Q := r_callV [a1, a2, a3, a4, a5] S hdd mr lk hq hvc hcc hd hw (fun h9 _ q9 => r_heq q9 k)

theorem r_v0rq {X : SX} {d : Nat} {M : Mt} {pc : Nat} {lv : List (Option Value)} {st : List Value} {h : AH} {rv : Option Value} {Q : AH → Prop} {d' idx q ci : Nat} {M' : Mt} {vc : vw_C} {fs : List Value} {v : Value} {Q1 : AH → Prop} (S : SpQ d' M' [.ref q] h (some v) Q1) (hdd : d' + 1 ≤ d) (mr : MRv M' 0) (lk : LKm M.1.cls idx M'.1) (hq : h[q]? = some (.inr (ci, fs))) (hvc : vwCl[ci]? = some vc) (hcc : vc.1 = M'.1.cls) (hd : decode M.2.1 pc = .ok (.invokevirtual idx, 3)) (hw : (st.map fun v => v.category).sum ≤ 8) (k : ∀ h1 : AH, h1.length = h.length → Q1 h1 → RunQ X d M (pc + 3) lv (v :: st) h1 rv Q) : RunQ X d M (pc) lv (.ref q :: st) h rv Q := r_callV [] S hdd mr lk hq hvc hcc hd hw k

theorem r_v0nq {X : SX} {d : Nat} {M : Mt} {pc : Nat} {lv : List (Option Value)} {st : List Value} {h : AH} {rv : Option Value} {Q : AH → Prop} {d' idx q ci : Nat} {M' : Mt} {vc : vw_C} {fs : List Value}  {Q1 : AH → Prop} (S : SpQ d' M' [.ref q] h none Q1) (hdd : d' + 1 ≤ d) (mr : MRv M' 0) (lk : LKm M.1.cls idx M'.1) (hq : h[q]? = some (.inr (ci, fs))) (hvc : vwCl[ci]? = some vc) (hcc : vc.1 = M'.1.cls) (hd : decode M.2.1 pc = .ok (.invokevirtual idx, 3)) (hw : (st.map fun v => v.category).sum ≤ 8) (k : ∀ h1 : AH, h1.length = h.length → Q1 h1 → RunQ X d M (pc + 3) lv (st) h1 rv Q) : RunQ X d M (pc) lv (.ref q :: st) h rv Q := r_callV [] S hdd mr lk hq hvc hcc hd hw k

theorem r_v1rq {X : SX} {d : Nat} {M : Mt} {pc : Nat} {lv : List (Option Value)} {st : List Value} {h : AH} {rv : Option Value} {Q : AH → Prop} {d' idx q ci : Nat} {M' : Mt} {vc : vw_C} {fs : List Value} {a1 v : Value} {Q1 : AH → Prop} (S : SpQ d' M' [.ref q, a1] h (some v) Q1) (hdd : d' + 1 ≤ d) (mr : MRv M' 1) (lk : LKm M.1.cls idx M'.1) (hq : h[q]? = some (.inr (ci, fs))) (hvc : vwCl[ci]? = some vc) (hcc : vc.1 = M'.1.cls) (hd : decode M.2.1 pc = .ok (.invokevirtual idx, 3)) (hw : (st.map fun v => v.category).sum ≤ 8) (k : ∀ h1 : AH, h1.length = h.length → Q1 h1 → RunQ X d M (pc + 3) lv (v :: st) h1 rv Q) : RunQ X d M (pc) lv (a1 :: .ref q :: st) h rv Q := r_callV [a1] S hdd mr lk hq hvc hcc hd hw k

theorem r_v1nq {X : SX} {d : Nat} {M : Mt} {pc : Nat} {lv : List (Option Value)} {st : List Value} {h : AH} {rv : Option Value} {Q : AH → Prop} {d' idx q ci : Nat} {M' : Mt} {vc : vw_C} {fs : List Value} {a1 : Value} {Q1 : AH → Prop} (S : SpQ d' M' [.ref q, a1] h none Q1) (hdd : d' + 1 ≤ d) (mr : MRv M' 1) (lk : LKm M.1.cls idx M'.1) (hq : h[q]? = some (.inr (ci, fs))) (hvc : vwCl[ci]? = some vc) (hcc : vc.1 = M'.1.cls) (hd : decode M.2.1 pc = .ok (.invokevirtual idx, 3)) (hw : (st.map fun v => v.category).sum ≤ 8) (k : ∀ h1 : AH, h1.length = h.length → Q1 h1 → RunQ X d M (pc + 3) lv (st) h1 rv Q) : RunQ X d M (pc) lv (a1 :: .ref q :: st) h rv Q := r_callV [a1] S hdd mr lk hq hvc hcc hd hw k

theorem r_v2rq {X : SX} {d : Nat} {M : Mt} {pc : Nat} {lv : List (Option Value)} {st : List Value} {h : AH} {rv : Option Value} {Q : AH → Prop} {d' idx q ci : Nat} {M' : Mt} {vc : vw_C} {fs : List Value} {a1 a2 v : Value} {Q1 : AH → Prop} (S : SpQ d' M' [.ref q, a1, a2] h (some v) Q1) (hdd : d' + 1 ≤ d) (mr : MRv M' 2) (lk : LKm M.1.cls idx M'.1) (hq : h[q]? = some (.inr (ci, fs))) (hvc : vwCl[ci]? = some vc) (hcc : vc.1 = M'.1.cls) (hd : decode M.2.1 pc = .ok (.invokevirtual idx, 3)) (hw : (st.map fun v => v.category).sum ≤ 8) (k : ∀ h1 : AH, h1.length = h.length → Q1 h1 → RunQ X d M (pc + 3) lv (v :: st) h1 rv Q) : RunQ X d M (pc) lv (a2 :: a1 :: .ref q :: st) h rv Q := r_callV [a1, a2] S hdd mr lk hq hvc hcc hd hw k

theorem r_v2nq {X : SX} {d : Nat} {M : Mt} {pc : Nat} {lv : List (Option Value)} {st : List Value} {h : AH} {rv : Option Value} {Q : AH → Prop} {d' idx q ci : Nat} {M' : Mt} {vc : vw_C} {fs : List Value} {a1 a2 : Value} {Q1 : AH → Prop} (S : SpQ d' M' [.ref q, a1, a2] h none Q1) (hdd : d' + 1 ≤ d) (mr : MRv M' 2) (lk : LKm M.1.cls idx M'.1) (hq : h[q]? = some (.inr (ci, fs))) (hvc : vwCl[ci]? = some vc) (hcc : vc.1 = M'.1.cls) (hd : decode M.2.1 pc = .ok (.invokevirtual idx, 3)) (hw : (st.map fun v => v.category).sum ≤ 8) (k : ∀ h1 : AH, h1.length = h.length → Q1 h1 → RunQ X d M (pc + 3) lv (st) h1 rv Q) : RunQ X d M (pc) lv (a2 :: a1 :: .ref q :: st) h rv Q := r_callV [a1, a2] S hdd mr lk hq hvc hcc hd hw k

theorem r_v3rq {X : SX} {d : Nat} {M : Mt} {pc : Nat} {lv : List (Option Value)} {st : List Value} {h : AH} {rv : Option Value} {Q : AH → Prop} {d' idx q ci : Nat} {M' : Mt} {vc : vw_C} {fs : List Value} {a1 a2 a3 v : Value} {Q1 : AH → Prop} (S : SpQ d' M' [.ref q, a1, a2, a3] h (some v) Q1) (hdd : d' + 1 ≤ d) (mr : MRv M' 3) (lk : LKm M.1.cls idx M'.1) (hq : h[q]? = some (.inr (ci, fs))) (hvc : vwCl[ci]? = some vc) (hcc : vc.1 = M'.1.cls) (hd : decode M.2.1 pc = .ok (.invokevirtual idx, 3)) (hw : (st.map fun v => v.category).sum ≤ 8) (k : ∀ h1 : AH, h1.length = h.length → Q1 h1 → RunQ X d M (pc + 3) lv (v :: st) h1 rv Q) : RunQ X d M (pc) lv (a3 :: a2 :: a1 :: .ref q :: st) h rv Q := r_callV [a1, a2, a3] S hdd mr lk hq hvc hcc hd hw k

theorem r_v3nq {X : SX} {d : Nat} {M : Mt} {pc : Nat} {lv : List (Option Value)} {st : List Value} {h : AH} {rv : Option Value} {Q : AH → Prop} {d' idx q ci : Nat} {M' : Mt} {vc : vw_C} {fs : List Value} {a1 a2 a3 : Value} {Q1 : AH → Prop} (S : SpQ d' M' [.ref q, a1, a2, a3] h none Q1) (hdd : d' + 1 ≤ d) (mr : MRv M' 3) (lk : LKm M.1.cls idx M'.1) (hq : h[q]? = some (.inr (ci, fs))) (hvc : vwCl[ci]? = some vc) (hcc : vc.1 = M'.1.cls) (hd : decode M.2.1 pc = .ok (.invokevirtual idx, 3)) (hw : (st.map fun v => v.category).sum ≤ 8) (k : ∀ h1 : AH, h1.length = h.length → Q1 h1 → RunQ X d M (pc + 3) lv (st) h1 rv Q) : RunQ X d M (pc) lv (a3 :: a2 :: a1 :: .ref q :: st) h rv Q := r_callV [a1, a2, a3] S hdd mr lk hq hvc hcc hd hw k

theorem r_v4rq {X : SX} {d : Nat} {M : Mt} {pc : Nat} {lv : List (Option Value)} {st : List Value} {h : AH} {rv : Option Value} {Q : AH → Prop} {d' idx q ci : Nat} {M' : Mt} {vc : vw_C} {fs : List Value} {a1 a2 a3 a4 v : Value} {Q1 : AH → Prop} (S : SpQ d' M' [.ref q, a1, a2, a3, a4] h (some v) Q1) (hdd : d' + 1 ≤ d) (mr : MRv M' 4) (lk : LKm M.1.cls idx M'.1) (hq : h[q]? = some (.inr (ci, fs))) (hvc : vwCl[ci]? = some vc) (hcc : vc.1 = M'.1.cls) (hd : decode M.2.1 pc = .ok (.invokevirtual idx, 3)) (hw : (st.map fun v => v.category).sum ≤ 8) (k : ∀ h1 : AH, h1.length = h.length → Q1 h1 → RunQ X d M (pc + 3) lv (v :: st) h1 rv Q) : RunQ X d M (pc) lv (a4 :: a3 :: a2 :: a1 :: .ref q :: st) h rv Q := r_callV [a1, a2, a3, a4] S hdd mr lk hq hvc hcc hd hw k

theorem r_v4nq {X : SX} {d : Nat} {M : Mt} {pc : Nat} {lv : List (Option Value)} {st : List Value} {h : AH} {rv : Option Value} {Q : AH → Prop} {d' idx q ci : Nat} {M' : Mt} {vc : vw_C} {fs : List Value} {a1 a2 a3 a4 : Value} {Q1 : AH → Prop} (S : SpQ d' M' [.ref q, a1, a2, a3, a4] h none Q1) (hdd : d' + 1 ≤ d) (mr : MRv M' 4) (lk : LKm M.1.cls idx M'.1) (hq : h[q]? = some (.inr (ci, fs))) (hvc : vwCl[ci]? = some vc) (hcc : vc.1 = M'.1.cls) (hd : decode M.2.1 pc = .ok (.invokevirtual idx, 3)) (hw : (st.map fun v => v.category).sum ≤ 8) (k : ∀ h1 : AH, h1.length = h.length → Q1 h1 → RunQ X d M (pc + 3) lv (st) h1 rv Q) : RunQ X d M (pc) lv (a4 :: a3 :: a2 :: a1 :: .ref q :: st) h rv Q := r_callV [a1, a2, a3, a4] S hdd mr lk hq hvc hcc hd hw k

theorem r_v5rq {X : SX} {d : Nat} {M : Mt} {pc : Nat} {lv : List (Option Value)} {st : List Value} {h : AH} {rv : Option Value} {Q : AH → Prop} {d' idx q ci : Nat} {M' : Mt} {vc : vw_C} {fs : List Value} {a1 a2 a3 a4 a5 v : Value} {Q1 : AH → Prop} (S : SpQ d' M' [.ref q, a1, a2, a3, a4, a5] h (some v) Q1) (hdd : d' + 1 ≤ d) (mr : MRv M' 5) (lk : LKm M.1.cls idx M'.1) (hq : h[q]? = some (.inr (ci, fs))) (hvc : vwCl[ci]? = some vc) (hcc : vc.1 = M'.1.cls) (hd : decode M.2.1 pc = .ok (.invokevirtual idx, 3)) (hw : (st.map fun v => v.category).sum ≤ 8) (k : ∀ h1 : AH, h1.length = h.length → Q1 h1 → RunQ X d M (pc + 3) lv (v :: st) h1 rv Q) : RunQ X d M (pc) lv (a5 :: a4 :: a3 :: a2 :: a1 :: .ref q :: st) h rv Q := r_callV [a1, a2, a3, a4, a5] S hdd mr lk hq hvc hcc hd hw k

theorem r_v5nq {X : SX} {d : Nat} {M : Mt} {pc : Nat} {lv : List (Option Value)} {st : List Value} {h : AH} {rv : Option Value} {Q : AH → Prop} {d' idx q ci : Nat} {M' : Mt} {vc : vw_C} {fs : List Value} {a1 a2 a3 a4 a5 : Value} {Q1 : AH → Prop} (S : SpQ d' M' [.ref q, a1, a2, a3, a4, a5] h none Q1) (hdd : d' + 1 ≤ d) (mr : MRv M' 5) (lk : LKm M.1.cls idx M'.1) (hq : h[q]? = some (.inr (ci, fs))) (hvc : vwCl[ci]? = some vc) (hcc : vc.1 = M'.1.cls) (hd : decode M.2.1 pc = .ok (.invokevirtual idx, 3)) (hw : (st.map fun v => v.category).sum ≤ 8) (k : ∀ h1 : AH, h1.length = h.length → Q1 h1 → RunQ X d M (pc + 3) lv (st) h1 rv Q) : RunQ X d M (pc) lv (a5 :: a4 :: a3 :: a2 :: a1 :: .ref q :: st) h rv Q := r_callV [a1, a2, a3, a4, a5] S hdd mr lk hq hvc hcc hd hw k
