/-! numbers, booleans; rows whose index is nI p -/
def bI (b : Bool) : Int32 := match b with
  | true => nI 1
  | false => nI 0
theorem bI_nar (b : Bool) : narrow .boolean (.int (bI b)) = .int (bI b) := by cases b <;> rfl
theorem bI_fit (b : Bool) : fits .boolean (.int (bI b)) = true := by cases b <;> rfl
theorem bI_0 {b : Bool} : bI b = 0 ↔ b = false := by cases b <;> decide
theorem bI_n0 {b : Bool} : ¬ bI b = 0 ↔ b = true := by cases b <;> decide
theorem inc1 (i : Nat) : nI i + Int32.ofInt 1 = nI (i + 1) := nI_1 i
theorem inc1_ (x : Int32) : x + Int32.ofInt 1 = x + nI 1 := rfl
theorem dec1 (i : Nat) : nI (i + 1) + Int32.ofInt (-1) = nI i := pk_m1 i
theorem dec1_ (x : Int32) : x + Int32.ofInt (-1) = x + (-1) := rfl
theorem incN (x : Int32) (n : Int) : x + Int32.ofInt n = x + Int32.ofInt n := rfl
theorem toI_eq {x : Int32} (v : Nat) (h : x.toInt = (v : Int)) (hv : v < 2 ^ 31) : x = nI v := Int32.toInt_inj.mp (by rw [h, nI_toInt hv])
theorem toI_ne {x : Int32} {lo hi : Int} (v : Nat) (h : x.toInt < lo ∨ hi < x.toInt) (hv : lo ≤ (v : Int) ∧ (v : Int) ≤ hi ∧ v < 2 ^ 31) : ¬ x = nI v := by
  rintro rfl
  rw [nI_toInt hv.2.2] at h
  omega
theorem toI_nq {x : Int32} {v : Nat} (h : ¬ x = nI v) (hv : v < 2 ^ 31) : ¬ (v : Int) = x.toInt := fun q => h (toI_eq v q.symm hv)
theorem lsw_d {df v : Int} : ∀ {ps : List (Int × Int)}, (∀ q ∈ ps, ¬ q.1 = v) → Op.lookupswitch.offset ps df v = df
  | [], _ => rfl
  | (a, o) :: r, h => by
    rw [Op.lookupswitch.offset, if_neg (h (a, o) List.mem_cons_self)]
    exact lsw_d (fun q hq => h q (List.mem_cons_of_mem _ hq))
theorem vp_in_N {p n : Nat} (hp : p < n) (hn : n < 2 ^ 31) : vp_in (nI p) n := vp_in_nI hp hn
theorem r_if_eqB {X : SX} {d : Nat} {M : Mt} {pc : Nat} {lv : List (Option Value)} {st : List Value} {h : AH} {rv : Option Value} {Q : AH → Prop} {b : Bool} {off : Int} (tgt : Nat) (hd : decode M.2.1 pc = .ok (.ifCond .eq off, 3)) (ht : (pc : Int) + off = (tgt : Int)) (kt : b = false → RunQ X d M tgt lv st h rv Q) (kf : b = true → RunQ X d M (pc + 3) lv st h rv Q) : RunQ X d M pc lv (.int (bI b) :: st) h rv Q := r_if_eq tgt hd ht (fun q => kt (bI_0.mp q)) (fun q => kf (bI_n0.mp q))
theorem r_if_neB {X : SX} {d : Nat} {M : Mt} {pc : Nat} {lv : List (Option Value)} {st : List Value} {h : AH} {rv : Option Value} {Q : AH → Prop} {b : Bool} {off : Int} (tgt : Nat) (hd : decode M.2.1 pc = .ok (.ifCond .ne off, 3)) (ht : (pc : Int) + off = (tgt : Int)) (kt : b = true → RunQ X d M tgt lv st h rv Q) (kf : b = false → RunQ X d M (pc + 3) lv st h rv Q) : RunQ X d M pc lv (.int (bI b) :: st) h rv Q := r_if_ne tgt hd ht (fun q => kt (bI_n0.mp q)) (fun q => kf (bI_0.mp q))
section N
variable {X : SX} {d : Nat} {M : Mt} {pc : Nat} {lv : List (Option Value)} {st : List Value} {h : AH} {rv : Option Value} {Q : AH → Prop}
theorem r_ialdN {q n p : Nat} {f : Nat → Int32} {x : Int32} (hd : decode M.2.1 pc = .ok (.iaload, 1)) (hq : h[q]? = some (.inl (0, n, .inl f))) (hp : p < n) (hn : n < 2 ^ 31) (hv : f p = x) (k : RunQ X d M (pc + 1) lv (.int x :: st) h rv Q) : RunQ X d M pc lv (.int (nI p) :: .ref q :: st) h rv Q := by
  refine r_iaload hd hq (vp_in_N hp hn) ?_
  rw [nI_clamp (Nat.lt_trans hp hn), hv]
  exact k
theorem r_baldN {q n p : Nat} {f : Nat → Int32} {x : Int32} (hd : decode M.2.1 pc = .ok (.baload, 1)) (hq : h[q]? = some (.inl (2, n, .inl f))) (hp : p < n) (hn : n < 2 ^ 31) (hv : f p = x) (k : RunQ X d M (pc + 1) lv (.int x :: st) h rv Q) : RunQ X d M pc lv (.int (nI p) :: .ref q :: st) h rv Q := by
  refine r_baload hd hq (vp_in_N hp hn) ?_
  rw [nI_clamp (Nat.lt_trans hp hn), hv]
  exact k
theorem r_laldN {q n p : Nat} {f : Nat → Int64} {x : Int64} (hd : decode M.2.1 pc = .ok (.laload, 1)) (hq : h[q]? = some (.inl (1, n, .inr (.inl f)))) (hp : p < n) (hn : n < 2 ^ 31) (hv : f p = x) (k : RunQ X d M (pc + 1) lv (.long x :: st) h rv Q) : RunQ X d M pc lv (.int (nI p) :: .ref q :: st) h rv Q := by
  refine r_laload hd hq (vp_in_N hp hn) ?_
  rw [nI_clamp (Nat.lt_trans hp hn), hv]
  exact k
theorem r_aaldN {q n p g : Nat} {f : Nat → Option Nat} (hd : decode M.2.1 pc = .ok (.aaload, 1)) (hq : h[q]? = some (.inl (3, n, .inr (.inr (.inr (.inr f)))))) (hp : p < n) (hn : n < 2 ^ 31) (hv : f p = some g) (k : RunQ X d M (pc + 1) lv (.ref g :: st) h rv Q) : RunQ X d M pc lv (.int (nI p) :: .ref q :: st) h rv Q :=
  r_aaload hd hq (vp_in_N hp hn) (by rw [nI_clamp (Nat.lt_trans hp hn)]; exact hv) k
theorem r_kaldN {p : Nat} (hd : decode M.2.1 pc = .ok (.iaload, 1)) (hp : p < 6) (k : RunQ X d M (pc + 1) lv (.int (kAbove p) :: st) h rv Q) : RunQ X d M pc lv (.int (nI p) :: .ref 1001 :: st) h rv Q := by
  refine r_kaload hd (vp_in_N hp (by decide)) ?_
  rw [nI_clamp (by omega)]
  exact k
theorem r_taldN {p : Nat} (hd : decode M.2.1 pc = .ok (.iaload, 1)) (hp : p < X.1 ∧ X.1 < 2 ^ 31) (k : RunQ X d M (pc + 1) lv (.int (X.2 p) :: st) h rv Q) : RunQ X d M pc lv (.int (nI p) :: .ref 1000 :: st) h rv Q := by
  refine r_taload hd (vp_in_N hp.1 hp.2) ?_
  rw [nI_clamp (by omega)]
  exact k
theorem r_iastN {q n p : Nat} {f : Nat → Int32} {x : Int32} {h' : AH} (hd : decode M.2.1 pc = .ok (.iastore, 1)) (hq : h[q]? = some (.inl (0, n, .inl f))) (hp : p < n) (hn : n < 2 ^ 31) (hh : h.set q (.inl (0, n, .inl (upd f p x))) = h') (k : RunQ X d M (pc + 1) lv st h' rv Q) : RunQ X d M pc lv (.int x :: .int (nI p) :: .ref q :: st) h rv Q :=
  r_iastore hd hq (vp_in_N hp hn) (by rw [nI_clamp (Nat.lt_trans hp hn)]; exact hh) k
theorem r_bastN {q n p : Nat} {f : Nat → Int32} {x : Int32} {h' : AH} (hd : decode M.2.1 pc = .ok (.bastore, 1)) (hq : h[q]? = some (.inl (2, n, .inl f))) (hp : p < n) (hn : n < 2 ^ 31) (hh : h.set q (.inl (2, n, .inl (upd f p (vp_nar .byte x)))) = h') (k : RunQ X d M (pc + 1) lv st h' rv Q) : RunQ X d M pc lv (.int x :: .int (nI p) :: .ref q :: st) h rv Q :=
  r_bastore hd hq (vp_in_N hp hn) (by rw [nI_clamp (Nat.lt_trans hp hn)]; exact hh) k
theorem r_lastN {q n p : Nat} {f : Nat → Int64} {x : Int64} {h' : AH} (hd : decode M.2.1 pc = .ok (.lastore, 1)) (hq : h[q]? = some (.inl (1, n, .inr (.inl f)))) (hp : p < n) (hn : n < 2 ^ 31) (hh : h.set q (.inl (1, n, .inr (.inl (vp_updL f p x)))) = h') (k : RunQ X d M (pc + 1) lv st h' rv Q) : RunQ X d M pc lv (.long x :: .int (nI p) :: .ref q :: st) h rv Q :=
  r_lastore hd hq (vp_in_N hp hn) (by rw [nI_clamp (Nat.lt_trans hp hn)]; exact hh) k
end N
/-- what a place held is no longer asked -/
theorem lvDrop {lv lv' : List (Option Value)} (j : Nat) (h : lv.set j none = lv') : ∀ (i : Nat) (v : Value), lv'[i]? = some (some v) → lv[i]? = some (some v) := by
  intro i v hi
  subst h
  rw [List.getElem?_set] at hi
  split at hi
  · split at hi <;> cases hi
  · exact hi
