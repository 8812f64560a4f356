/-! A contract out of a walk, and a contract in a larger heap -/
def ents : List Value → List (Option Value)
  | [] => []
  | .long x :: t => some (.long x) :: none :: ents t
  | .double x :: t => some (.double x) :: none :: ents t
  | v :: t => some v :: ents t
theorem ents_mem (ad : Nat → Nat) : ∀ (as : List Value) (j i : Nat) (v : Value), (ents as)[i]? = some (some v) → (j + i, cv ad v) ∈ lv_args j (as.map (cv ad)) := by
  intro as
  induction as with
  | nil => intro j i v h; simp [ents] at h
  | cons a t ih =>
    intro j i v h
    rw [List.map_cons, lv_args]
    have two : ∀ (hc : a.category = 2) (he : ents (a :: t) = some a :: none :: ents t), (j + i, cv ad v) ∈ (j, cv ad a) :: lv_args (if (cv ad a).category = 2 then j + 2 else j + 1) (t.map (cv ad)) := by
      intro hc he
      rw [he] at h
      rw [cv_cat, if_pos hc]
      match i, h with
      | 0, h => cases h; exact List.mem_cons_self
      | 1, h => cases h
      | i + 2, h =>
        have := ih (j + 2) i v h
        rw [show j + (i + 2) = j + 2 + i by omega]
        exact List.mem_cons_of_mem _ this
    have one : ∀ (hc : ¬ a.category = 2) (he : ents (a :: t) = some a :: ents t), (j + i, cv ad v) ∈ (j, cv ad a) :: lv_args (if (cv ad a).category = 2 then j + 2 else j + 1) (t.map (cv ad)) := by
      intro hc he
      rw [he] at h
      rw [cv_cat, if_neg hc]
      match i, h with
      | 0, h => cases h; exact List.mem_cons_self
      | i + 1, h =>
        have := ih (j + 1) i v h
        rw [show j + (i + 1) = j + 1 + i by omega]
        exact List.mem_cons_of_mem _ this
    cases a with
    | long x => exact two rfl rfl
    | double x => exact two rfl rfl
    | int x => exact one (fun z => absurd z (by simp [Value.category])) rfl
    | float x => exact one (fun z => absurd z (by simp [Value.category])) rfl
    | ref x => exact one (fun z => absurd z (by simp [Value.category])) rfl
    | null => exact one (fun z => absurd z (by simp [Value.category])) rfl
    | _ => exact one (fun z => absurd z (by simp [Value.category])) rfl
theorem ents_len (ad : Nat → Nat) : ∀ as : List Value, (lg_sl (as.map (cv ad))).length = (ents as).length := by
  intro as
  induction as with
  | nil => rfl
  | cons a t ih => cases a <;> simp [lg_sl, cv, Value.category, ents] at ih ⊢ <;> omega
theorem SpQ.of {d : Nat} {M : Mt} {as : List Value} {h : AH} {rv : Option Value} {Q : AH → Prop} (lv : List (Option Value)) {n : Nat} (mr : MRb M n) (hlen : ∀ h', Q h' → h'.length = h.length) (hsz : (ents as).length ≤ M.2.2.1) (hlv : ents as ++ List.replicate (M.2.2.1 - (ents as).length) none = lv) (k : ∀ X, RunQ X d M 0 lv [] h rv Q) : SpQ d M as h rv Q := by
  intro X l D cs ad sz
  refine va_MetF (cc := M.2.1) (maxL := M.2.2.1) (ret := M.2.2.2) mr.2.2.2.2 rfl ?_
  intro p e s m args below meth c s₁ B hml hv
  obtain ⟨rfl, hz, hP, hK, hD0, hN, hE⟩ := hv
  subst hz
  have hts := atoms_spec (ws := Cond.code M.1 M.2.1 M.2.2.1 M.2.2.2 :: gT) B.pre
  have hown : s.vm.findClass M.1.cls = some m.cls := findClass_of_methodNamed B.named
  have hr := B.returns
  have hlocks := B.notSynchronized
  rw [lg_entry_eq]
  refine k X p l e _ s m _ below meth c 0 0 _ ad D cs (va_A (wc cs ad h) s.heap.size) s.heap [] _ ⟨B.exec, B.bytes, hml, hown, fun w hw => hts w (List.mem_cons_of_mem _ hw), hN, ⟨Nat.le_refl _, Nat.le_refl _⟩, ⟨Nat.le_refl _, Nat.le_refl _⟩, hK, hE, fun q hq => Or.inr hq, ?_⟩ ⟨hP, hD0.self, va_S.rf⟩ ?_
  · intro H locs pc ls ins h9 hQ9 hP2 hD2 hS2 hret hdec
    have hq : ∀ (r : Option Value), r = rv.map (cv ad) → ∀ t : State, t.heap = H → s.WarmedH t.vm → PQ D cs ad h s.heap.size rv Q ((as.map (cv ad)).toArray) s (.returned r) t := fun r er t ht _ => ⟨by rw [er], ⟨h9, hQ9, by rw [ht]; exact hP2, hlen h9 hQ9⟩, hS2.F ht⟩
    rcases hret with ⟨rfl, v, ty, rfl, hty, hn⟩ | ⟨rfl, v, rfl, hty⟩ | ⟨rfl, rfl, hty⟩ | ⟨rfl, a, nm, rfl, hty⟩
    · exact W.zret B.exec B.bytes (hr.trans hty) hn (hq _ rfl) hS2.2.2 hdec
    · exact W.lret B.exec B.bytes (hr.trans hty) (hq _ rfl) hS2.2.2 hdec
    · exact W.vret B.exec B.bytes (hr.trans hty) (hq _ rfl) hS2.2.2 hdec
    · exact W.aret B.exec B.bytes (hr.trans hty) (Or.inl ⟨nm, rfl⟩) (Or.inr ⟨_, rfl⟩) (hq _ rfl) hS2.2.2 hdec
  · have he := lv_entry (as.map (cv ad)) (n := M.2.2.1) (by rw [ents_len]; exact hsz)
    refine ⟨he.1, he.2.1, fun i v hi => ?_⟩
    rw [← hlv] at hi
    have hi2 : (ents as)[i]? = some (some v) := by
      rcases Nat.lt_or_ge i (ents as).length with q | q
      · rwa [List.getElem?_append_left q] at hi
      · rw [List.getElem?_append_right q, List.getElem?_replicate] at hi
        split at hi <;> cases hi
    have := ents_mem ad as 0 i v hi2
    rw [Nat.zero_add] at this
    exact he.2.2 _ this
theorem Sp.of {d : Nat} {M : Mt} {as : List Value} {h : AH} {rv : Option Value} {h2 : AH} (lv : List (Option Value)) {n : Nat} (mr : MRb M n) (hlen : h2.length = h.length) (hsz : (ents as).length ≤ M.2.2.1) (hlv : ents as ++ List.replicate (M.2.2.1 - (ents as).length) none = lv) (k : ∀ X, Run X d M 0 lv [] h rv h2) : Sp d M as h rv h2 := SpQ.of lv mr (fun h' q => q.len.symm.trans hlen) hsz hlv k
/-! the frame: a method that needs few cells, in a heap of more -/
def rh (is : List Nat) (k : Nat) : Nat := match is[k]? with
  | some j => j
  | none => k
def rE (ρ : Nat → Nat) : AE → AE
  | .inl (τ, a) => .inl (τ, cA ρ a)
  | .inr (ci, fs) => .inr (ci, fs.map (cv ρ))
theorem cv_comp (ad ρ : Nat → Nat) (v : Value) : cv (fun k => ad (ρ k)) v = cv ad (cv ρ v) := by cases v <;> rfl
theorem cE_comp (cs : Nat → ClassId) (ad ρ : Nat → Nat) (e : AE) : cE cs (fun k => ad (ρ k)) e = cE cs ad (rE ρ e) := by
  rcases e with ⟨τ, n, f | f | f | f | f⟩ | ⟨ci, fs⟩
  · rfl
  · rfl
  · rfl
  · rfl
  · show Sum.inl (cs τ, n, Sum.inr (Sum.inr (Sum.inr (Sum.inr _)))) = Sum.inl (cs τ, n, Sum.inr (Sum.inr (Sum.inr (Sum.inr _))))
    congr 7
    funext i
    show Option.map (fun k => ad (ρ k)) (f i) = Option.map ad (Option.map ρ (f i))
    cases f i <;> rfl
  · show Sum.inr (ci, _) = Sum.inr (ci, (fs.map (cv ρ)).map (cv ad))
    rw [List.map_map]
    congr 2
    apply List.map_congr_left
    intro v _
    exact cv_comp ad ρ v
/-- the cells of a part, put back at their places -/
def putL (ρ : Nat → Nat) : AH → List Nat → AH → AH
  | h, k :: is, e :: es => putL ρ (h.set k (rE ρ e)) is es
  | h, _, _ => h
theorem putL_len (ρ : Nat → Nat) : ∀ (is : List Nat) (h es : AH), (putL ρ h is es).length = h.length
  | [], h, [] => rfl
  | [], h, _ :: _ => rfl
  | _ :: _, h, [] => rfl
  | k :: is, h, e :: es => by rw [putL, putL_len, List.length_set]
theorem putL_out (ρ : Nat → Nat) : ∀ (is : List Nat) (h es : AH) (k : Nat), k ∉ is → (putL ρ h is es)[k]? = h[k]?
  | [], h, [], k, _ => rfl
  | [], h, _ :: _, k, _ => rfl
  | _ :: _, h, [], k, _ => rfl
  | j :: is, h, e :: es, k, hk => by
    rw [putL, putL_out ρ is _ es k (fun z => hk (List.mem_cons_of_mem _ z)), List.getElem?_set_ne (fun z => hk (by rw [← z]; exact List.mem_cons_self))]
theorem putL_in (ρ : Nat → Nat) : ∀ (is : List Nat) (h es : AH) (j k : Nat) (e : AE), va_nd is = true → is[j]? = some k → es[j]? = some e → k < h.length → (putL ρ h is es)[k]? = some (rE ρ e)
  | [], h, es, j, k, e, _, hj, _, _ => by simp at hj
  | _ :: _, h, [], j, k, e, _, _, he, _ => by simp at he
  | i :: is, h, x :: es, 0, k, e, hn, hj, he, hl => by
    cases hj
    cases he
    simp only [va_nd, Bool.and_eq_true, decide_eq_true_eq] at hn
    rw [putL, putL_out ρ is _ es _ hn.1, List.getElem?_set_self hl]
  | i :: is, h, x :: es, j + 1, k, e, hn, hj, he, hl => by
    simp only [va_nd, Bool.and_eq_true, decide_eq_true_eq] at hn
    rw [putL]
    exact putL_in ρ is _ es j k e hn.2 hj he (by rw [List.length_set]; exact hl)
/-- a contract over a part of the heap (its cell j is the heap's cell is[j]) is one over the heap -/
theorem SpQ.frame {d : Nat} {M : Mt} {asL as : List Value} {hL h : AH} {rvL rv : Option Value} {QL Q : AH → Prop} (S : SpQ d M asL hL rvL QL) (is : List Nat) (hn : va_nd is = true) (hsm : is.length ≤ 1000) (hsub : is.map (fun i => h[i]?) = hL.map (fun e => some (rE (rh is) e))) (has : asL.map (cv (rh is)) = as) (hrv : rvL.map (cv (rh is)) = rv) (hQ : ∀ hL2 : AH, hL2.length = hL.length → QL hL2 → Q (putL (rh is) h is hL2)) : SpQ d M as h rv Q := by
  intro X l D cs ad sz
  subst has
  subst hrv
  have hlenI : is.length = hL.length := by
    have := congrArg List.length hsub
    rwa [List.length_map, List.length_map] at this
  have hae : (fun k => ad (rh is (1000 + k))) = (fun k => ad (1000 + k)) := by
    funext k
    unfold rh
    rw [List.getElem?_eq_none (by omega)]
  have hat : ∀ (j : Nat) (e : AE), hL[j]? = some e → ∃ i, is[j]? = some i ∧ h[i]? = some (rE (rh is) e) := by
    intro j e hj
    have h1 : (is.map (fun i => h[i]?))[j]? = some (some (rE (rh is) e)) := by rw [hsub, List.getElem?_map, hj]; rfl
    rw [List.getElem?_map] at h1
    cases h3 : is[j]? with
    | none => rw [h3] at h1; cases h1
    | some i => rw [h3] at h1; exact ⟨i, rfl, Option.some.inj h1⟩
  have hrhA : ∀ (j i : Nat), is[j]? = some i → rh is j = i := fun j i hj => by unfold rh; rw [hj]
  have hMet := S X l D cs (fun k => ad (rh is k)) sz
  have hargs : asL.map (cv (fun k => ad (rh is k))) = (asL.map (cv (rh is))).map (cv ad) := by
    rw [List.map_map]
    apply List.map_congr_left
    intro v _
    exact cv_comp ad (rh is) v
  have hsubset : ∀ (U : State), va_P D vwCl (wc cs ad h) U.heap → va_P D vwCl (wc cs (fun k => ad (rh is k)) hL) U.heap := by
    intro U hP k q hq
    rw [wc_get] at hq
    cases h3 : hL[k]? with
    | none => rw [h3] at hq; cases hq
    | some e =>
      rw [h3] at hq
      cases hq
      obtain ⟨i, h4, h5⟩ := hat k e h3
      dsimp only
      rw [hrhA k i h4, cE_comp]
      exact hP i _ (wc_at h5)
  have hfree : ∀ q, va_A (wc cs (fun k => ad (rh is k)) hL) sz q → va_A (wc cs ad h) sz q := by
    intro q hq
    rcases hq with ⟨k, e, hk⟩ | hq
    · rw [wc_get] at hk
      cases h3 : hL[k]? with
      | none => rw [h3] at hk; cases hk
      | some e0 =>
        rw [h3] at hk
        cases hk
        obtain ⟨i, h4, h5⟩ := hat k e0 h3
        refine Or.inl ⟨i, cE cs ad (rE (rh is) e0), ?_⟩
        rw [hrhA k i h4]
        exact wc_at h5
    · exact Or.inr hq
  have hnL : va_D (fun _ => True) (wc cs ad h) → va_D (fun _ => True) (wc cs (fun k => ad (rh is k)) hL) := by
    intro hD
    refine ⟨fun i j x y hi hj hxy => ?_, fun _ _ _ => trivial⟩
    rw [wc_get] at hi hj
    cases h3 : hL[i]? with
    | none => rw [h3] at hi; cases hi
    | some e1 =>
      cases h4 : hL[j]? with
      | none => rw [h4] at hj; cases hj
      | some e2 =>
        rw [h3] at hi
        rw [h4] at hj
        cases hi
        cases hj
        obtain ⟨a, h5, h6⟩ := hat i e1 h3
        obtain ⟨b, h7, h8⟩ := hat j e2 h4
        dsimp only at hxy
        rw [hrhA i a h5, hrhA j b h7] at hxy
        have hab := hD.1 a b _ _ (wc_at h6) (wc_at h8) hxy
        subst hab
        exact va_nd_inj is hn i j a h5 h7
  intro p e ha hc hk s m args below hf happ hP hKK
  obtain ⟨ea, q1, q2, q3, q4, q5, q6⟩ := hP
  obtain ⟨n, o, g1, g2, g3, ⟨r1, ⟨hL2, r0, r2, r3⟩, r4⟩, L, r5, r6⟩ := hMet p e ha hc hk s m args below hf happ ⟨by rw [ea, hargs], q1, hsubset s q2, q3, hnL q4, q5, by
    rw [hae]
    obtain ⟨e1, e2, e3, e4, e5, e6, e7⟩ := q6
    exact ⟨e1.narrow hfree, e2.narrow hfree, e3.narrow hfree, e4.narrow hfree, e5.narrow hfree, e6, e7.narrow hfree⟩⟩ hKK
  refine ⟨n, o, g1, g2, g3, ⟨?_, ⟨putL (rh is) h is hL2, hQ hL2 r3 r0, ?_, putL_len _ _ _ _⟩, ?_, ?_⟩, L, r5, fun q hq => hfree _ (r6 q hq)⟩
  · rw [r1]
    cases rvL with
    | none => rfl
    | some v => exact congrArg (fun z => Outcome.returned (some z)) (cv_comp ad (rh is) v)
  · intro k q hq
    rw [wc_get] at hq
    cases h3 : (putL (rh is) h is hL2)[k]? with
    | none => rw [h3] at hq; cases hq
    | some e2 =>
      rw [h3] at hq
      cases hq
      have hkl : k < h.length := by
        have := (List.getElem?_eq_some_iff.mp h3).1
        rwa [putL_len] at this
      by_cases hki : k ∈ is
      · obtain ⟨j, hj⟩ := List.getElem?_of_mem hki
        have hjl : j < hL2.length := by rw [r3, ← hlenI]; exact (List.getElem?_eq_some_iff.mp hj).1
        have h5 : hL2[j]? = some hL2[j] := List.getElem?_eq_getElem hjl
        have h6 := putL_in (rh is) is h hL2 j k _ hn hj h5 hkl
        rw [h6] at h3
        cases h3
        have h7 := r2 j _ (wc_at h5)
        rw [hrhA j k hj, cE_comp] at h7
        exact h7
      · rw [putL_out (rh is) is h hL2 k hki] at h3
        have h7 := q2 k _ (wc_at h3)
        refine h7.kept (r4.2 _ h7.lt ?_)
        intro hA
        rcases hA with ⟨j, e9, hj⟩ | hA
        · rw [wc_get] at hj
          cases h8 : hL[j]? with
          | none => rw [h8] at hj; cases hj
          | some e0 =>
            rw [h8] at hj
            obtain ⟨i, h9, h10⟩ := hat j e0 h8
            have h11 : ad (rh is j) = ad k := congrArg Prod.fst (Option.some.inj hj)
            rw [hrhA j i h9] at h11
            have := q4.1 i k _ _ (wc_at h10) (wc_at h3) h11
            subst this
            exact hki (List.mem_of_getElem? h9)
        · have := h7.lt
          dsimp only at this hA
          omega
  · exact r4.1
  · intro q h1 h2
    exact r4.2 q h1 (fun z => h2 (hfree q z))
theorem CE.re {ρ : Nat → Nat} {e e' : AE} (h : CE e e') : CE (rE ρ e) (rE ρ e') := by
  intro cs ad D q H
  rw [← cE_comp, ← cE_comp]
  exact h cs (fun k => ad (ρ k)) D q H
theorem HE.set {k : Nat} {e e' : AE} (he : CE e e') : ∀ {h h' : AH} (_ : HE h h') (j : Nat), HE (h.set j e) (h'.set j e')
  | [], [], _, _ => trivial
  | _ :: _, _ :: _, hh, 0 => ⟨he, hh.2⟩
  | _ :: _, _ :: _, hh, j + 1 => ⟨hh.1, HE.set (k := k) he hh.2 j⟩
theorem HE.put {ρ : Nat → Nat} : ∀ (is : List Nat) {h h' es es' : AH}, HE h h' → HE es es' → HE (putL ρ h is es) (putL ρ h' is es')
  | [], h, h', [], [], hh, _ => hh
  | [], h, h', _ :: _, _ :: _, hh, _ => hh
  | _ :: _, h, h', [], [], hh, _ => hh
  | i :: is, h, h', e :: es, e' :: es', hh, he => HE.put is (HE.set (k := 0) (CE.re he.1) hh i) he.2
theorem Sp.frame {d : Nat} {M : Mt} {asL as : List Value} {hL h : AH} {rvL rv : Option Value} {hL2 h2 : AH} (S : Sp d M asL hL rvL hL2) (is : List Nat) (hn : va_nd is = true) (hsm : is.length ≤ 1000) (hsub : is.map (fun i => h[i]?) = hL.map (fun e => some (rE (rh is) e))) (has : asL.map (cv (rh is)) = as) (hrv : rvL.map (cv (rh is)) = rv) (h2e : putL (rh is) h is hL2 = h2) : Sp d M as h rv h2 :=
  SpQ.frame S is hn hsm hsub has hrv (fun hL3 _ q => by rw [← h2e]; exact HE.put is HE.rf q)
theorem SpQ.mono {d : Nat} {M : Mt} {as : List Value} {h : AH} {rv : Option Value} {Q Q' : AH → Prop} (S : SpQ d M as h rv Q) (hQ : ∀ h', Q h' → Q' h') : SpQ d M as h rv Q' := by
  intro X l D cs ad sz p e ha hc hk s m args below hf happ hP hKK
  obtain ⟨n, o, g1, g2, g3, ⟨r1, ⟨h9, r0, r2, r3⟩, r4⟩, L⟩ := S X l D cs ad sz p e ha hc hk s m args below hf happ hP hKK
  exact ⟨n, o, g1, g2, g3, ⟨r1, ⟨h9, hQ h9 r0, r2, r3⟩, r4⟩, L⟩
