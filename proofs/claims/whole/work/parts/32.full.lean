/-! a method on the first cells of a heap -/
theorem rh_range (n : Nat) : rh (List.range n) = id := by
  funext k
  simp only [rh]
  by_cases h : k < n
  · rw [List.getElem?_range h]; rfl
  · rw [List.getElem?_eq_none (by rw [List.length_range]; omega)]; rfl
theorem cv_id (v : Value) : cv id v = v := by cases v <;> rfl
theorem cv_idL (l : List Value) : l.map (cv id) = l := by
  rw [show cv id = id from funext cv_id, List.map_id]
theorem rE_id (e : AE) : rE id e = e := by
  rcases e with ⟨τ, n, a⟩ | ⟨ci, fs⟩
  · rcases a with f | f | f | f | f
    · rfl
    · rfl
    · rfl
    · rfl
    · show Sum.inl (τ, n, Sum.inr (Sum.inr (Sum.inr (Sum.inr (fun i => (f i).map id))))) = _
      simp only [Option.map_id, id]
  · show Sum.inr (ci, fs.map (cv id)) = _
    rw [cv_idL]
theorem putL_pre (h2 : AH) : ∀ (a b pre : AH), b.length = a.length → putL id (pre ++ (a ++ h2)) (List.range' pre.length a.length) b = pre ++ (b ++ h2)
  | [], [], pre, _ => rfl
  | e :: a, e' :: b, pre, h => by
    have e1 : (pre ++ (e :: a ++ h2)).set pre.length (rE id e') = (pre ++ [e']) ++ (a ++ h2) := by
      rw [rE_id, List.set_append_right _ _ (Nat.le_refl _), Nat.sub_self]
      simp
    have ih := putL_pre h2 a b (pre ++ [e']) (by simpa using h)
    rw [List.length_append] at ih
    rw [List.length_cons, List.range'_succ, putL, e1]
    rw [show pre.length + [e'].length = pre.length + 1 from rfl] at ih
    rw [ih]
    simp
theorem SpQ.pre {d : Nat} {M : Mt} {as : List Value} {hL h2 : AH} {rv : Option Value} {QL Q : AH → Prop} (S : SpQ d M as hL rv QL) (hn : va_nd (List.range hL.length) = true) (hsm : hL.length ≤ 1000) (hQ : ∀ hL2 : AH, hL2.length = hL.length → QL hL2 → Q (hL2 ++ h2)) : SpQ d M as (hL ++ h2) rv Q := by
  refine SpQ.frame S (List.range hL.length) hn (by rw [List.length_range]; exact hsm) ?_ (by rw [rh_range, cv_idL]) (by rw [rh_range]; cases rv with | none => rfl | some v => exact congrArg some (cv_id v)) (fun hL2 hl q => ?_)
  · rw [rh_range]
    apply List.ext_getElem?
    intro i
    rw [List.getElem?_map, List.getElem?_map]
    by_cases h : i < hL.length
    · rw [List.getElem?_range h, List.getElem?_eq_getElem h]
      show some ((hL ++ h2)[i]?) = some (some (rE id hL[i]))
      rw [List.getElem?_append_left h, List.getElem?_eq_getElem h, rE_id]
    · rw [List.getElem?_eq_none (by rw [List.length_range]; omega), List.getElem?_eq_none (by omega)]
      rfl
  · rw [rh_range]
    have e := putL_pre h2 hL hL2 [] hl
    rw [List.nil_append, List.nil_append] at e
    rw [List.range_eq_range', show (0 : Nat) = ([] : AH).length from rfl, e]
    exact hQ hL2 hl q
theorem HE.app : ∀ {a b c : AH}, HE a b → HE (a ++ c) (b ++ c)
  | [], [], _, _ => HE.rf
  | _ :: _, _ :: _, _, h => ⟨h.1, HE.app h.2⟩
theorem Sp.pre {d : Nat} {M : Mt} {as : List Value} {hL h2 hL2 : AH} {rv : Option Value} (S : Sp d M as hL rv hL2) (hn : va_nd (List.range hL.length) = true) (hsm : hL.length ≤ 1000) : Sp d M as (hL ++ h2) rv (hL2 ++ h2) :=
  SpQ.pre S hn hsm (fun _ _ q => q.app)
/-! the whole of the class: core, tape, reader, sheets; feed, wipe, night, count -/
abbrev TP : Type := Nat × (Nat → Nat)
abbrev SHT : Type := Int32 × Int32 × (Nat → Int64)
abbrev GS : Type := CS × TP × (Nat → SHT)
abbrev zO (Z : SHT) (q : Nat) : AE := .inr (2, [.int Z.1, .int Z.2.1, .ref q])
abbrev zN (Z : SHT) : AE := .inl (1, 40, .inr (.inl Z.2.2))
abbrev hN (R K : RS) (kp : Bool) (tc : Nat → Int32) (n : Nat) (T : Nat → Nat) (A : RS) (f1 f2 f3 : Int32) (tok : Int32) (s b : Nat) (nu : Int32) : AH := hC R A K f1 f2 f3 kp tc ++ [.inr (3, [.ref 18, .int (nI n)]), .inl (2, 120, .inl (fun i => sg (T i))), .inr (0, [.ref 17, .int tok, .int (nI s), .int (nI b), .int nu])]
abbrev hZ (Z : Nat → SHT) : AH := [.inl (3, 4, .inr (.inr (.inr (.inr (fun i => some (21 + 2 * i)))))), zO (Z 0) 22, zN (Z 0), zO (Z 1) 24, zN (Z 1), zO (Z 2) 26, zN (Z 2), zO (Z 3) 28, zN (Z 3)]
abbrev hX (R K : RS) (kp : Bool) (tc : Nat → Int32) (n : Nat) (T : Nat → Nat) (Z : Nat → SHT) (A : RS) (f1 f2 f3 : Int32) (tok : Int32) (s b : Nat) (nu : Int32) : AH := hN R K kp tc n T A f1 f2 f3 tok s b nu ++ hZ Z
/-- the class stands so; the row ahead, the reader and what fell last are anything -/
def qX (L : GS) (h : AH) : Prop := ∃ (A : RS) (f1 f2 f3 tok : Int32) (s b : Nat) (nu : Int32), HE h (hX L.1.1 L.1.2.1 L.1.2.2.1 L.1.2.2.2 L.2.1.1 L.2.1.2 L.2.2 A f1 f2 f3 tok s b nu)
theorem qX_len {L : GS} {h' : AH} (q : qX L h') : h'.length = 29 := by
  obtain ⟨A, f1, f2, f3, tok, s, b, nu, q⟩ := q
  exact q.len.symm
/-- so without the sheets -/
def qT (L : GS) (h : AH) : Prop := ∃ (A : RS) (f1 f2 f3 tok : Int32) (s b : Nat) (nu : Int32), HE h (hN L.1.1 L.1.2.1 L.1.2.2.1 L.1.2.2.2 L.2.1.1 L.2.1.2 A f1 f2 f3 tok s b nu)
theorem qT_len {L : GS} {h' : AH} (q : qT L h') : h'.length = 20 := by
  obtain ⟨A, f1, f2, f3, tok, s, b, nu, q⟩ := q
  exact q.len.symm
theorem X_lift {R K : RS} {kp : Bool} {tc : Nat → Int32} {n : Nat} {T : Nat → Nat} {Z : Nat → SHT} {A : RS} {f1 f2 f3 tok : Int32} {s b : Nat} {nu : Int32} {M : Mt} {as : List Value} {x : Int32} {c : CS} (S : SpQ 11 M as (hC R A K f1 f2 f3 kp tc) (some (.int x)) (qC c)) : SpQ 11 M as (hX R K kp tc n T Z A f1 f2 f3 tok s b nu) (some (.int x)) (qX (c, (n, T), Z)) := by
  refine SpQ.mono (SpQ.pre (h2 := hZ Z) (SpQ.pre (h2 := [.inr (3, [.ref 18, .int (nI n)]), .inl (2, 120, .inl (fun i => sg (T i))), .inr (0, [.ref 17, .int tok, .int (nI s), .int (nI b), .int nu])]) S rfl (Nat.le_of_ble_eq_true rfl) (Q := qT (c, (n, T), Z)) (fun hL2 hl q => ?_)) rfl (Nat.le_of_ble_eq_true rfl) (Q := qX (c, (n, T), Z)) (fun hL2 hl q => ?_)) (fun _ z => z)
  · obtain ⟨A, f1, f2, f3, q⟩ := q
    exact ⟨A, f1, f2, f3, tok, s, b, nu, q.app⟩
  · obtain ⟨A, f1, f2, f3, tok, s, b, nu, q⟩ := q
    exact ⟨A, f1, f2, f3, tok, s, b, nu, q.app⟩
theorem X_liftT {R K : RS} {kp : Bool} {tc : Nat → Int32} {n : Nat} {T : Nat → Nat} {Z : Nat → SHT} {A : RS} {f1 f2 f3 tok : Int32} {s b : Nat} {nu : Int32} {M : Mt} {as : List Value} {x : Int32} {L : GS} (S : SpQ 11 M as (hN R K kp tc n T A f1 f2 f3 tok s b nu) (some (.int x)) (qT L)) (hz : L.2.2 = Z) : SpQ 11 M as (hX R K kp tc n T Z A f1 f2 f3 tok s b nu) (some (.int x)) (qX L) := by
  subst hz
  refine SpQ.pre (h2 := hZ L.2.2) S rfl (Nat.le_of_ble_eq_true rfl) (fun hL2 hl q => ?_)
  obtain ⟨A, f1, f2, f3, tok, s, b, nu, q⟩ := q
  exact ⟨A, f1, f2, f3, tok, s, b, nu, q.app⟩
def bndL (L : GS) (w : Nat) : Int32 × GS := (fI w, (L.1.1, L.1.2.1, L.1.2.2.1, upd L.1.2.2.2 w (L.1.2.2.2 w + nI 1)), L.2)
/-- the byte k of x -/
def byt (x : Int32) (k : Nat) : Nat := (x >>> (nI (8 * k) &&& 31)).toBitVec.toNat % 256
def updN (T : Nat → Nat) (i v : Nat) : Nat → Nat := fun j => if j = i then v else T j
def fdT (x : Int32) : Nat → TP → TP
  | 0, t => t
  | k + 1, t => fdT x k (t.1 + 1, updN t.2 t.1 (byt x k))
theorem fdT_1 (x : Int32) : ∀ (k : Nat) (t : TP), (fdT x k t).1 = t.1 + k
  | 0, t => rfl
  | k + 1, t => by rw [fdT, fdT_1 x k]; show t.1 + 1 + k = _; omega
def o_feed (L : GS) (x m : Int32) : Int32 × GS := match inR m (nI 1) (nI 4) with
  | false => bndL L 0
  | true => if 120 < L.2.1.1 + tn m then bndL L 1 else (nI (fdT x (tn m) L.2.1).1, L.1, fdT x (tn m) L.2.1, L.2.2)
def o_wipe (L : GS) : Int32 × GS := (nI L.2.1.1, L.1, (0, L.2.1.2), L.2.2)
def nRow (c : CS) (r : Option RS) : CS := match r with
  | some B => (B, c.2)
  | none => c
def o_night (L : GS) : Int32 × GS := ((nrun L.2.1.1 L.2.1.2 120 1 (sk L.2.1.1 L.2.1.2 0) L.1.1).1, nRow L.1 (nrun L.2.1.1 L.2.1.2 120 1 (sk L.2.1.1 L.2.1.2 0) L.1.1).2, (0, L.2.1.2), L.2.2)
def o_count (L : GS) (w : Int32) : Int32 × GS := if w = nI 0 then (nI (cnt L.1.1), L) else if w = nI 1 then (nI L.2.1.1, L) else if w = nI 2 then (bitCnt (rR L.1.1), L) else if w = nI 3 then (sumF (rN L.1.1) (cnt L.1.1), L) else bndL L 0
theorem i8_256 (y : Int32) : y.toInt8.toInt32 = sg (y.toBitVec.toNat % 256) := by
  have e : y.toInt8 = (nI (y.toBitVec.toNat % 256)).toInt8 := by
    apply Int8.toBitVec_inj.mp
    apply BitVec.eq_of_toNat_eq
    rw [Int32.toBitVec_toInt8, Int32.toBitVec_toInt8, BitVec.signExtend_eq_setWidth_of_le _ (by decide), BitVec.signExtend_eq_setWidth_of_le _ (by decide), BitVec.toNat_setWidth, BitVec.toNat_setWidth, pk_tn (by omega)]
    omega
  rw [e]
  rfl
theorem upd_sg (T : Nat → Nat) (i v : Nat) : upd (fun i => sg (T i)) i (sg v) = fun j => sg (updN T i v j) := by
  funext j
  simp only [upd, updN]
  split <;> rfl
theorem S_tadd {n v : Nat} {T : Nat → Nat} {x : Int32} (hn : n < 120) (hv : vp_nar .byte x = sg v) : Sp 0 mX3_add [.ref 0, .int x] [.inr (3, [.ref 1, .int (nI n)]), .inl (2, 120, .inl (fun i => sg (T i)))] none [.inr (3, [.ref 1, .int (nI (n + 1))]), .inl (2, 120, .inl (fun i => sg (updN T n v i)))] := by
  refine Sp.of [some (.ref 0), some (.int x)] mrX3_add.1 rfl (Nat.le_of_ble_eq_true rfl) rfl (fun X => ?_)
  refine r_aload_n dX3_add_0 rfl ?_
  refine r_getfield dX3_add_1 gfX3_15 rfl rfl ?_
  refine r_bipush (v := nI 120) dX3_add_4 (by decide) ?_
  refine r_icmp_ge 29 dX3_add_6 (by decide) (fun c6 => ?_) (fun c6 => ?_)
  · exact absurd c6 (nI_ge hn (by decide))
  · refine r_aload_n dX3_add_9 rfl ?_
    refine r_getfield dX3_add_10 gfX3_9 rfl rfl ?_
    refine r_aload_n dX3_add_13 rfl ?_
    refine r_getfield dX3_add_14 gfX3_15 rfl rfl ?_
    refine r_iload_n dX3_add_17 rfl ?_
    refine r_bastN (h' := [_, _]) dX3_add_18 rfl (by omega) (Nat.le_of_ble_eq_true rfl) rfl ?_
    rw [hv, upd_sg]
    refine r_aload_n dX3_add_19 rfl ?_
    refine r_dup dX3_add_20 rfl ?_
    refine r_getfield dX3_add_21 gfX3_15 rfl rfl ?_
    refine r_iconst (v := nI 1) dX3_add_24 (by decide) ?_
    refine r_iadd dX3_add_25 ?_
    rw [nI_add]
    refine r_putfield (fs' := [_, _]) (h' := [_, _]) dX3_add_26 pfX3_15 rfl (Nat.le_of_ble_eq_true rfl) (fun _ => rfl) rfl rfl rfl rfl ?_
    refine r_vret dX3_add_29 rfl ?_ ?_
    · rfl
    · exact HE.rf
theorem X_tell {R K : RS} {kp : Bool} {tc : Nat → Int32} {n : Nat} {T : Nat → Nat} {A : RS} {f1 f2 f3 tok : Int32} {s b : Nat} {nu : Int32} {fd : Int32} (w : Nat) (hw : w < 7) (hf : (-1000000001) - fd = nI w) : Sp 1 mX4_tell [.ref 0, .int fd] (hN R K kp tc n T A f1 f2 f3 tok s b nu) (some (.int fd)) (hN R K kp (upd tc w (tc w + nI 1)) n T A f1 f2 f3 tok s b nu) := (C_tell w hw hf).pre rfl (Nat.le_of_ble_eq_true rfl)
theorem T_feed {R K : RS} {kp : Bool} {tc : Nat → Int32} {n : Nat} {T : Nat → Nat} {Z : Nat → SHT} {A : RS} {f1 f2 f3 tok : Int32} {s b : Nat} {nu : Int32} {x m : Int32} (hn : n ≤ 120) : SpQ 11 mX4_feed [.ref 0, .int x, .int m] (hN R K kp tc n T A f1 f2 f3 tok s b nu) (some (.int (o_feed ((R, K, kp, tc), (n, T), Z) x m).1)) (qT (o_feed ((R, K, kp, tc), (n, T), Z) x m).2) := by
  refine SpQ.of [some (.ref 0), some (.int x), some (.int m), none] mrX4_feed.1 (fun _ q => qT_len q) (Nat.le_of_ble_eq_true rfl) rfl (fun X => ?_)
  have E : ∀ (m : Int32) (n : Nat) (T : Nat → Nat), RunQ X 11 mX4_feed 44 [some (.ref 0), some (.int x), some (.int m), some (.int (-1))] [] (hN R K kp tc n T A f1 f2 f3 tok s b nu) (some (.int (nI n))) (qT ((R, K, kp, tc), (n, T), Z)) := by
    intro m n T
    refine r_iload_n dX4_feed_44 rfl ?_
    refine r_if_lt 71 dX4_feed_45 (by decide) (fun c45 => ?_) (fun c45 => ?_)
    · refine r_aload_n dX4_feed_71 rfl ?_
      refine r_getfield dX4_feed_72 gfX4_25 rfl rfl ?_
      refine r_getfield dX4_feed_75 gfX4_161 rfl rfl ?_
      refine r_getfield dX4_feed_78 gfX4_165 rfl rfl ?_
      refine r_iret dX4_feed_81 rfl rfl ?_ ?_
      · rfl
      · exact ⟨A, f1, f2, f3, tok, s, b, nu, HE.rf⟩
    · exact absurd (by decide) c45
  have L : ∀ (m : Int32) (k n : Nat) (T : Nat → Nat), n + (k + 1) ≤ 120 → RunQ X 11 mX4_feed 44 [some (.ref 0), some (.int x), some (.int m), some (.int (nI k))] [] (hN R K kp tc n T A f1 f2 f3 tok s b nu) (some (.int (nI (fdT x (k + 1) (n, T)).1))) (qT ((R, K, kp, tc), fdT x (k + 1) (n, T), Z)) := by
    intro m k
    induction k with
    | zero =>
      intro n T hk
      refine r_iload_n dX4_feed_44 rfl ?_
      refine r_if_lt 71 dX4_feed_45 (by decide) (fun c45 => ?_) (fun c45 => ?_)
      · exact absurd c45 (nI_pos (by omega))
      · refine r_aload_n dX4_feed_48 rfl ?_
        refine r_getfield dX4_feed_49 gfX4_25 rfl rfl ?_
        refine r_getfield dX4_feed_52 gfX4_161 rfl rfl ?_
        refine r_iload_n dX4_feed_55 rfl ?_
        refine r_bipush (v := nI 8) dX4_feed_56 (by decide) ?_
        refine r_iload_n dX4_feed_58 rfl ?_
        refine r_imul dX4_feed_59 ?_
        rw [pk_mul]
        refine r_ishr dX4_feed_60 ?_
        refine r_i2b dX4_feed_61 ?_
        refine r_v1n ((S_tadd (v := byt x 0) (by omega) (by rw [pk_vb, i8_256]; rfl)).frame [17, 18] rfl (by decide) rfl rfl rfl rfl) (Nat.le_of_ble_eq_true rfl) mrX3_add lkX4_170 rfl rfl rfl dX4_feed_62 (Nat.le_of_ble_eq_true rfl) ?_
        refine r_iinc (lv' := [_, _, _, _]) dX4_feed_65 (by decide) rfl (show nI 0 + Int32.ofInt (-1) = -1 by decide) rfl ?_
        refine r_goto 44 dX4_feed_68 (by decide) ?_
        exact E m (n + 1) (updN T n (byt x 0))
    | succ k ih =>
      intro n T hk
      refine r_iload_n dX4_feed_44 rfl ?_
      refine r_if_lt 71 dX4_feed_45 (by decide) (fun c45 => ?_) (fun c45 => ?_)
      · exact absurd c45 (nI_pos (by omega))
      · refine r_aload_n dX4_feed_48 rfl ?_
        refine r_getfield dX4_feed_49 gfX4_25 rfl rfl ?_
        refine r_getfield dX4_feed_52 gfX4_161 rfl rfl ?_
        refine r_iload_n dX4_feed_55 rfl ?_
        refine r_bipush (v := nI 8) dX4_feed_56 (by decide) ?_
        refine r_iload_n dX4_feed_58 rfl ?_
        refine r_imul dX4_feed_59 ?_
        rw [pk_mul]
        refine r_ishr dX4_feed_60 ?_
        refine r_i2b dX4_feed_61 ?_
        refine r_v1n ((S_tadd (v := byt x (k + 1)) (by omega) (by rw [pk_vb, i8_256]; rfl)).frame [17, 18] rfl (by decide) rfl rfl rfl rfl) (Nat.le_of_ble_eq_true rfl) mrX3_add lkX4_170 rfl rfl rfl dX4_feed_62 (Nat.le_of_ble_eq_true rfl) ?_
        refine r_iinc (lv' := [_, _, _, _]) dX4_feed_65 (by decide) rfl (by first | exact dec1 _ | exact dec1_ _) rfl ?_
        refine r_goto 44 dX4_feed_68 (by decide) ?_
        exact ih (n + 1) (updN T n (byt x (k + 1))) (by omega)
  refine r_iload_n dX4_feed_0 rfl ?_
  refine r_iconst (v := nI 1) dX4_feed_1 (by decide) ?_
  refine r_iconst (v := nI 4) dX4_feed_2 (by decide) ?_
  refine r_s3r S_X4_within (Nat.le_of_ble_eq_true rfl) mrX4_within lkX4_41 dX4_feed_3 (Nat.le_of_ble_eq_true rfl) ?_
  refine r_if_neB 16 dX4_feed_6 (by decide) (fun c6 => ?_) (fun c6 => ?_)
  · obtain ⟨k, h1, h2, rfl⟩ := inR_of c6 (by decide) (by decide)
    have em : tn (nI k) = k := nI_clamp (by omega)
    refine r_aload_n dX4_feed_16 rfl ?_
    refine r_getfield dX4_feed_17 gfX4_25 rfl rfl ?_
    refine r_getfield dX4_feed_20 gfX4_161 rfl rfl ?_
    refine r_getfield dX4_feed_23 gfX4_165 rfl rfl ?_
    refine r_bipush (v := nI 120) dX4_feed_26 (by decide) ?_
    refine r_iload_n dX4_feed_28 rfl ?_
    refine r_isub dX4_feed_29 ?_
    rw [pk_sub (by omega)]
    refine r_icmp_le 40 dX4_feed_30 (by decide) (fun c30 => ?_) (fun c30 => ?_)
    · refine r_iload_n dX4_feed_40 rfl ?_
      refine r_iconst (v := nI 1) dX4_feed_41 (by decide) ?_
      refine r_isub dX4_feed_42 ?_
      rw [pk_sub (by omega)]
      refine r_istore_n (lv' := [_, _, _, _]) dX4_feed_43 (by decide) rfl ?_
      have hle := (nI_leI (by omega) (by omega)).mp c30
      rw [o_feed, c6]
      dsimp only
      rw [em, if_neg (by omega)]
      have e := L (nI k) (k - 1) n T (by omega)
      rw [show k - 1 + 1 = k by omega] at e
      exact e
    · refine r_aload_n dX4_feed_33 rfl ?_
      refine r_ldc kX4_87 dX4_feed_34 ?_
      refine r_v1r (X_tell 1 (by decide) (by decide)) (Nat.le_of_ble_eq_true rfl) mrX4_tell lkX4_46 rfl rfl rfl dX4_feed_36 (Nat.le_of_ble_eq_true rfl) ?_
      refine r_iret dX4_feed_39 rfl rfl ?_ ?_
      · rw [o_feed, c6]
        dsimp only
        rw [em, if_pos (by have := show ¬ n ≤ 120 - k from fun z => c30 ((nI_leI (a := n) (b := 120 - k) (by omega) (by omega)).mpr z); omega)]; rfl
      · rw [o_feed, c6]
        dsimp only
        rw [em, if_pos (by have := show ¬ n ≤ 120 - k from fun z => c30 ((nI_leI (a := n) (b := 120 - k) (by omega) (by omega)).mpr z); omega)]
        exact ⟨A, f1, f2, f3, tok, s, b, nu, HE.rf⟩
  · refine r_aload_n dX4_feed_9 rfl ?_
    refine r_ldc kX4_45 dX4_feed_10 ?_
    refine r_v1r (X_tell 0 (by decide) (by decide)) (Nat.le_of_ble_eq_true rfl) mrX4_tell lkX4_46 rfl rfl rfl dX4_feed_12 (Nat.le_of_ble_eq_true rfl) ?_
    refine r_iret dX4_feed_15 rfl rfl ?_ ?_
    · rw [o_feed, c6]; rfl
    · rw [o_feed, c6]
      exact ⟨A, f1, f2, f3, tok, s, b, nu, HE.rf⟩
theorem T_wipe {R K : RS} {kp : Bool} {tc : Nat → Int32} {n : Nat} {T : Nat → Nat} {Z : Nat → SHT} {A : RS} {f1 f2 f3 tok : Int32} {s b : Nat} {nu : Int32} : SpQ 11 mX4_wipe [.ref 0] (hN R K kp tc n T A f1 f2 f3 tok s b nu) (some (.int (o_wipe ((R, K, kp, tc), (n, T), Z)).1)) (qT (o_wipe ((R, K, kp, tc), (n, T), Z)).2) := by
  refine SpQ.of [some (.ref 0), none] mrX4_wipe.1 (fun _ q => qT_len q) (Nat.le_of_ble_eq_true rfl) rfl (fun X => ?_)
  refine r_aload_n dX4_wipe_0 rfl ?_
  refine r_getfield dX4_wipe_1 gfX4_25 rfl rfl ?_
  refine r_getfield dX4_wipe_4 gfX4_161 rfl rfl ?_
  refine r_getfield dX4_wipe_7 gfX4_165 rfl rfl ?_
  refine r_istore_n (lv' := [_, _]) dX4_wipe_10 (by decide) rfl ?_
  refine r_aload_n dX4_wipe_11 rfl ?_
  refine r_getfield dX4_wipe_12 gfX4_25 rfl rfl ?_
  refine r_getfield dX4_wipe_15 gfX4_161 rfl rfl ?_
  refine r_iconst (v := nI 0) dX4_wipe_18 (by decide) ?_
  refine r_putfield (fs' := [_, _]) (h' := [_, _, _, _, _, _, _, _, _, _, _, _, _, _, _, _, _, _, _, _]) dX4_wipe_19 pfX4_165 rfl (Nat.le_of_ble_eq_true rfl) (fun _ => rfl) rfl rfl rfl rfl ?_
  refine r_iload_n dX4_wipe_22 rfl ?_
  refine r_iret dX4_wipe_23 rfl rfl ?_ ?_
  · rfl
  · exact ⟨A, f1, f2, f3, tok, s, b, nu, HE.rf⟩
theorem T_count {R K : RS} {kp : Bool} {tc : Nat → Int32} {n : Nat} {T : Nat → Nat} {Z : Nat → SHT} {A : RS} {f1 f2 f3 tok : Int32} {s b : Nat} {nu : Int32} {w : Int32} (hc : cnt R ≤ 8) : SpQ 11 mX4_count [.ref 0, .int w] (hN R K kp tc n T A f1 f2 f3 tok s b nu) (some (.int (o_count ((R, K, kp, tc), (n, T), Z) w).1)) (qT (o_count ((R, K, kp, tc), (n, T), Z) w).2) := by
  refine SpQ.of [some (.ref 0), some (.int w)] mrX4_count.1 (fun _ q => qT_len q) (Nat.le_of_ble_eq_true rfl) rfl (fun X => ?_)
  refine r_iload_n dX4_count_0 rfl ?_
  refine r_tsw 70 dX4_count_1 (by decide) (fun v1 h1 g1 e1 => ?_) (fun e1 => ?_)
  · rcases (show v1 = 0 ∨ v1 = 1 ∨ v1 = 2 ∨ v1 = 3 by omega) with rfl | rfl | rfl | rfl
    · refine ⟨31, 32, by decide, by decide, ?_⟩
      have c1 := toI_eq 0 e1 (by decide)
      refine r_aload_n dX4_count_32 rfl ?_
      refine r_getfield dX4_count_33 gfX4_12 rfl rfl ?_
      refine r_getfield dX4_count_36 gfX4_92 rfl rfl ?_
      refine r_iret dX4_count_39 rfl rfl ?_ ?_
      · subst c1; rfl
      · subst c1
        exact ⟨A, f1, f2, f3, tok, s, b, nu, HE.rf⟩
    · refine ⟨39, 40, by decide, by decide, ?_⟩
      have c1 := toI_eq 1 e1 (by decide)
      refine r_aload_n dX4_count_40 rfl ?_
      refine r_getfield dX4_count_41 gfX4_25 rfl rfl ?_
      refine r_getfield dX4_count_44 gfX4_161 rfl rfl ?_
      refine r_getfield dX4_count_47 gfX4_165 rfl rfl ?_
      refine r_iret dX4_count_50 rfl rfl ?_ ?_
      · subst c1; rfl
      · subst c1
        exact ⟨A, f1, f2, f3, tok, s, b, nu, HE.rf⟩
    · refine ⟨50, 51, by decide, by decide, ?_⟩
      have c1 := toI_eq 2 e1 (by decide)
      refine r_aload_n dX4_count_51 rfl ?_
      refine r_getfield dX4_count_52 gfX4_12 rfl rfl ?_
      refine r_getfield dX4_count_55 gfX4_50 rfl rfl ?_
      refine r_s1r S_J6_bitCount_0f7a4 (Nat.le_of_ble_eq_true rfl) mrJ6_bitCount_0f7a4 lkX4_236 dX4_count_58 (Nat.le_of_ble_eq_true rfl) ?_
      refine r_iret dX4_count_61 rfl rfl ?_ ?_
      · subst c1; rfl
      · subst c1
        exact ⟨A, f1, f2, f3, tok, s, b, nu, HE.rf⟩
    · refine ⟨61, 62, by decide, by decide, ?_⟩
      have c1 := toI_eq 3 e1 (by decide)
      refine r_aload_n dX4_count_62 rfl ?_
      refine r_getfield dX4_count_63 gfX4_12 rfl rfl ?_
      refine r_v0r ((C_allNv (A := A) (K := K) (f1 := f1) (f2 := f2) (f3 := f3) (kp := kp) (tc := tc) hc).pre rfl (Nat.le_of_ble_eq_true rfl)) (Nat.le_of_ble_eq_true rfl) mrX1_allNerve lkX4_241 rfl rfl rfl dX4_count_66 (Nat.le_of_ble_eq_true rfl) ?_
      refine r_iret dX4_count_69 rfl rfl ?_ ?_
      · subst c1; rfl
      · subst c1
        exact ⟨A, f1, f2, f3, tok, s, b, nu, HE.rf⟩
  · have c1_0 := toI_ne 0 e1 (by decide)
    have c1_1 := toI_ne 1 e1 (by decide)
    have c1_2 := toI_ne 2 e1 (by decide)
    have c1_3 := toI_ne 3 e1 (by decide)
    refine r_aload_n dX4_count_70 rfl ?_
    refine r_ldc kX4_45 dX4_count_71 ?_
    refine r_v1r (X_tell 0 (by decide) (by decide)) (Nat.le_of_ble_eq_true rfl) mrX4_tell lkX4_46 rfl rfl rfl dX4_count_73 (Nat.le_of_ble_eq_true rfl) ?_
    refine r_iret dX4_count_76 rfl rfl ?_ ?_
    · rw [o_count, if_neg c1_0, if_neg c1_1, if_neg c1_2, if_neg c1_3]; rfl
    · rw [o_count, if_neg c1_0, if_neg c1_1, if_neg c1_2, if_neg c1_3]
      exact ⟨A, f1, f2, f3, tok, s, b, nu, HE.rf⟩
theorem X_lookAhead {R K : RS} {kp : Bool} {tc : Nat → Int32} {n : Nat} {T : Nat → Nat} {A : RS} {f1 f2 f3 tok : Int32} {s b : Nat} {nu : Int32} : Sp 1 mX4_lookAhead [.ref 0] (hN R K kp tc n T A f1 f2 f3 tok s b nu) none (hN R K kp tc n T R f1 f2 f3 tok s b nu) := C_lookAhead.pre rfl (Nat.le_of_ble_eq_true rfl)
theorem X_take16 {R K : RS} {kp : Bool} {tc : Nat → Int32} {n : Nat} {T : Nat → Nat} {A : RS} {f1 f2 f3 tok : Int32} {s b : Nat} {nu : Int32} : Sp 0 mX1_takeFrom [.ref 1, .ref 6] (hN R K kp tc n T A f1 f2 f3 tok s b nu) none (hN A K kp tc n T A f1 f2 f3 tok s b nu) := C_take16.pre rfl (Nat.le_of_ble_eq_true rfl)
/-- the text is read: the row ahead, and the reader, are anything -/
def qXN (L : GS) (r : Int32 × Option RS) (h : AH) : Prop := ∃ (A : RS) (f1 f2 f3 tok : Int32) (s b : Nat) (nu : Int32), HE h (hN L.1.1 L.1.2.1 L.1.2.2.1 L.1.2.2.2 L.2.1.1 L.2.1.2 A f1 f2 f3 tok s b nu) ∧ (∀ B, r.2 = some B → A = B ∧ 0 ≤ r.1) ∧ (r.2 = none → r.1 < 0)
theorem X_tellTo {R K : RS} {kp : Bool} {tc : Nat → Int32} {n : Nat} {T : Nat → Nat} {Z : Nat → SHT} {A : RS} {f1 f2 f3 tok : Int32} {s b : Nat} {nu : Int32} (hn : n ≤ 120) (hB : ∀ i, T i < 256) (hc : cnt A ≤ 8) : SpQ 9 mX0_tellTo [.ref 19, .ref 6] (hN R K kp tc n T A f1 f2 f3 tok s b nu) (some (.int (nrun n T 120 1 (sk n T 0) A).1)) (qXN ((R, K, kp, tc), (n, T), Z) (nrun n T 120 1 (sk n T 0) A)) := by
  refine SpQ.frame (I_tellTo (tok := tok) (s := s) (b := b) (nu := nu) (f := f2) hn hB hc) [19, 17, 18, 6, 7, 8, 9, 10] rfl (by decide) rfl rfl rfl (fun hL2 hl q => ?_)
  obtain ⟨tok, s, b, nu, A, f2, q, q2⟩ := q
  exact ⟨A, f1, f2, f3, tok, s, b, nu, HE.put [19, 17, 18, 6, 7, 8, 9, 10] HE.rf q, q2⟩
theorem T_night {R K : RS} {kp : Bool} {tc : Nat → Int32} {n : Nat} {T : Nat → Nat} {Z : Nat → SHT} {A : RS} {f1 f2 f3 tok : Int32} {s b : Nat} {nu : Int32} (hn : n ≤ 120) (hB : ∀ i, T i < 256) (hc : cnt R ≤ 8) : SpQ 11 mX4_night [.ref 0] (hN R K kp tc n T A f1 f2 f3 tok s b nu) (some (.int (o_night ((R, K, kp, tc), (n, T), Z)).1)) (qT (o_night ((R, K, kp, tc), (n, T), Z)).2) := by
  refine SpQ.of [some (.ref 0), none] mrX4_night.1 (fun _ q => qT_len q) (Nat.le_of_ble_eq_true rfl) rfl (fun X => ?_)
  refine r_aload_n dX4_night_0 rfl ?_
  refine r_v0n X_lookAhead (Nat.le_of_ble_eq_true rfl) mrX4_lookAhead lkX4_140 rfl rfl rfl dX4_night_1 (Nat.le_of_ble_eq_true rfl) ?_
  refine r_aload_n dX4_night_4 rfl ?_
  refine r_getfield dX4_night_5 gfX4_25 rfl rfl ?_
  refine r_aload_n dX4_night_8 rfl ?_
  refine r_getfield dX4_night_9 gfX4_16 rfl rfl ?_
  refine r_v1rq (X_tellTo (Z := Z) hn hB hc) (Nat.le_of_ble_eq_true rfl) mrX0_tellTo lkX4_173 rfl rfl rfl dX4_night_12 (Nat.le_of_ble_eq_true rfl) (fun h9 _ q9 => ?_)
  obtain ⟨A9, g1, g2, g3, t9, s9, b9, v9, q9, k1, k2⟩ := q9
  refine r_heq q9 ?_
  refine r_istore_n (lv' := [_, _]) dX4_night_15 (by decide) rfl ?_
  refine r_iload_n dX4_night_16 rfl ?_
  refine r_if_lt 31 dX4_night_17 (by decide) (fun c17 => ?_) (fun c17 => ?_)
  · refine r_aload_n dX4_night_31 rfl ?_
    refine r_getfield dX4_night_32 gfX4_25 rfl rfl ?_
    refine r_getfield dX4_night_35 gfX4_161 rfl rfl ?_
    refine r_iconst (v := nI 0) dX4_night_38 (by decide) ?_
    refine r_putfield (fs' := [_, _]) (h' := [_, _, _, _, _, _, _, _, _, _, _, _, _, _, _, _, _, _, _, _]) dX4_night_39 pfX4_165 rfl (Nat.le_of_ble_eq_true rfl) (fun _ => rfl) rfl rfl rfl rfl ?_
    refine r_iload_n dX4_night_42 rfl ?_
    refine r_iret dX4_night_43 rfl rfl ?_ ?_
    · rfl
    · first
      | (have e9 : (nrun n T 120 1 (sk n T 0) R).2 = none := by (cases e8 : (nrun n T 120 1 (sk n T 0) R).2 with | none => rfl | some B => exact absurd c17 (Int32.not_lt.mpr (k1 B e8).2))
         refine ⟨A9, g1, g2, g3, t9, s9, b9, v9, ?_⟩
         simp only [o_night, e9, nRow]
         exact HE.rf)
      | (cases e8 : (nrun n T 120 1 (sk n T 0) R).2 with
         | none => exact absurd (k2 e8) c17
         | some B =>
           obtain ⟨rfl, -⟩ := k1 B e8
           refine ⟨A9, g1, g2, g3, t9, s9, b9, v9, ?_⟩
           simp only [o_night, e8, nRow]
           exact HE.rf)
  · refine r_aload_n dX4_night_20 rfl ?_
    refine r_getfield dX4_night_21 gfX4_12 rfl rfl ?_
    refine r_aload_n dX4_night_24 rfl ?_
    refine r_getfield dX4_night_25 gfX4_16 rfl rfl ?_
    refine r_v1n X_take16 (Nat.le_of_ble_eq_true rfl) mrX1_takeFrom lkX4_177 rfl rfl rfl dX4_night_28 (Nat.le_of_ble_eq_true rfl) ?_
    refine r_aload_n dX4_night_31 rfl ?_
    refine r_getfield dX4_night_32 gfX4_25 rfl rfl ?_
    refine r_getfield dX4_night_35 gfX4_161 rfl rfl ?_
    refine r_iconst (v := nI 0) dX4_night_38 (by decide) ?_
    refine r_putfield (fs' := [_, _]) (h' := [_, _, _, _, _, _, _, _, _, _, _, _, _, _, _, _, _, _, _, _]) dX4_night_39 pfX4_165 rfl (Nat.le_of_ble_eq_true rfl) (fun _ => rfl) rfl rfl rfl rfl ?_
    refine r_iload_n dX4_night_42 rfl ?_
    refine r_iret dX4_night_43 rfl rfl ?_ ?_
    · rfl
    · first
      | (have e9 : (nrun n T 120 1 (sk n T 0) R).2 = none := by (cases e8 : (nrun n T 120 1 (sk n T 0) R).2 with | none => rfl | some B => exact absurd c17 (Int32.not_lt.mpr (k1 B e8).2))
         refine ⟨A9, g1, g2, g3, t9, s9, b9, v9, ?_⟩
         simp only [o_night, e9, nRow]
         exact HE.rf)
      | (cases e8 : (nrun n T 120 1 (sk n T 0) R).2 with
         | none => exact absurd (k2 e8) c17
         | some B =>
           obtain ⟨rfl, -⟩ := k1 B e8
           refine ⟨A9, g1, g2, g3, t9, s9, b9, v9, ?_⟩
           simp only [o_night, e8, nRow]
           exact HE.rf)

