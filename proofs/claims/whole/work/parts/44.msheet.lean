/-! the reference: its sheets, in rows of numbers; sheet, write -/
def bsF (Z : Nat → SHT) : Nat → Int32 := fun i => (Z i).1
def szF (Z : Nat → SHT) : Nat → Int32 := fun i => (Z i).2.1
def nmF (Z : Nat → SHT) : Nat → Int64 := fun k => (Z (k / 40)).2.2 (k % 40)
theorem bs_upd (Z : Nat → SHT) (i : Nat) (Y : SHT) : upd (bsF Z) i Y.1 = bsF (updZ Z i Y) := by
  funext j
  simp only [upd, bsF, updZ]
  split <;> rfl
theorem sz_upd (Z : Nat → SHT) (i : Nat) (Y : SHT) : upd (szF Z) i Y.2.1 = szF (updZ Z i Y) := by
  funext j
  simp only [upd, szF, updZ]
  split <;> rfl
theorem bs_same (Z : Nat → SHT) (i : Nat) (z : Int32) (f : Nat → Int64) : bsF Z = bsF (updZ Z i ((Z i).1, z, f)) := by
  funext j
  simp only [bsF, updZ]
  split
  · rename_i h; rw [h]
  · rfl
theorem sz_same (Z : Nat → SHT) (i : Nat) (w : Int32) (f : Nat → Int64) : szF Z = szF (updZ Z i (w, (Z i).2.1, f)) := by
  funext j
  simp only [szF, updZ]
  split
  · rename_i h; rw [h]
  · rfl
theorem nm_at (Z : Nat → SHT) {s j : Nat} (hj : j < 40) : nmF Z (40 * s + j) = (Z s).2.2 j := by
  have e1 : (40 * s + j) / 40 = s := by omega
  have e2 : (40 * s + j) % 40 = j := by omega
  simp only [nmF, e1, e2]
/-- k numbers from o on are those of g -/
def blk (o k : Nat) (g N : Nat → Int64) : Nat → Int64 := fun i => if o ≤ i ∧ i < o + k then g (i - o) else N i
theorem blk_0 (o : Nat) (g N : Nat → Int64) : blk o 0 g N = N := by
  funext i
  rw [blk, if_neg (by omega)]
theorem blk_s {o k : Nat} {g N : Nat → Int64} {v : Int64} (h : g k = v) : vp_updL (blk o k g N) (o + k) v = blk o (k + 1) g N := by
  funext i
  simp only [vp_updL, blk]
  by_cases h1 : i = o + k
  · subst h1
    rw [if_pos rfl, if_pos (by omega), show o + k - o = k by omega, h]
  · rw [if_neg h1]
    by_cases h2 : o ≤ i ∧ i < o + k
    · rw [if_pos h2, if_pos (by omega)]
    · rw [if_neg h2, if_neg (by omega)]
theorem blk_nm {Z : Nat → SHT} {s t k : Nat} {g : Nat → Int64} {Y : SHT} (ht : t + k ≤ 40) (h : ∀ j, j < 40 → Y.2.2 j = if t ≤ j ∧ j < t + k then g (j - t) else (Z s).2.2 j) : blk (40 * s + t) k g (nmF Z) = nmF (updZ Z s Y) := by
  funext i
  simp only [blk, nmF, updZ]
  by_cases h1 : i / 40 = s
  · rw [if_pos h1, h (i % 40) (by omega)]
    by_cases h2 : 40 * s + t ≤ i ∧ i < 40 * s + t + k
    · rw [if_pos h2, if_pos (by omega), show i - (40 * s + t) = i % 40 - t by omega]
    · rw [if_neg h2, if_neg (by omega), h1]
  · rw [if_neg h1, if_neg (by omega)]
theorem nm_put {Z : Nat → SHT} {s j : Nat} {w z : Int32} {v : Int64} (hj : j < 40) : vp_updL (nmF Z) (40 * s + j) v = nmF (updZ Z s (w, z, vp_updL (Z s).2.2 j v)) := by
  funext i
  simp only [vp_updL, nmF, updZ]
  by_cases h1 : i / 40 = s
  · rw [if_pos h1]
    by_cases h2 : i = 40 * s + j
    · rw [if_pos h2]
      show v = if i % 40 = j then v else _
      rw [if_pos (by omega)]
    · rw [if_neg h2]
      show _ = if i % 40 = j then v else _
      rw [if_neg (by omega), h1]
  · rw [if_neg h1, if_neg (by omega)]
abbrev hY (s ks ot as : Nat → Int32) (fl : Int32) (kp : Bool) (tc : Nat → Int32) (g : GO) (T : Nat → Nat) (B S : Nat → Int32) (N mv : Nat → Int64) : AH := hP s ks ot as fl kp tc g T ++ [.inl (0, 4, .inl B), .inl (0, 4, .inl S), .inl (1, 160, .inr (.inl N)), .inl (1, 40, .inr (.inl mv))]
/-- the reference stands so -/
def qY (L : GS) (h : AH) : Prop := ∃ (ks ot as : Nat → Int32) (fl : Int32) (a : Nat) (b v : Int32) (w : Bool) (mv : Nat → Int64), (L.1.2.2.1 = true → ∀ i, i < 37 → ks i = enc L.1.2.1 i) ∧ HE h (hY (enc L.1.1) ks ot as fl L.1.2.2.1 L.1.2.2.2 (nI L.2.1.1, nI a, b, v, w) L.2.1.2 (bsF L.2.2) (szF L.2.2) (nmF L.2.2) mv)
theorem qY_len {L : GS} {h' : AH} (q : qY L h') : h'.length = 11 := by
  obtain ⟨ks, ot, as, fl, a, b, v, w, mv, -, q⟩ := q
  exact q.len.symm
theorem qY_of {R K : RS} {ks ot as : Nat → Int32} {fl : Int32} {kp : Bool} {tc : Nat → Int32} {n : Nat} {T : Nat → Nat} {Z : Nat → SHT} {a : Nat} {b v : Int32} {w : Bool} {mv : Nat → Int64} {B S : Nat → Int32} {N : Nat → Int64} (hk : kp = true → ∀ i, i < 37 → ks i = enc K i) (e1 : B = bsF Z) (e2 : S = szF Z) (e3 : N = nmF Z) : qY ((R, K, kp, tc), (n, T), Z) (hY (enc R) ks ot as fl kp tc (nI n, nI a, b, v, w) T B S N mv) := by
  subst e1
  subst e2
  subst e3
  exact ⟨ks, ot, as, fl, a, b, v, w, mv, hk, HE.rf⟩
/-- the reference's calls on its core are calls on the whole of it -/
theorem Y_lift {R K : RS} {ks ot as : Nat → Int32} {fl : Int32} {kp : Bool} {tc : Nat → Int32} {n : Nat} {T : Nat → Nat} {Z : Nat → SHT} {a : Nat} {b v : Int32} {w : Bool} {mv : Nat → Int64} {M : Mt} {as9 : List Value} {x : Int32} {c : CS} (S : SpQ 11 M as9 (hM (enc R) ks ot as fl kp tc (nI n, nI a, b, v, w)) (some (.int x)) (qM c (nI n, nI a, b, v, w))) : SpQ 11 M as9 (hY (enc R) ks ot as fl kp tc (nI n, nI a, b, v, w) T (bsF Z) (szF Z) (nmF Z) mv) (some (.int x)) (qY (c, (n, T), Z)) := by
  refine SpQ.pre (h2 := [.inl (0, 4, .inl (bsF Z)), .inl (0, 4, .inl (szF Z)), .inl (1, 160, .inr (.inl (nmF Z))), .inl (1, 40, .inr (.inl mv))]) (SpQ.pre (h2 := [.inl (0, 120, .inl (fun i => nI (T i)))]) S rfl (Nat.le_of_ble_eq_true rfl) (Q := qP (c, (n, T), Z)) (fun hL2 hl q => ?_)) rfl (Nat.le_of_ble_eq_true rfl) (Q := fun h => qY (c, (n, T), Z) h) (fun hL2 hl q => ?_)
  · obtain ⟨ks, ot, as, fl, hk, q⟩ := q
    exact ⟨ks, ot, as, fl, a, b, v, w, hk, q.app⟩
  · obtain ⟨ks, ot, as, fl, a, b, v, w, hk, q⟩ := q
    exact ⟨ks, ot, as, fl, a, b, v, w, mv, hk, q.app⟩
theorem Y_liftP {R K : RS} {ks ot as : Nat → Int32} {fl : Int32} {kp : Bool} {tc : Nat → Int32} {n : Nat} {T : Nat → Nat} {Z : Nat → SHT} {a : Nat} {b v : Int32} {w : Bool} {mv : Nat → Int64} {M : Mt} {as9 : List Value} {x : Int32} {L : GS} (S : SpQ 11 M as9 (hP (enc R) ks ot as fl kp tc (nI n, nI a, b, v, w) T) (some (.int x)) (qP L)) (hz : L.2.2 = Z) : SpQ 11 M as9 (hY (enc R) ks ot as fl kp tc (nI n, nI a, b, v, w) T (bsF Z) (szF Z) (nmF Z) mv) (some (.int x)) (qY L) := by
  subst hz
  refine SpQ.pre (h2 := [.inl (0, 4, .inl (bsF L.2.2)), .inl (0, 4, .inl (szF L.2.2)), .inl (1, 160, .inr (.inl (nmF L.2.2))), .inl (1, 40, .inr (.inl mv))]) S rfl (Nat.le_of_ble_eq_true rfl) (Q := fun h => qY L h) (fun hL2 hl q => ?_)
  obtain ⟨ks, ot, as, fl, a, b, v, w, hk, q⟩ := q
  exact ⟨ks, ot, as, fl, a, b, v, w, mv, hk, q.app⟩
theorem Y_finds {s ks ot as : Nat → Int32} {fl : Int32} {kp : Bool} {tc : Nat → Int32} {g : GO} {T : Nat → Nat} {B S : Nat → Int32} {N mv : Nat → Int64} {fd : Int32} (u : Nat) (hu : u < 7) (hf : (-1000000001) - fd = nI u) : Sp 0 mX5_finds [.ref 0, .int fd] (hY s ks ot as fl kp tc g T B S N mv) (some (.int fd)) (hY s ks ot as fl kp (upd tc u (tc u + nI 1)) g T B S N mv) := ((M_finds u hu hf).pre rfl (Nat.le_of_ble_eq_true rfl)).pre rfl (Nat.le_of_ble_eq_true rfl)
theorem M_narrowed {x : Int32} {v : Int64} {h : AH} : Sp 0 mX5_narrowed [.int x, .long v] h (some (.long (cutZ x v))) h := by
  refine Sp.of [some (.int x), some (.long v), none] mrX5_narrowed.1 rfl (Nat.le_of_ble_eq_true rfl) rfl (fun X => ?_)
  refine r_iload_n dX5_narrowed_0 rfl ?_
  refine r_bipush (v := nI 8) dX5_narrowed_1 (by decide) ?_
  refine r_icmp_ne 13 dX5_narrowed_3 (by decide) (fun c3 => ?_) (fun c3 => ?_)
  · refine r_iload_n dX5_narrowed_13 rfl ?_
    refine r_bipush (v := nI 16) dX5_narrowed_14 (by decide) ?_
    refine r_icmp_ne 26 dX5_narrowed_16 (by decide) (fun c16 => ?_) (fun c16 => ?_)
    · refine r_lload_n dX5_narrowed_26 rfl ?_
      refine r_lret dX5_narrowed_27 rfl ?_ ?_
      · first | (rw [cutZ, if_pos c3]; done) | (rw [cutZ, if_neg c3, if_pos c16]; done) | (rw [cutZ, if_neg c3, if_neg c16]; done)
      · exact HE.rf
    · refine r_lload_n dX5_narrowed_19 rfl ?_
      refine r_l2i dX5_narrowed_20 ?_
      refine r_i2s dX5_narrowed_21 ?_
      refine r_i2l dX5_narrowed_22 ?_
      refine r_goto 27 dX5_narrowed_23 (by decide) ?_
      refine r_lret dX5_narrowed_27 rfl ?_ ?_
      · first | (rw [cutZ, if_pos c3]; done) | (rw [cutZ, if_neg c3, if_pos c16]; done) | (rw [cutZ, if_neg c3, if_neg c16]; done)
      · exact HE.rf
  · refine r_lload_n dX5_narrowed_6 rfl ?_
    refine r_l2i dX5_narrowed_7 ?_
    refine r_i2b dX5_narrowed_8 ?_
    refine r_i2l dX5_narrowed_9 ?_
    refine r_goto 27 dX5_narrowed_10 (by decide) ?_
    refine r_lret dX5_narrowed_27 rfl ?_ ?_
    · first | (rw [cutZ, if_pos c3]; done) | (rw [cutZ, if_neg c3, if_pos c16]; done) | (rw [cutZ, if_neg c3, if_neg c16]; done)
    · exact HE.rf
theorem M_wrA {s ks ot as : Nat → Int32} {fl : Int32} {kp : Bool} {tc : Nat → Int32} {g : GO} {T : Nat → Nat} {B S : Nat → Int32} {N mv : Nat → Int64} {x : Int32} (hx : inR x (nI 0) (nI 3) = false) : Sp 2 mX5_wrongSheet [.ref 0, .int x] (hY s ks ot as fl kp tc g T B S N mv) (some (.int (-1000000001))) (hY s ks ot as fl kp tc g T B S N mv) := by
  refine Sp.of [some (.ref 0), some (.int x)] mrX5_wrongSheet.1 rfl (Nat.le_of_ble_eq_true rfl) rfl (fun X => ?_)
  refine r_iload_n dX5_wrongSheet_0 rfl ?_
  refine r_s1r M_isOne (Nat.le_of_ble_eq_true rfl) mrX5_isOne lkX5_287 dX5_wrongSheet_1 (Nat.le_of_ble_eq_true rfl) ?_
  refine r_if_neB 12 dX5_wrongSheet_4 (by decide) (fun c4 => ?_) (fun c4 => ?_)
  · exact absurd c4 (by rw [hx]; decide)
  · refine r_ldc kX5_41 dX5_wrongSheet_7 ?_
    refine r_goto 28 dX5_wrongSheet_9 (by decide) ?_
    refine r_iret dX5_wrongSheet_28 rfl rfl ?_ ?_
    · rfl
    · exact HE.rf
theorem M_wrB {s ks ot as : Nat → Int32} {fl : Int32} {kp : Bool} {tc : Nat → Int32} {g : GO} {T : Nat → Nat} {B S : Nat → Int32} {N mv : Nat → Int64} {i : Nat} (hi : i < 4) (hb : B i = 0) : Sp 2 mX5_wrongSheet [.ref 0, .int (nI i)] (hY s ks ot as fl kp tc g T B S N mv) (some (.int (-1000000006))) (hY s ks ot as fl kp tc g T B S N mv) := by
  refine Sp.of [some (.ref 0), some (.int (nI i))] mrX5_wrongSheet.1 rfl (Nat.le_of_ble_eq_true rfl) rfl (fun X => ?_)
  refine r_iload_n dX5_wrongSheet_0 rfl ?_
  refine r_s1r M_isOne (Nat.le_of_ble_eq_true rfl) mrX5_isOne lkX5_287 dX5_wrongSheet_1 (Nat.le_of_ble_eq_true rfl) ?_
  rw [inR_n (Nat.zero_le _) (show i ≤ 3 by omega) (by decide)]
  refine r_if_neB 12 dX5_wrongSheet_4 (by decide) (fun c4 => ?_) (fun c4 => ?_)
  · refine r_aload_n dX5_wrongSheet_12 rfl ?_
    refine r_getfield dX5_wrongSheet_13 gfX5_28 rfl rfl ?_
    refine r_iload_n dX5_wrongSheet_16 rfl ?_
    refine r_ialdN dX5_wrongSheet_17 rfl (by omega) (Nat.le_of_ble_eq_true rfl) rfl ?_
    refine r_if_ne 27 dX5_wrongSheet_18 (by decide) (fun c18 => ?_) (fun c18 => ?_)
    · exact absurd hb c18
    · refine r_ldcw kX5_291 dX5_wrongSheet_21 ?_
      refine r_goto 28 dX5_wrongSheet_24 (by decide) ?_
      refine r_iret dX5_wrongSheet_28 rfl rfl ?_ ?_
      · rfl
      · exact HE.rf
  · exact Bool.noConfusion c4
theorem M_wrC {s ks ot as : Nat → Int32} {fl : Int32} {kp : Bool} {tc : Nat → Int32} {g : GO} {T : Nat → Nat} {B S : Nat → Int32} {N mv : Nat → Int64} {i : Nat} (hi : i < 4) (hb : ¬ B i = 0) : Sp 2 mX5_wrongSheet [.ref 0, .int (nI i)] (hY s ks ot as fl kp tc g T B S N mv) (some (.int 0)) (hY s ks ot as fl kp tc g T B S N mv) := by
  refine Sp.of [some (.ref 0), some (.int (nI i))] mrX5_wrongSheet.1 rfl (Nat.le_of_ble_eq_true rfl) rfl (fun X => ?_)
  refine r_iload_n dX5_wrongSheet_0 rfl ?_
  refine r_s1r M_isOne (Nat.le_of_ble_eq_true rfl) mrX5_isOne lkX5_287 dX5_wrongSheet_1 (Nat.le_of_ble_eq_true rfl) ?_
  rw [inR_n (Nat.zero_le _) (show i ≤ 3 by omega) (by decide)]
  refine r_if_neB 12 dX5_wrongSheet_4 (by decide) (fun c4 => ?_) (fun c4 => ?_)
  · refine r_aload_n dX5_wrongSheet_12 rfl ?_
    refine r_getfield dX5_wrongSheet_13 gfX5_28 rfl rfl ?_
    refine r_iload_n dX5_wrongSheet_16 rfl ?_
    refine r_ialdN dX5_wrongSheet_17 rfl (by omega) (Nat.le_of_ble_eq_true rfl) rfl ?_
    refine r_if_ne 27 dX5_wrongSheet_18 (by decide) (fun c18 => ?_) (fun c18 => ?_)
    · refine r_iconst (v := nI 0) dX5_wrongSheet_27 (by decide) ?_
      refine r_iret dX5_wrongSheet_28 rfl rfl ?_ ?_
      · rfl
      · exact HE.rf
    · exact absurd c18 hb
  · exact Bool.noConfusion c4
theorem Y_sheet {R K : RS} {ks ot as : Nat → Int32} {fl : Int32} {kp : Bool} {tc : Nat → Int32} {n : Nat} {T : Nat → Nat} {Z : Nat → SHT} {a : Nat} {b v : Int32} {w : Bool} {mv : Nat → Int64} {x u m : Int32} (hk : kp = true → ∀ i, i < 37 → ks i = enc K i) : SpQ 11 mX5_sheet [.ref 0, .int x, .int u, .int m] (hY (enc R) ks ot as fl kp tc (nI n, nI a, b, v, w) T (bsF Z) (szF Z) (nmF Z) mv) (some (.int (o_sheet ((R, K, kp, tc), (n, T), Z) x u m).1)) (qY (o_sheet ((R, K, kp, tc), (n, T), Z) x u m).2) := by
  refine SpQ.of [some (.ref 0), some (.int x), some (.int u), some (.int m), none] mrX5_sheet.1 (fun _ q => qY_len q) (Nat.le_of_ble_eq_true rfl) rfl (fun X => ?_)
  have G : ∀ i, i < 4 → ∀ (z : Int32) (k c : Nat), c + k = 40 → RunQ X 11 mX5_sheet 86 [some (.ref 0), some (.int (nI i)), some (.int u), some (.int m), some (.int (nI c))] [] (hY (enc R) ks ot as fl kp tc (nI n, nI a, b, v, w) T (upd (bsF Z) i u) (upd (szF Z) i z) (blk (40 * i) c (fun _ => 0) (nmF Z)) mv) (some (.int z)) (qY ((R, K, kp, tc), (n, T), updZ Z i (u, z, fun _ => 0))) := by
    intro i hi z k
    induction k with
    | zero =>
      intro c hc
      obtain rfl : c = 40 := by omega
      refine r_iload dX5_sheet_86 rfl ?_
      refine r_bipush (v := nI 40) dX5_sheet_88 (by decide) ?_
      refine r_icmp_ge 112 dX5_sheet_90 (by decide) (fun c90 => ?_) (fun c90 => ?_)
      · refine r_aload_n dX5_sheet_112 rfl ?_
        refine r_getfield dX5_sheet_113 gfX5_31 rfl rfl ?_
        refine r_iload_n dX5_sheet_116 rfl ?_
        refine r_ialdN dX5_sheet_117 rfl (by omega) (Nat.le_of_ble_eq_true rfl) upd_eq ?_
        refine r_iret dX5_sheet_118 rfl rfl ?_ ?_
        · rfl
        · exact qY_of (a := a) (b := b) (v := v) (w := w) (Z := updZ Z i (u, z, fun _ => 0)) hk (bs_upd Z i (u, z, fun _ => 0)) (sz_upd Z i (u, z, fun _ => 0)) (blk_nm (t := 0) (Y := (u, z, fun _ => 0)) (by omega) (fun j hj => by rw [if_pos (by omega)]))
      · exact absurd (nI_le (by omega) (by omega)) c90
    | succ k ih =>
      intro c hc
      refine r_iload dX5_sheet_86 rfl ?_
      refine r_bipush (v := nI 40) dX5_sheet_88 (by decide) ?_
      refine r_icmp_ge 112 dX5_sheet_90 (by decide) (fun c90 => ?_) (fun c90 => ?_)
      · exact absurd c90 (nI_ge (by omega) (by omega))
      · refine r_aload_n dX5_sheet_93 rfl ?_
        refine r_getfield dX5_sheet_94 gfX5_34 rfl rfl ?_
        refine r_bipush (v := nI 40) dX5_sheet_97 (by decide) ?_
        refine r_iload_n dX5_sheet_99 rfl ?_
        refine r_imul dX5_sheet_100 ?_
        rw [pk_mul]
        refine r_iload dX5_sheet_101 rfl ?_
        refine r_iadd dX5_sheet_103 ?_
        rw [nI_add]
        refine r_lconst (v := 0) dX5_sheet_104 (by decide) ?_
        refine r_lastN (h' := [_, _, _, _, _, _, _, _, _, _, _]) dX5_sheet_105 rfl (by omega) (Nat.le_of_ble_eq_true rfl) rfl ?_
        rw [blk_s rfl]
        refine r_iinc (lv' := [_, _, _, _, _]) dX5_sheet_106 (by decide) rfl (by first | exact inc1 _ | exact inc1_ _) rfl ?_
        refine r_goto 86 dX5_sheet_109 (by decide) ?_
        exact ih (c + 1) (by omega)
  have G36 : isW u = true → inR x (nI 0) (nI 3) = true → RunQ X 11 mX5_sheet 36 [some (.ref 0), some (.int x), some (.int u), some (.int m), none] [] (hY (enc R) ks ot as fl kp tc (nI n, nI a, b, v, w) T (bsF Z) (szF Z) (nmF Z) mv) (some (.int (o_sheet ((R, K, kp, tc), (n, T), Z) x u m).1)) (qY (o_sheet ((R, K, kp, tc), (n, T), Z) x u m).2) := by
    intro c11 c4
    obtain ⟨i, -, hi, rfl⟩ := inR_of c4 (by decide) (by decide)
    have ei : tn (nI i) = i := nI_clamp (by omega)
    rw [o_sheet, c4, c11]
    dsimp only
    rw [ei]
    refine r_iload_n dX5_sheet_36 rfl ?_
    refine r_if_ge 48 dX5_sheet_37 (by decide) (fun c37 => ?_) (fun c37 => ?_)
    · refine r_iload_n dX5_sheet_48 rfl ?_
      refine r_bipush (v := nI 40) dX5_sheet_49 (by decide) ?_
      refine r_icmp_le 61 dX5_sheet_51 (by decide) (fun c51 => ?_) (fun c51 => ?_)
      · refine r_aload_n dX5_sheet_61 rfl ?_
        refine r_getfield dX5_sheet_62 gfX5_28 rfl rfl ?_
        refine r_iload_n dX5_sheet_65 rfl ?_
        refine r_iload_n dX5_sheet_66 rfl ?_
        refine r_iastN (h' := [_, _, _, _, _, _, _, _, _, _, _]) dX5_sheet_67 rfl (by omega) (Nat.le_of_ble_eq_true rfl) rfl ?_
        refine r_aload_n dX5_sheet_68 rfl ?_
        refine r_getfield dX5_sheet_69 gfX5_31 rfl rfl ?_
        refine r_iload_n dX5_sheet_72 rfl ?_
        refine r_iload_n dX5_sheet_73 rfl ?_
        refine r_if_ne 81 dX5_sheet_74 (by decide) (fun c74 => ?_) (fun c74 => ?_)
        · refine r_iload_n dX5_sheet_81 rfl ?_
          refine r_iastN (h' := [_, _, _, _, _, _, _, _, _, _, _]) dX5_sheet_82 rfl (by omega) (Nat.le_of_ble_eq_true rfl) rfl ?_
          refine r_iconst (v := nI 0) dX5_sheet_83 (by decide) ?_
          refine r_istore (lv' := [_, _, _, _, _]) dX5_sheet_84 (by decide) rfl ?_
          rw [if_neg (Int32.not_lt.mpr c37), if_neg (Int32.not_lt.mpr c51)]
          have e := G i (by omega) (if u = 0 then 0 else m) 40 0 rfl
          rw [blk_0] at e
          first
          | (rw [if_pos c74] at e ⊢; exact e)
          | (rw [if_neg c74] at e ⊢; exact e)
        · refine r_iconst (v := nI 0) dX5_sheet_77 (by decide) ?_
          refine r_goto 82 dX5_sheet_78 (by decide) ?_
          refine r_iastN (h' := [_, _, _, _, _, _, _, _, _, _, _]) dX5_sheet_82 rfl (by omega) (Nat.le_of_ble_eq_true rfl) rfl ?_
          refine r_iconst (v := nI 0) dX5_sheet_83 (by decide) ?_
          refine r_istore (lv' := [_, _, _, _, _]) dX5_sheet_84 (by decide) rfl ?_
          rw [if_neg (Int32.not_lt.mpr c37), if_neg (Int32.not_lt.mpr c51)]
          have e := G i (by omega) (if u = 0 then 0 else m) 40 0 rfl
          rw [blk_0] at e
          first
          | (rw [if_pos c74] at e ⊢; exact e)
          | (rw [if_neg c74] at e ⊢; exact e)
      · refine r_aload_n dX5_sheet_54 rfl ?_
        refine r_ldc kX5_41 dX5_sheet_55 ?_
        refine r_v1r (Y_finds 0 (by decide) (by decide)) (Nat.le_of_ble_eq_true rfl) mrX5_finds lkX5_66 rfl rfl rfl dX5_sheet_57 (Nat.le_of_ble_eq_true rfl) ?_
        refine r_iret dX5_sheet_60 rfl rfl ?_ ?_
        · rw [if_neg (Int32.not_lt.mpr c37), if_pos (Int32.not_le.mp c51)]; rfl
        · rw [if_neg (Int32.not_lt.mpr c37), if_pos (Int32.not_le.mp c51)]
          exact ⟨ks, ot, as, fl, a, b, v, w, mv, hk, HE.rf⟩
    · refine r_aload_n dX5_sheet_40 rfl ?_
      refine r_ldcw kX5_290 dX5_sheet_41 ?_
      refine r_v1r (Y_finds 6 (by decide) (by decide)) (Nat.le_of_ble_eq_true rfl) mrX5_finds lkX5_66 rfl rfl rfl dX5_sheet_44 (Nat.le_of_ble_eq_true rfl) ?_
      refine r_iret dX5_sheet_47 rfl rfl ?_ ?_
      · rw [if_pos (Int32.not_le.mp c37)]; rfl
      · rw [if_pos (Int32.not_le.mp c37)]
        exact ⟨ks, ot, as, fl, a, b, v, w, mv, hk, HE.rf⟩
  refine r_iload_n dX5_sheet_0 rfl ?_
  refine r_s1r M_isOne (Nat.le_of_ble_eq_true rfl) mrX5_isOne lkX5_287 dX5_sheet_1 (Nat.le_of_ble_eq_true rfl) ?_
  refine r_if_eqB 29 dX5_sheet_4 (by decide) (fun c4 => ?_) (fun c4 => ?_)
  · refine r_aload_n dX5_sheet_29 rfl ?_
    refine r_ldc kX5_41 dX5_sheet_30 ?_
    refine r_v1r (Y_finds 0 (by decide) (by decide)) (Nat.le_of_ble_eq_true rfl) mrX5_finds lkX5_66 rfl rfl rfl dX5_sheet_32 (Nat.le_of_ble_eq_true rfl) ?_
    refine r_iret dX5_sheet_35 rfl rfl ?_ ?_
    · first | (rw [o_sheet, c4]; rfl) | (rw [o_sheet, c4, isW, decide_eq_false (fun z => by rcases z with z | z | z | z; exact c8 z; exact c14 z; exact c20 z; exact c26 z)]; rfl)
    · first | (rw [o_sheet, c4]; exact ⟨ks, ot, as, fl, a, b, v, w, mv, hk, HE.rf⟩) | (rw [o_sheet, c4, isW, decide_eq_false (fun z => by rcases z with z | z | z | z; exact c8 z; exact c14 z; exact c20 z; exact c26 z)]; exact ⟨ks, ot, as, fl, a, b, v, w, mv, hk, HE.rf⟩)
  · refine r_iload_n dX5_sheet_7 rfl ?_
    refine r_if_eq 36 dX5_sheet_8 (by decide) (fun c8 => ?_) (fun c8 => ?_)
    · first
      | exact G36 (decide_eq_true (Or.inl c8)) c4
      | exact G36 (decide_eq_true (Or.inr (Or.inl c14))) c4
      | exact G36 (decide_eq_true (Or.inr (Or.inr (Or.inl c20)))) c4
      | exact G36 (decide_eq_true (Or.inr (Or.inr (Or.inr c26)))) c4
    · refine r_iload_n dX5_sheet_11 rfl ?_
      refine r_bipush (v := nI 8) dX5_sheet_12 (by decide) ?_
      refine r_icmp_eq 36 dX5_sheet_14 (by decide) (fun c14 => ?_) (fun c14 => ?_)
      · first
        | exact G36 (decide_eq_true (Or.inl c8)) c4
        | exact G36 (decide_eq_true (Or.inr (Or.inl c14))) c4
        | exact G36 (decide_eq_true (Or.inr (Or.inr (Or.inl c20)))) c4
        | exact G36 (decide_eq_true (Or.inr (Or.inr (Or.inr c26)))) c4
      · refine r_iload_n dX5_sheet_17 rfl ?_
        refine r_bipush (v := nI 16) dX5_sheet_18 (by decide) ?_
        refine r_icmp_eq 36 dX5_sheet_20 (by decide) (fun c20 => ?_) (fun c20 => ?_)
        · first
          | exact G36 (decide_eq_true (Or.inl c8)) c4
          | exact G36 (decide_eq_true (Or.inr (Or.inl c14))) c4
          | exact G36 (decide_eq_true (Or.inr (Or.inr (Or.inl c20)))) c4
          | exact G36 (decide_eq_true (Or.inr (Or.inr (Or.inr c26)))) c4
        · refine r_iload_n dX5_sheet_23 rfl ?_
          refine r_bipush (v := nI 64) dX5_sheet_24 (by decide) ?_
          refine r_icmp_eq 36 dX5_sheet_26 (by decide) (fun c26 => ?_) (fun c26 => ?_)
          · first
            | exact G36 (decide_eq_true (Or.inl c8)) c4
            | exact G36 (decide_eq_true (Or.inr (Or.inl c14))) c4
            | exact G36 (decide_eq_true (Or.inr (Or.inr (Or.inl c20)))) c4
            | exact G36 (decide_eq_true (Or.inr (Or.inr (Or.inr c26)))) c4
          · refine r_aload_n dX5_sheet_29 rfl ?_
            refine r_ldc kX5_41 dX5_sheet_30 ?_
            refine r_v1r (Y_finds 0 (by decide) (by decide)) (Nat.le_of_ble_eq_true rfl) mrX5_finds lkX5_66 rfl rfl rfl dX5_sheet_32 (Nat.le_of_ble_eq_true rfl) ?_
            refine r_iret dX5_sheet_35 rfl rfl ?_ ?_
            · first | (rw [o_sheet, c4]; rfl) | (rw [o_sheet, c4, isW, decide_eq_false (fun z => by rcases z with z | z | z | z; exact c8 z; exact c14 z; exact c20 z; exact c26 z)]; rfl)
            · first | (rw [o_sheet, c4]; exact ⟨ks, ot, as, fl, a, b, v, w, mv, hk, HE.rf⟩) | (rw [o_sheet, c4, isW, decide_eq_false (fun z => by rcases z with z | z | z | z; exact c8 z; exact c14 z; exact c20 z; exact c26 z)]; exact ⟨ks, ot, as, fl, a, b, v, w, mv, hk, HE.rf⟩)
theorem Y_write {R K : RS} {ks ot as : Nat → Int32} {fl : Int32} {kp : Bool} {tc : Nat → Int32} {n : Nat} {T : Nat → Nat} {Z : Nat → SHT} {a : Nat} {b v : Int32} {w : Bool} {mv : Nat → Int64} {x y : Int32} {u : Int64} (hZ : wfZ Z) (hk : kp = true → ∀ i, i < 37 → ks i = enc K i) : SpQ 11 mX5_write [.ref 0, .int x, .int y, .long u] (hY (enc R) ks ot as fl kp tc (nI n, nI a, b, v, w) T (bsF Z) (szF Z) (nmF Z) mv) (some (.long (o_write ((R, K, kp, tc), (n, T), Z) x y u).1)) (qY (o_write ((R, K, kp, tc), (n, T), Z) x y u).2) := by
  refine SpQ.of [some (.ref 0), some (.int x), some (.int y), some (.long u), none, none, none, none] mrX5_write.1 (fun _ q => qY_len q) (Nat.le_of_ble_eq_true rfl) rfl (fun X => ?_)
  cases c4 : inR x (nI 0) (nI 3) with
  | false =>
    refine r_aload_n dX5_write_0 rfl ?_
    refine r_iload_n dX5_write_1 rfl ?_
    refine r_v1r (M_wrA c4) (Nat.le_of_ble_eq_true rfl) mrX5_wrongSheet lkX5_292 rfl rfl rfl dX5_write_2 (Nat.le_of_ble_eq_true rfl) ?_
    refine r_istore (lv' := [_, _, _, _, _, _, _, _]) dX5_write_5 (by decide) rfl ?_
    refine r_iload dX5_write_7 rfl ?_
    refine r_if_eq 20 dX5_write_9 (by decide) (fun c9 => ?_) (fun c9 => ?_)
    · exact absurd c9 (by decide)
    · refine r_aload_n dX5_write_12 rfl ?_
      refine r_iload dX5_write_13 rfl ?_
      refine r_v1r (Y_finds 0 (by decide) (by decide)) (Nat.le_of_ble_eq_true rfl) mrX5_finds lkX5_66 rfl rfl rfl dX5_write_15 (Nat.le_of_ble_eq_true rfl) ?_
      refine r_i2l dX5_write_18 ?_
      refine r_lret dX5_write_19 rfl ?_ ?_
      · rw [o_write, c4]; rfl
      · rw [o_write, c4]
        exact ⟨ks, ot, as, fl, a, b, v, w, mv, hk, HE.rf⟩
  | true =>
    obtain ⟨i, -, hi, rfl⟩ := inR_of c4 (by decide) (by decide)
    have ei : tn (nI i) = i := nI_clamp (by omega)
    obtain ⟨z, hz, ez⟩ := hZ i (by omega)
    rw [o_write, c4]
    dsimp only
    rw [ei]
    by_cases hb : (Z i).1 = 0
    · rw [if_pos hb]
      refine r_aload_n dX5_write_0 rfl ?_
      refine r_iload_n dX5_write_1 rfl ?_
      refine r_v1r (M_wrB (by omega) hb) (Nat.le_of_ble_eq_true rfl) mrX5_wrongSheet lkX5_292 rfl rfl rfl dX5_write_2 (Nat.le_of_ble_eq_true rfl) ?_
      refine r_istore (lv' := [_, _, _, _, _, _, _, _]) dX5_write_5 (by decide) rfl ?_
      refine r_iload dX5_write_7 rfl ?_
      refine r_if_eq 20 dX5_write_9 (by decide) (fun c9 => ?_) (fun c9 => ?_)
      · exact absurd c9 (by decide)
      · refine r_aload_n dX5_write_12 rfl ?_
        refine r_iload dX5_write_13 rfl ?_
        refine r_v1r (Y_finds 5 (by decide) (by decide)) (Nat.le_of_ble_eq_true rfl) mrX5_finds lkX5_66 rfl rfl rfl dX5_write_15 (Nat.le_of_ble_eq_true rfl) ?_
        refine r_i2l dX5_write_18 ?_
        refine r_lret dX5_write_19 rfl ?_ ?_
        · rfl
        · exact ⟨ks, ot, as, fl, a, b, v, w, mv, hk, HE.rf⟩
    · rw [if_neg hb]
      refine r_aload_n dX5_write_0 rfl ?_
      refine r_iload_n dX5_write_1 rfl ?_
      refine r_v1r (M_wrC (by omega) hb) (Nat.le_of_ble_eq_true rfl) mrX5_wrongSheet lkX5_292 rfl rfl rfl dX5_write_2 (Nat.le_of_ble_eq_true rfl) ?_
      refine r_istore (lv' := [_, _, _, _, _, _, _, _]) dX5_write_5 (by decide) rfl ?_
      refine r_iload dX5_write_7 rfl ?_
      refine r_if_eq 20 dX5_write_9 (by decide) (fun c9 => ?_) (fun c9 => ?_)
      · refine r_iload_n dX5_write_20 rfl ?_
        refine r_i2l dX5_write_21 ?_
        refine r_lconst (v := 0) dX5_write_22 (by decide) ?_
        refine r_aload_n dX5_write_23 rfl ?_
        refine r_getfield dX5_write_24 gfX5_31 rfl rfl ?_
        refine r_iload_n dX5_write_27 rfl ?_
        refine r_ialdN dX5_write_28 rfl (by omega) (Nat.le_of_ble_eq_true rfl) (show szF Z i = (Z i).2.1 from rfl) ?_
        refine r_iconst (v := nI 1) dX5_write_29 (by decide) ?_
        refine r_isub dX5_write_30 ?_
        refine r_i2l dX5_write_31 ?_
        refine r_s3r (M_in (lo := nI 0) (hi := (Z i).2.1 - nI 1) (by decide) rfl) (Nat.le_of_ble_eq_true rfl) mrX5_in lkX5_46 dX5_write_32 (Nat.le_of_ble_eq_true rfl) ?_
        refine r_if_neB 46 dX5_write_35 (by decide) (fun c35 => ?_) (fun c35 => ?_)
        · have c35' := c35
          rw [ez] at c35
          obtain ⟨j, hj, rfl⟩ := inR_sz hz c35
          have ej : tn (nI j) = j := nI_clamp (by omega)
          refine r_aload_n dX5_write_46 rfl ?_
          refine r_getfield dX5_write_47 gfX5_34 rfl rfl ?_
          refine r_bipush (v := nI 40) dX5_write_50 (by decide) ?_
          refine r_iload_n dX5_write_52 rfl ?_
          refine r_imul dX5_write_53 ?_
          rw [pk_mul]
          refine r_iload_n dX5_write_54 rfl ?_
          refine r_iadd dX5_write_55 ?_
          rw [nI_add]
          refine r_laldN dX5_write_56 rfl (by omega) (Nat.le_of_ble_eq_true rfl) (nm_at Z (by omega)) ?_
          refine r_lstore (lv' := [_, _, _, _, _, _, _, _]) dX5_write_57 (by decide) rfl ?_
          refine r_aload_n dX5_write_59 rfl ?_
          refine r_getfield dX5_write_60 gfX5_34 rfl rfl ?_
          refine r_bipush (v := nI 40) dX5_write_63 (by decide) ?_
          refine r_iload_n dX5_write_65 rfl ?_
          refine r_imul dX5_write_66 ?_
          rw [pk_mul]
          refine r_iload_n dX5_write_67 rfl ?_
          refine r_iadd dX5_write_68 ?_
          rw [nI_add]
          refine r_aload_n dX5_write_69 rfl ?_
          refine r_getfield dX5_write_70 gfX5_28 rfl rfl ?_
          refine r_iload_n dX5_write_73 rfl ?_
          refine r_ialdN dX5_write_74 rfl (by omega) (Nat.le_of_ble_eq_true rfl) (show bsF Z i = (Z i).1 from rfl) ?_
          refine r_lload_n dX5_write_75 rfl ?_
          refine r_s2r M_narrowed (Nat.le_of_ble_eq_true rfl) mrX5_narrowed lkX5_295 dX5_write_76 (Nat.le_of_ble_eq_true rfl) ?_
          refine r_lastN (h' := [_, _, _, _, _, _, _, _, _, _, _]) dX5_write_79 rfl (by omega) (Nat.le_of_ble_eq_true rfl) rfl ?_
          refine r_lload dX5_write_80 rfl ?_
          refine r_lret dX5_write_82 rfl ?_ ?_
          · rw [c35', ej]
          · rw [c35', ej]
            exact qY_of (a := a) (b := b) (v := v) (w := w) (Z := updZ Z i ((Z i).1, (Z i).2.1, vp_updL (Z i).2.2 j (cutZ (Z i).1 u))) hk (bs_same Z i _ _) (sz_same Z i _ _) (nm_put (by omega))
        · refine r_aload_n dX5_write_38 rfl ?_
          refine r_ldc kX5_41 dX5_write_39 ?_
          refine r_v1r (Y_finds 0 (by decide) (by decide)) (Nat.le_of_ble_eq_true rfl) mrX5_finds lkX5_66 rfl rfl rfl dX5_write_41 (Nat.le_of_ble_eq_true rfl) ?_
          refine r_i2l dX5_write_44 ?_
          refine r_lret dX5_write_45 rfl ?_ ?_
          · rw [c35]; rfl
          · rw [c35]
            exact ⟨ks, ot, as, fl, a, b, v, w, mv, hk, HE.rf⟩
      · exact absurd (by decide) c9

