/-! the law's cases, one by one -/
def ro : Nat → Nat := rh (List.range' 29 11)
theorem putL_post (ρ : Nat → Nat) : ∀ (a b h1 : AH), b.length = a.length → putL ρ (h1 ++ a) (List.range' h1.length a.length) b = h1 ++ b.map (rE ρ)
  | [], [], h1, _ => rfl
  | e :: a, e' :: b, h1, h => by
    have e1 : (h1 ++ e :: a).set h1.length (rE ρ e') = (h1 ++ [rE ρ e']) ++ a := by
      rw [List.set_append_right _ _ (Nat.le_refl _), Nat.sub_self]
      simp
    have ih := putL_post ρ a b (h1 ++ [rE ρ e']) (by simpa using h)
    rw [List.length_append] at ih
    rw [List.length_cons, List.range'_succ, putL, e1]
    rw [show h1.length + [rE ρ e'].length = h1.length + 1 from rfl] at ih
    rw [ih]
    simp
theorem HE.postM {ρ : Nat → Nat} {c : AH} : ∀ {a b : AH}, HE a b → HE (c ++ a.map (rE ρ)) (c ++ b.map (rE ρ)) := by
  have key : ∀ {a b : AH}, HE a b → HE (a.map (rE ρ)) (b.map (rE ρ)) := by
    intro a
    induction a with
    | nil =>
      intro b h
      cases b with
      | nil => exact HE.rf
      | cons _ _ => exact h.elim
    | cons x a ih =>
      intro b h
      cases b with
      | nil => exact h.elim
      | cons y b => exact ⟨CE.re h.1, ih h.2⟩
  have app : ∀ {x y : AH}, HE x y → HE (c ++ x) (c ++ y) := by
    intro x y h
    induction c with
    | nil => exact h
    | cons e c ih => exact ⟨CE.rf, ih⟩
  intro a b h
  exact app (key h)
theorem W_c {d : Nat} {M : Mt} {as : List Value} {hx0 hy : AH} {rv : Option Value} {L' : GS} (S : SpQ d M as hx0 rv (qX L')) (hn : va_nd (List.range hx0.length) = true) (h9 : hx0.length ≤ 1000) : SpQ d M as (hx0 ++ hy) rv (fun h => ∃ hx, qX L' hx ∧ h = hx ++ hy) := SpQ.pre S hn h9 (fun hL2 _ q => ⟨hL2, q, rfl⟩)
theorem W_m {d : Nat} {M : Mt} {as as' : List Value} {hx hy0 : AH} {rv : Option Value} {L' : GS} (S : SpQ d M as hy0 rv (qY L')) (h1 : hx.length = 29) (h2 : hy0.length = 11) (has : as.map (cv ro) = as') (hrv : rv.map (cv ro) = rv) : SpQ d M as' (hx ++ hy0.map (rE ro)) rv (fun h => ∃ hy, qY L' hy ∧ h = hx ++ hy.map (rE ro)) := by
  refine SpQ.frame S (List.range' 29 11) rfl (by decide) ?_ has hrv (fun hL2 hl q => ⟨hL2, q, ?_⟩)
  · apply List.ext_getElem?
    intro i
    rw [List.getElem?_map, List.getElem?_map]
    by_cases h : i < 11
    · rw [List.getElem?_range' h, List.getElem?_eq_getElem (show i < hy0.length by omega)]
      show some ((hx ++ hy0.map (rE ro))[29 + 1 * i]?) = some (some (rE ro hy0[i]))
      rw [List.getElem?_append_right (by omega), h1, show 29 + 1 * i - 29 = i by omega, List.getElem?_map, List.getElem?_eq_getElem (show i < hy0.length by omega)]
      rfl
    · rw [List.getElem?_eq_none (by rw [List.length_range']; omega), List.getElem?_eq_none (by omega)]
      rfl
  · have e := putL_post ro (hy0.map (rE ro)) hL2 hx (by rw [List.length_map]; exact hl)
    rw [List.length_map, h1, h2] at e
    exact e
theorem z_feed {L : GS} {x m : Int32} : (o_feed L x m).2.2.2 = L.2.2 := by
  unfold o_feed
  split
  · rfl
  · split <;> rfl
theorem z_count {L : GS} {w : Int32} : (o_count L w).2.2.2 = L.2.2 := by
  unfold o_count
  (repeat' split) <;> rfl
theorem wG {L : GS} {c' : CS} (h : wfG L) (h' : wfC c') : wfG (c', L.2) := ⟨h', h.2⟩
/-- the law stands at pc, before its call i, with the state L on both sides -/
def LW (X : SX) (pc i : Nat) (L : GS) : Prop := ∀ (A : RS) (f1 f2 f3 tok : Int32) (s b : Nat) (nu : Int32) (ks ot as : Nat → Int32) (fl : Int32) (a : Nat) (b' v : Int32) (w : Bool) (mv : Nat → Int64), (L.1.2.2.1 = true → ∀ i, i < 37 → ks i = enc L.1.2.1 i) →
  RunQ X 12 mL_law pc [some (.ref 1000), some (.ref 0), some (.ref 29), some (.int (nI (6 * i)))] [] (hX L.1.1 L.1.2.1 L.1.2.2.1 L.1.2.2.2 L.2.1.1 L.2.1.2 L.2.2 A f1 f2 f3 tok s b nu ++ (hY (enc L.1.1) ks ot as fl L.1.2.2.1 L.1.2.2.2 (nI L.2.1.1, nI a, b', v, w) L.2.1.2 (bsF L.2.2) (szF L.2.2) (nmF L.2.2) mv).map (rE ro)) (some (.int (nI 1))) (fun _ => True)

theorem l_roots {X : SX} {i : Nat} {L : GS} (hi : 6 * i + 6 ≤ X.1) (hX9 : X.1 ≤ 3072) (hw : wfG L) (k : ∀ L', wfG L' → LW X 1221 i L') : LW X 192 i L := by
  obtain ⟨⟨R, K, kp, tc⟩, ⟨n, T⟩, Z⟩ := L
  intro A f1 f2 f3 tok s b nu ks ot as fl a b' v w mv hk
  dsimp only at hk ⊢
  have hc8 : cnt R ≤ 8 := hw.1.1.1.1
  refine r_aload_n dL_law_192 rfl ?_
  refine r_aload_n dL_law_193 rfl ?_
  refine r_iload_n dL_law_194 rfl ?_
  refine r_iconst (v := nI 1) dL_law_195 (by decide) ?_
  refine r_iadd dL_law_196 ?_
  rw [nI_add]
  refine r_taldN dL_law_197 (by omega) ?_
  refine r_v1rq (W_c (X_lift Q_roots) rfl (Nat.le_of_ble_eq_true rfl)) (Nat.le_of_ble_eq_true rfl) mrX4_roots lkL_13 rfl rfl rfl dL_law_198 (Nat.le_of_ble_eq_true rfl) (fun h9 _ g9 => ?_)
  obtain ⟨hx, q9, rfl⟩ := g9
  obtain ⟨A, f1, f2, f3, tok, s, b, nu, q9⟩ := q9
  refine r_heq q9.app ?_
  refine r_aload_n dL_law_201 rfl ?_
  refine r_aload_n dL_law_202 rfl ?_
  refine r_iload_n dL_law_203 rfl ?_
  refine r_iconst (v := nI 1) dL_law_204 (by decide) ?_
  refine r_iadd dL_law_205 ?_
  rw [nI_add]
  refine r_taldN dL_law_206 (by omega) ?_
  refine r_v1rq (W_m (Y_lift (K := K) (N_roots hk)) rfl rfl rfl rfl) (Nat.le_of_ble_eq_true rfl) mrX5_roots lkL_17 rfl rfl rfl dL_law_207 (Nat.le_of_ble_eq_true rfl) (fun h9 _ g9 => ?_)
  obtain ⟨hy, q8, rfl⟩ := g9
  obtain ⟨ks, ot, as, fl, a, b', v, w, mv, hk, q8⟩ := q8
  refine r_heq (HE.postM q8) ?_
  refine r_icmp_eq 1221 dL_law_210 (by decide) (fun c210 => ?_) (fun c210 => ?_)
  · exact k _ (wG hw (w_roots hw.1)) A f1 f2 f3 tok s b nu ks ot as fl a b' v w mv hk
  · exact absurd rfl c210
theorem l_lantern {X : SX} {i : Nat} {L : GS} (hi : 6 * i + 6 ≤ X.1) (hX9 : X.1 ≤ 3072) (hw : wfG L) (k : ∀ L', wfG L' → LW X 1221 i L') : LW X 215 i L := by
  obtain ⟨⟨R, K, kp, tc⟩, ⟨n, T⟩, Z⟩ := L
  intro A f1 f2 f3 tok s b nu ks ot as fl a b' v w mv hk
  dsimp only at hk ⊢
  have hc8 : cnt R ≤ 8 := hw.1.1.1.1
  refine r_aload_n dL_law_215 rfl ?_
  refine r_aload_n dL_law_216 rfl ?_
  refine r_iload_n dL_law_217 rfl ?_
  refine r_iconst (v := nI 1) dL_law_218 (by decide) ?_
  refine r_iadd dL_law_219 ?_
  rw [nI_add]
  refine r_taldN dL_law_220 (by omega) ?_
  refine r_v1rq (W_c (X_lift Q_lantern) rfl (Nat.le_of_ble_eq_true rfl)) (Nat.le_of_ble_eq_true rfl) mrX4_lantern lkL_18 rfl rfl rfl dL_law_221 (Nat.le_of_ble_eq_true rfl) (fun h9 _ g9 => ?_)
  obtain ⟨hx, q9, rfl⟩ := g9
  obtain ⟨A, f1, f2, f3, tok, s, b, nu, q9⟩ := q9
  refine r_heq q9.app ?_
  refine r_aload_n dL_law_224 rfl ?_
  refine r_aload_n dL_law_225 rfl ?_
  refine r_iload_n dL_law_226 rfl ?_
  refine r_iconst (v := nI 1) dL_law_227 (by decide) ?_
  refine r_iadd dL_law_228 ?_
  rw [nI_add]
  refine r_taldN dL_law_229 (by omega) ?_
  refine r_v1rq (W_m (Y_lift (K := K) (N_lantern hw.1.1.1 hk)) rfl rfl rfl rfl) (Nat.le_of_ble_eq_true rfl) mrX5_lantern lkL_21 rfl rfl rfl dL_law_230 (Nat.le_of_ble_eq_true rfl) (fun h9 _ g9 => ?_)
  obtain ⟨hy, q8, rfl⟩ := g9
  obtain ⟨ks, ot, as, fl, a, b', v, w, mv, hk, q8⟩ := q8
  refine r_heq (HE.postM q8) ?_
  refine r_icmp_eq 1221 dL_law_233 (by decide) (fun c233 => ?_) (fun c233 => ?_)
  · exact k _ (wG hw (w_lantern hw.1)) A f1 f2 f3 tok s b nu ks ot as fl a b' v w mv hk
  · exact absurd rfl c233
theorem l_bright {X : SX} {i : Nat} {L : GS} (hi : 6 * i + 6 ≤ X.1) (hX9 : X.1 ≤ 3072) (hw : wfG L) (k : ∀ L', wfG L' → LW X 1221 i L') : LW X 238 i L := by
  obtain ⟨⟨R, K, kp, tc⟩, ⟨n, T⟩, Z⟩ := L
  intro A f1 f2 f3 tok s b nu ks ot as fl a b' v w mv hk
  dsimp only at hk ⊢
  have hc8 : cnt R ≤ 8 := hw.1.1.1.1
  refine r_aload_n dL_law_238 rfl ?_
  refine r_aload_n dL_law_239 rfl ?_
  refine r_iload_n dL_law_240 rfl ?_
  refine r_iconst (v := nI 1) dL_law_241 (by decide) ?_
  refine r_iadd dL_law_242 ?_
  rw [nI_add]
  refine r_taldN dL_law_243 (by omega) ?_
  refine r_v1rq (W_c (X_lift Q_bright) rfl (Nat.le_of_ble_eq_true rfl)) (Nat.le_of_ble_eq_true rfl) mrX4_bright lkL_22 rfl rfl rfl dL_law_244 (Nat.le_of_ble_eq_true rfl) (fun h9 _ g9 => ?_)
  obtain ⟨hx, q9, rfl⟩ := g9
  obtain ⟨A, f1, f2, f3, tok, s, b, nu, q9⟩ := q9
  refine r_heq q9.app ?_
  refine r_aload_n dL_law_247 rfl ?_
  refine r_aload_n dL_law_248 rfl ?_
  refine r_iload_n dL_law_249 rfl ?_
  refine r_iconst (v := nI 1) dL_law_250 (by decide) ?_
  refine r_iadd dL_law_251 ?_
  rw [nI_add]
  refine r_taldN dL_law_252 (by omega) ?_
  refine r_v1rq (W_m (Y_lift (K := K) (N_bright hk)) rfl rfl rfl rfl) (Nat.le_of_ble_eq_true rfl) mrX5_bright lkL_25 rfl rfl rfl dL_law_253 (Nat.le_of_ble_eq_true rfl) (fun h9 _ g9 => ?_)
  obtain ⟨hy, q8, rfl⟩ := g9
  obtain ⟨ks, ot, as, fl, a, b', v, w, mv, hk, q8⟩ := q8
  refine r_heq (HE.postM q8) ?_
  refine r_icmp_eq 1221 dL_law_256 (by decide) (fun c256 => ?_) (fun c256 => ?_)
  · exact k _ (wG hw (w_bright hw.1)) A f1 f2 f3 tok s b nu ks ot as fl a b' v w mv hk
  · exact absurd rfl c256
theorem l_now {X : SX} {i : Nat} {L : GS} (hi : 6 * i + 6 ≤ X.1) (hX9 : X.1 ≤ 3072) (hw : wfG L) (k : ∀ L', wfG L' → LW X 1221 i L') : LW X 261 i L := by
  obtain ⟨⟨R, K, kp, tc⟩, ⟨n, T⟩, Z⟩ := L
  intro A f1 f2 f3 tok s b nu ks ot as fl a b' v w mv hk
  dsimp only at hk ⊢
  have hc8 : cnt R ≤ 8 := hw.1.1.1.1
  refine r_aload_n dL_law_261 rfl ?_
  refine r_aload_n dL_law_262 rfl ?_
  refine r_iload_n dL_law_263 rfl ?_
  refine r_iconst (v := nI 1) dL_law_264 (by decide) ?_
  refine r_iadd dL_law_265 ?_
  rw [nI_add]
  refine r_taldN dL_law_266 (by omega) ?_
  refine r_v1rq (W_c (X_lift (Q_now hc8)) rfl (Nat.le_of_ble_eq_true rfl)) (Nat.le_of_ble_eq_true rfl) mrX4_now lkL_26 rfl rfl rfl dL_law_267 (Nat.le_of_ble_eq_true rfl) (fun h9 _ g9 => ?_)
  obtain ⟨hx, q9, rfl⟩ := g9
  obtain ⟨A, f1, f2, f3, tok, s, b, nu, q9⟩ := q9
  refine r_heq q9.app ?_
  refine r_aload_n dL_law_270 rfl ?_
  refine r_aload_n dL_law_271 rfl ?_
  refine r_iload_n dL_law_272 rfl ?_
  refine r_iconst (v := nI 1) dL_law_273 (by decide) ?_
  refine r_iadd dL_law_274 ?_
  rw [nI_add]
  refine r_taldN dL_law_275 (by omega) ?_
  refine r_v1rq (W_m (Y_lift (K := K) (N_now hw.1.1.1 hk)) rfl rfl rfl rfl) (Nat.le_of_ble_eq_true rfl) mrX5_now lkL_29 rfl rfl rfl dL_law_276 (Nat.le_of_ble_eq_true rfl) (fun h9 _ g9 => ?_)
  obtain ⟨hy, q8, rfl⟩ := g9
  obtain ⟨ks, ot, as, fl, a, b', v, w, mv, hk, q8⟩ := q8
  refine r_heq (HE.postM q8) ?_
  refine r_icmp_eq 1221 dL_law_279 (by decide) (fun c279 => ?_) (fun c279 => ?_)
  · exact k _ (wG hw (w_now hw.1)) A f1 f2 f3 tok s b nu ks ot as fl a b' v w mv hk
  · exact absurd rfl c279
theorem l_walker {X : SX} {i : Nat} {L : GS} (hi : 6 * i + 6 ≤ X.1) (hX9 : X.1 ≤ 3072) (hw : wfG L) (k : ∀ L', wfG L' → LW X 1221 i L') : LW X 284 i L := by
  obtain ⟨⟨R, K, kp, tc⟩, ⟨n, T⟩, Z⟩ := L
  intro A f1 f2 f3 tok s b nu ks ot as fl a b' v w mv hk
  dsimp only at hk ⊢
  have hc8 : cnt R ≤ 8 := hw.1.1.1.1
  refine r_aload_n dL_law_284 rfl ?_
  refine r_aload_n dL_law_285 rfl ?_
  refine r_iload_n dL_law_286 rfl ?_
  refine r_iconst (v := nI 1) dL_law_287 (by decide) ?_
  refine r_iadd dL_law_288 ?_
  rw [nI_add]
  refine r_taldN dL_law_289 (by omega) ?_
  refine r_v1rq (W_c (X_lift (Q_walker hc8)) rfl (Nat.le_of_ble_eq_true rfl)) (Nat.le_of_ble_eq_true rfl) mrX4_walker lkL_30 rfl rfl rfl dL_law_290 (Nat.le_of_ble_eq_true rfl) (fun h9 _ g9 => ?_)
  obtain ⟨hx, q9, rfl⟩ := g9
  obtain ⟨A, f1, f2, f3, tok, s, b, nu, q9⟩ := q9
  refine r_heq q9.app ?_
  refine r_aload_n dL_law_293 rfl ?_
  refine r_aload_n dL_law_294 rfl ?_
  refine r_iload_n dL_law_295 rfl ?_
  refine r_iconst (v := nI 1) dL_law_296 (by decide) ?_
  refine r_iadd dL_law_297 ?_
  rw [nI_add]
  refine r_taldN dL_law_298 (by omega) ?_
  refine r_v1rq (W_m (Y_lift (K := K) (N_walker hw.1.1.1 hk)) rfl rfl rfl rfl) (Nat.le_of_ble_eq_true rfl) mrX5_walker lkL_33 rfl rfl rfl dL_law_299 (Nat.le_of_ble_eq_true rfl) (fun h9 _ g9 => ?_)
  obtain ⟨hy, q8, rfl⟩ := g9
  obtain ⟨ks, ot, as, fl, a, b', v, w, mv, hk, q8⟩ := q8
  refine r_heq (HE.postM q8) ?_
  refine r_icmp_eq 1221 dL_law_302 (by decide) (fun c302 => ?_) (fun c302 => ?_)
  · exact k _ (wG hw (w_walker hw.1)) A f1 f2 f3 tok s b nu ks ot as fl a b' v w mv hk
  · exact absurd rfl c302
theorem l_of {X : SX} {i : Nat} {L : GS} (hi : 6 * i + 6 ≤ X.1) (hX9 : X.1 ≤ 3072) (hw : wfG L) (k : ∀ L', wfG L' → LW X 1221 i L') : LW X 307 i L := by
  obtain ⟨⟨R, K, kp, tc⟩, ⟨n, T⟩, Z⟩ := L
  intro A f1 f2 f3 tok s b nu ks ot as fl a b' v w mv hk
  dsimp only at hk ⊢
  have hc8 : cnt R ≤ 8 := hw.1.1.1.1
  refine r_aload_n dL_law_307 rfl ?_
  refine r_aload_n dL_law_308 rfl ?_
  refine r_iload_n dL_law_309 rfl ?_
  refine r_iconst (v := nI 1) dL_law_310 (by decide) ?_
  refine r_iadd dL_law_311 ?_
  rw [nI_add]
  refine r_taldN dL_law_312 (by omega) ?_
  refine r_aload_n dL_law_313 rfl ?_
  refine r_iload_n dL_law_314 rfl ?_
  refine r_iconst (v := nI 2) dL_law_315 (by decide) ?_
  refine r_iadd dL_law_316 ?_
  rw [nI_add]
  refine r_taldN dL_law_317 (by omega) ?_
  refine r_v2rq (W_c (X_lift (Q_of hc8)) rfl (Nat.le_of_ble_eq_true rfl)) (Nat.le_of_ble_eq_true rfl) mrX4_of lkL_34 rfl rfl rfl dL_law_318 (Nat.le_of_ble_eq_true rfl) (fun h9 _ g9 => ?_)
  obtain ⟨hx, q9, rfl⟩ := g9
  obtain ⟨A, f1, f2, f3, tok, s, b, nu, q9⟩ := q9
  refine r_heq q9.app ?_
  refine r_aload_n dL_law_321 rfl ?_
  refine r_aload_n dL_law_322 rfl ?_
  refine r_iload_n dL_law_323 rfl ?_
  refine r_iconst (v := nI 1) dL_law_324 (by decide) ?_
  refine r_iadd dL_law_325 ?_
  rw [nI_add]
  refine r_taldN dL_law_326 (by omega) ?_
  refine r_aload_n dL_law_327 rfl ?_
  refine r_iload_n dL_law_328 rfl ?_
  refine r_iconst (v := nI 2) dL_law_329 (by decide) ?_
  refine r_iadd dL_law_330 ?_
  rw [nI_add]
  refine r_taldN dL_law_331 (by omega) ?_
  refine r_v2rq (W_m (Y_lift (K := K) (N_of hw.1.1.1 hk)) rfl rfl rfl rfl) (Nat.le_of_ble_eq_true rfl) mrX5_of lkL_38 rfl rfl rfl dL_law_332 (Nat.le_of_ble_eq_true rfl) (fun h9 _ g9 => ?_)
  obtain ⟨hy, q8, rfl⟩ := g9
  obtain ⟨ks, ot, as, fl, a, b', v, w, mv, hk, q8⟩ := q8
  refine r_heq (HE.postM q8) ?_
  refine r_icmp_eq 1221 dL_law_335 (by decide) (fun c335 => ?_) (fun c335 => ?_)
  · exact k _ (wG hw (w_of hw.1)) A f1 f2 f3 tok s b nu ks ot as fl a b' v w mv hk
  · exact absurd rfl c335
theorem l_set {X : SX} {i : Nat} {L : GS} (hi : 6 * i + 6 ≤ X.1) (hX9 : X.1 ≤ 3072) (hw : wfG L) (k : ∀ L', wfG L' → LW X 1221 i L') : LW X 340 i L := by
  obtain ⟨⟨R, K, kp, tc⟩, ⟨n, T⟩, Z⟩ := L
  intro A f1 f2 f3 tok s b nu ks ot as fl a b' v w mv hk
  dsimp only at hk ⊢
  have hc8 : cnt R ≤ 8 := hw.1.1.1.1
  refine r_aload_n dL_law_340 rfl ?_
  refine r_aload_n dL_law_341 rfl ?_
  refine r_iload_n dL_law_342 rfl ?_
  refine r_iconst (v := nI 1) dL_law_343 (by decide) ?_
  refine r_iadd dL_law_344 ?_
  rw [nI_add]
  refine r_taldN dL_law_345 (by omega) ?_
  refine r_aload_n dL_law_346 rfl ?_
  refine r_iload_n dL_law_347 rfl ?_
  refine r_iconst (v := nI 2) dL_law_348 (by decide) ?_
  refine r_iadd dL_law_349 ?_
  rw [nI_add]
  refine r_taldN dL_law_350 (by omega) ?_
  refine r_aload_n dL_law_351 rfl ?_
  refine r_iload_n dL_law_352 rfl ?_
  refine r_iconst (v := nI 3) dL_law_353 (by decide) ?_
  refine r_iadd dL_law_354 ?_
  rw [nI_add]
  refine r_taldN dL_law_355 (by omega) ?_
  refine r_v3rq (W_c (X_lift (Q_set hc8)) rfl (Nat.le_of_ble_eq_true rfl)) (Nat.le_of_ble_eq_true rfl) mrX4_set lkL_39 rfl rfl rfl dL_law_356 (Nat.le_of_ble_eq_true rfl) (fun h9 _ g9 => ?_)
  obtain ⟨hx, q9, rfl⟩ := g9
  obtain ⟨A, f1, f2, f3, tok, s, b, nu, q9⟩ := q9
  refine r_heq q9.app ?_
  refine r_aload_n dL_law_359 rfl ?_
  refine r_aload_n dL_law_360 rfl ?_
  refine r_iload_n dL_law_361 rfl ?_
  refine r_iconst (v := nI 1) dL_law_362 (by decide) ?_
  refine r_iadd dL_law_363 ?_
  rw [nI_add]
  refine r_taldN dL_law_364 (by omega) ?_
  refine r_aload_n dL_law_365 rfl ?_
  refine r_iload_n dL_law_366 rfl ?_
  refine r_iconst (v := nI 2) dL_law_367 (by decide) ?_
  refine r_iadd dL_law_368 ?_
  rw [nI_add]
  refine r_taldN dL_law_369 (by omega) ?_
  refine r_aload_n dL_law_370 rfl ?_
  refine r_iload_n dL_law_371 rfl ?_
  refine r_iconst (v := nI 3) dL_law_372 (by decide) ?_
  refine r_iadd dL_law_373 ?_
  rw [nI_add]
  refine r_taldN dL_law_374 (by omega) ?_
  refine r_v3rq (W_m (Y_lift (K := K) (N_set hw.1.1.1 hk)) rfl rfl rfl rfl) (Nat.le_of_ble_eq_true rfl) mrX5_set lkL_43 rfl rfl rfl dL_law_375 (Nat.le_of_ble_eq_true rfl) (fun h9 _ g9 => ?_)
  obtain ⟨hy, q8, rfl⟩ := g9
  obtain ⟨ks, ot, as, fl, a, b', v, w, mv, hk, q8⟩ := q8
  refine r_heq (HE.postM q8) ?_
  refine r_icmp_eq 1221 dL_law_378 (by decide) (fun c378 => ?_) (fun c378 => ?_)
  · exact k _ (wG hw (w_set hw.1)) A f1 f2 f3 tok s b nu ks ot as fl a b' v w mv hk
  · exact absurd rfl c378
theorem l_swap {X : SX} {i : Nat} {L : GS} (hi : 6 * i + 6 ≤ X.1) (hX9 : X.1 ≤ 3072) (hw : wfG L) (k : ∀ L', wfG L' → LW X 1221 i L') : LW X 383 i L := by
  obtain ⟨⟨R, K, kp, tc⟩, ⟨n, T⟩, Z⟩ := L
  intro A f1 f2 f3 tok s b nu ks ot as fl a b' v w mv hk
  dsimp only at hk ⊢
  have hc8 : cnt R ≤ 8 := hw.1.1.1.1
  refine r_aload_n dL_law_383 rfl ?_
  refine r_aload_n dL_law_384 rfl ?_
  refine r_iload_n dL_law_385 rfl ?_
  refine r_iconst (v := nI 1) dL_law_386 (by decide) ?_
  refine r_iadd dL_law_387 ?_
  rw [nI_add]
  refine r_taldN dL_law_388 (by omega) ?_
  refine r_aload_n dL_law_389 rfl ?_
  refine r_iload_n dL_law_390 rfl ?_
  refine r_iconst (v := nI 2) dL_law_391 (by decide) ?_
  refine r_iadd dL_law_392 ?_
  rw [nI_add]
  refine r_taldN dL_law_393 (by omega) ?_
  refine r_v2rq (W_c (X_lift (Q_swap hc8)) rfl (Nat.le_of_ble_eq_true rfl)) (Nat.le_of_ble_eq_true rfl) mrX4_swap lkL_44 rfl rfl rfl dL_law_394 (Nat.le_of_ble_eq_true rfl) (fun h9 _ g9 => ?_)
  obtain ⟨hx, q9, rfl⟩ := g9
  obtain ⟨A, f1, f2, f3, tok, s, b, nu, q9⟩ := q9
  refine r_heq q9.app ?_
  refine r_aload_n dL_law_397 rfl ?_
  refine r_aload_n dL_law_398 rfl ?_
  refine r_iload_n dL_law_399 rfl ?_
  refine r_iconst (v := nI 1) dL_law_400 (by decide) ?_
  refine r_iadd dL_law_401 ?_
  rw [nI_add]
  refine r_taldN dL_law_402 (by omega) ?_
  refine r_aload_n dL_law_403 rfl ?_
  refine r_iload_n dL_law_404 rfl ?_
  refine r_iconst (v := nI 2) dL_law_405 (by decide) ?_
  refine r_iadd dL_law_406 ?_
  rw [nI_add]
  refine r_taldN dL_law_407 (by omega) ?_
  refine r_v2rq (W_m (Y_lift (K := K) (N_swap hw.1.1.1 hk)) rfl rfl rfl rfl) (Nat.le_of_ble_eq_true rfl) mrX5_swap lkL_47 rfl rfl rfl dL_law_408 (Nat.le_of_ble_eq_true rfl) (fun h9 _ g9 => ?_)
  obtain ⟨hy, q8, rfl⟩ := g9
  obtain ⟨ks, ot, as, fl, a, b', v, w, mv, hk, q8⟩ := q8
  refine r_heq (HE.postM q8) ?_
  refine r_icmp_eq 1221 dL_law_411 (by decide) (fun c411 => ?_) (fun c411 => ?_)
  · exact k _ (wG hw (w_swap hw.1)) A f1 f2 f3 tok s b nu ks ot as fl a b' v w mv hk
  · exact absurd rfl c411
theorem l_turn {X : SX} {i : Nat} {L : GS} (hi : 6 * i + 6 ≤ X.1) (hX9 : X.1 ≤ 3072) (hw : wfG L) (k : ∀ L', wfG L' → LW X 1221 i L') : LW X 416 i L := by
  obtain ⟨⟨R, K, kp, tc⟩, ⟨n, T⟩, Z⟩ := L
  intro A f1 f2 f3 tok s b nu ks ot as fl a b' v w mv hk
  dsimp only at hk ⊢
  have hc8 : cnt R ≤ 8 := hw.1.1.1.1
  refine r_aload_n dL_law_416 rfl ?_
  refine r_aload_n dL_law_417 rfl ?_
  refine r_iload_n dL_law_418 rfl ?_
  refine r_iconst (v := nI 1) dL_law_419 (by decide) ?_
  refine r_iadd dL_law_420 ?_
  rw [nI_add]
  refine r_taldN dL_law_421 (by omega) ?_
  refine r_aload_n dL_law_422 rfl ?_
  refine r_iload_n dL_law_423 rfl ?_
  refine r_iconst (v := nI 2) dL_law_424 (by decide) ?_
  refine r_iadd dL_law_425 ?_
  rw [nI_add]
  refine r_taldN dL_law_426 (by omega) ?_
  refine r_v2rq (W_c (X_lift (Q_turn hc8)) rfl (Nat.le_of_ble_eq_true rfl)) (Nat.le_of_ble_eq_true rfl) mrX4_turn lkL_48 rfl rfl rfl dL_law_427 (Nat.le_of_ble_eq_true rfl) (fun h9 _ g9 => ?_)
  obtain ⟨hx, q9, rfl⟩ := g9
  obtain ⟨A, f1, f2, f3, tok, s, b, nu, q9⟩ := q9
  refine r_heq q9.app ?_
  refine r_aload_n dL_law_430 rfl ?_
  refine r_aload_n dL_law_431 rfl ?_
  refine r_iload_n dL_law_432 rfl ?_
  refine r_iconst (v := nI 1) dL_law_433 (by decide) ?_
  refine r_iadd dL_law_434 ?_
  rw [nI_add]
  refine r_taldN dL_law_435 (by omega) ?_
  refine r_aload_n dL_law_436 rfl ?_
  refine r_iload_n dL_law_437 rfl ?_
  refine r_iconst (v := nI 2) dL_law_438 (by decide) ?_
  refine r_iadd dL_law_439 ?_
  rw [nI_add]
  refine r_taldN dL_law_440 (by omega) ?_
  refine r_v2rq (W_m (Y_lift (K := K) (N_turn hw.1.1.1 hk)) rfl rfl rfl rfl) (Nat.le_of_ble_eq_true rfl) mrX5_turn lkL_51 rfl rfl rfl dL_law_441 (Nat.le_of_ble_eq_true rfl) (fun h9 _ g9 => ?_)
  obtain ⟨hy, q8, rfl⟩ := g9
  obtain ⟨ks, ot, as, fl, a, b', v, w, mv, hk, q8⟩ := q8
  refine r_heq (HE.postM q8) ?_
  refine r_icmp_eq 1221 dL_law_444 (by decide) (fun c444 => ?_) (fun c444 => ?_)
  · exact k _ (wG hw (w_turn hw.1)) A f1 f2 f3 tok s b nu ks ot as fl a b' v w mv hk
  · exact absurd rfl c444
theorem l_as {X : SX} {i : Nat} {L : GS} (hi : 6 * i + 6 ≤ X.1) (hX9 : X.1 ≤ 3072) (hw : wfG L) (k : ∀ L', wfG L' → LW X 1221 i L') : LW X 449 i L := by
  obtain ⟨⟨R, K, kp, tc⟩, ⟨n, T⟩, Z⟩ := L
  intro A f1 f2 f3 tok s b nu ks ot as fl a b' v w mv hk
  dsimp only at hk ⊢
  have hc8 : cnt R ≤ 8 := hw.1.1.1.1
  refine r_aload_n dL_law_449 rfl ?_
  refine r_aload_n dL_law_450 rfl ?_
  refine r_iload_n dL_law_451 rfl ?_
  refine r_iconst (v := nI 1) dL_law_452 (by decide) ?_
  refine r_iadd dL_law_453 ?_
  rw [nI_add]
  refine r_taldN dL_law_454 (by omega) ?_
  refine r_aload_n dL_law_455 rfl ?_
  refine r_iload_n dL_law_456 rfl ?_
  refine r_iconst (v := nI 2) dL_law_457 (by decide) ?_
  refine r_iadd dL_law_458 ?_
  rw [nI_add]
  refine r_taldN dL_law_459 (by omega) ?_
  refine r_v2rq (W_c (X_lift (Q_as hc8 (fun p hp => hw.1.1.1.2.2.2.2.2 p (by omega)))) rfl (Nat.le_of_ble_eq_true rfl)) (Nat.le_of_ble_eq_true rfl) mrX4_as lkL_52 rfl rfl rfl dL_law_460 (Nat.le_of_ble_eq_true rfl) (fun h9 _ g9 => ?_)
  obtain ⟨hx, q9, rfl⟩ := g9
  obtain ⟨A, f1, f2, f3, tok, s, b, nu, q9⟩ := q9
  refine r_heq q9.app ?_
  refine r_aload_n dL_law_463 rfl ?_
  refine r_aload_n dL_law_464 rfl ?_
  refine r_iload_n dL_law_465 rfl ?_
  refine r_iconst (v := nI 1) dL_law_466 (by decide) ?_
  refine r_iadd dL_law_467 ?_
  rw [nI_add]
  refine r_taldN dL_law_468 (by omega) ?_
  refine r_aload_n dL_law_469 rfl ?_
  refine r_iload_n dL_law_470 rfl ?_
  refine r_iconst (v := nI 2) dL_law_471 (by decide) ?_
  refine r_iadd dL_law_472 ?_
  rw [nI_add]
  refine r_taldN dL_law_473 (by omega) ?_
  refine r_v2rq (W_m (Y_lift (K := K) (N_as hw.1.1.1 hk)) rfl rfl rfl rfl) (Nat.le_of_ble_eq_true rfl) mrX5_as lkL_55 rfl rfl rfl dL_law_474 (Nat.le_of_ble_eq_true rfl) (fun h9 _ g9 => ?_)
  obtain ⟨hy, q8, rfl⟩ := g9
  obtain ⟨ks, ot, as, fl, a, b', v, w, mv, hk, q8⟩ := q8
  refine r_heq (HE.postM q8) ?_
  refine r_icmp_eq 1221 dL_law_477 (by decide) (fun c477 => ?_) (fun c477 => ?_)
  · exact k _ (wG hw (w_as hw.1)) A f1 f2 f3 tok s b nu ks ot as fl a b' v w mv hk
  · exact absurd rfl c477
theorem l_steps {X : SX} {i : Nat} {L : GS} (hi : 6 * i + 6 ≤ X.1) (hX9 : X.1 ≤ 3072) (hw : wfG L) (k : ∀ L', wfG L' → LW X 1221 i L') : LW X 482 i L := by
  obtain ⟨⟨R, K, kp, tc⟩, ⟨n, T⟩, Z⟩ := L
  intro A f1 f2 f3 tok s b nu ks ot as fl a b' v w mv hk
  dsimp only at hk ⊢
  have hc8 : cnt R ≤ 8 := hw.1.1.1.1
  refine r_aload_n dL_law_482 rfl ?_
  refine r_aload_n dL_law_483 rfl ?_
  refine r_iload_n dL_law_484 rfl ?_
  refine r_iconst (v := nI 1) dL_law_485 (by decide) ?_
  refine r_iadd dL_law_486 ?_
  rw [nI_add]
  refine r_taldN dL_law_487 (by omega) ?_
  refine r_v1rq (W_c (X_lift (Q_steps hc8)) rfl (Nat.le_of_ble_eq_true rfl)) (Nat.le_of_ble_eq_true rfl) mrX4_steps lkL_56 rfl rfl rfl dL_law_488 (Nat.le_of_ble_eq_true rfl) (fun h9 _ g9 => ?_)
  obtain ⟨hx, q9, rfl⟩ := g9
  obtain ⟨A, f1, f2, f3, tok, s, b, nu, q9⟩ := q9
  refine r_heq q9.app ?_
  refine r_aload_n dL_law_491 rfl ?_
  refine r_aload_n dL_law_492 rfl ?_
  refine r_iload_n dL_law_493 rfl ?_
  refine r_iconst (v := nI 1) dL_law_494 (by decide) ?_
  refine r_iadd dL_law_495 ?_
  rw [nI_add]
  refine r_taldN dL_law_496 (by omega) ?_
  refine r_v1rq (W_m (Y_lift (K := K) (N_steps hw.1.1.1 hw.1.1.2.1 hk)) rfl rfl rfl rfl) (Nat.le_of_ble_eq_true rfl) mrX5_steps lkL_59 rfl rfl rfl dL_law_497 (Nat.le_of_ble_eq_true rfl) (fun h9 _ g9 => ?_)
  obtain ⟨hy, q8, rfl⟩ := g9
  obtain ⟨ks, ot, as, fl, a, b', v, w, mv, hk, q8⟩ := q8
  refine r_heq (HE.postM q8) ?_
  refine r_icmp_eq 1221 dL_law_500 (by decide) (fun c500 => ?_) (fun c500 => ?_)
  · exact k _ (wG hw (w_steps hw.1)) A f1 f2 f3 tok s b nu ks ot as fl a b' v w mv hk
  · exact absurd rfl c500
theorem l_on {X : SX} {i : Nat} {L : GS} (hi : 6 * i + 6 ≤ X.1) (hX9 : X.1 ≤ 3072) (hw : wfG L) (k : ∀ L', wfG L' → LW X 1221 i L') : LW X 505 i L := by
  obtain ⟨⟨R, K, kp, tc⟩, ⟨n, T⟩, Z⟩ := L
  intro A f1 f2 f3 tok s b nu ks ot as fl a b' v w mv hk
  dsimp only at hk ⊢
  have hc8 : cnt R ≤ 8 := hw.1.1.1.1
  refine r_aload_n dL_law_505 rfl ?_
  refine r_aload_n dL_law_506 rfl ?_
  refine r_iload_n dL_law_507 rfl ?_
  refine r_iconst (v := nI 1) dL_law_508 (by decide) ?_
  refine r_iadd dL_law_509 ?_
  rw [nI_add]
  refine r_taldN dL_law_510 (by omega) ?_
  refine r_aload_n dL_law_511 rfl ?_
  refine r_iload_n dL_law_512 rfl ?_
  refine r_iconst (v := nI 2) dL_law_513 (by decide) ?_
  refine r_iadd dL_law_514 ?_
  rw [nI_add]
  refine r_taldN dL_law_515 (by omega) ?_
  refine r_aload_n dL_law_516 rfl ?_
  refine r_iload_n dL_law_517 rfl ?_
  refine r_iconst (v := nI 3) dL_law_518 (by decide) ?_
  refine r_iadd dL_law_519 ?_
  rw [nI_add]
  refine r_taldN dL_law_520 (by omega) ?_
  refine r_v3rq (W_c (X_lift (Q_on hc8)) rfl (Nat.le_of_ble_eq_true rfl)) (Nat.le_of_ble_eq_true rfl) mrX4_on lkL_60 rfl rfl rfl dL_law_521 (Nat.le_of_ble_eq_true rfl) (fun h9 _ g9 => ?_)
  obtain ⟨hx, q9, rfl⟩ := g9
  obtain ⟨A, f1, f2, f3, tok, s, b, nu, q9⟩ := q9
  refine r_heq q9.app ?_
  refine r_aload_n dL_law_524 rfl ?_
  refine r_aload_n dL_law_525 rfl ?_
  refine r_iload_n dL_law_526 rfl ?_
  refine r_iconst (v := nI 1) dL_law_527 (by decide) ?_
  refine r_iadd dL_law_528 ?_
  rw [nI_add]
  refine r_taldN dL_law_529 (by omega) ?_
  refine r_aload_n dL_law_530 rfl ?_
  refine r_iload_n dL_law_531 rfl ?_
  refine r_iconst (v := nI 2) dL_law_532 (by decide) ?_
  refine r_iadd dL_law_533 ?_
  rw [nI_add]
  refine r_taldN dL_law_534 (by omega) ?_
  refine r_aload_n dL_law_535 rfl ?_
  refine r_iload_n dL_law_536 rfl ?_
  refine r_iconst (v := nI 3) dL_law_537 (by decide) ?_
  refine r_iadd dL_law_538 ?_
  rw [nI_add]
  refine r_taldN dL_law_539 (by omega) ?_
  refine r_v3rq (W_m (Y_lift (K := K) (N_on hw.1.1.1 hk)) rfl rfl rfl rfl) (Nat.le_of_ble_eq_true rfl) mrX5_on lkL_63 rfl rfl rfl dL_law_540 (Nat.le_of_ble_eq_true rfl) (fun h9 _ g9 => ?_)
  obtain ⟨hy, q8, rfl⟩ := g9
  obtain ⟨ks, ot, as, fl, a, b', v, w, mv, hk, q8⟩ := q8
  refine r_heq (HE.postM q8) ?_
  refine r_icmp_eq 1221 dL_law_543 (by decide) (fun c543 => ?_) (fun c543 => ?_)
  · exact k _ (wG hw (w_on hw.1)) A f1 f2 f3 tok s b nu ks ot as fl a b' v w mv hk
  · exact absurd rfl c543
theorem l_falls {X : SX} {i : Nat} {L : GS} (hi : 6 * i + 6 ≤ X.1) (hX9 : X.1 ≤ 3072) (hw : wfG L) (k : ∀ L', wfG L' → LW X 1221 i L') : LW X 548 i L := by
  obtain ⟨⟨R, K, kp, tc⟩, ⟨n, T⟩, Z⟩ := L
  intro A f1 f2 f3 tok s b nu ks ot as fl a b' v w mv hk
  dsimp only at hk ⊢
  have hc8 : cnt R ≤ 8 := hw.1.1.1.1
  refine r_aload_n dL_law_548 rfl ?_
  refine r_aload_n dL_law_549 rfl ?_
  refine r_iload_n dL_law_550 rfl ?_
  refine r_iconst (v := nI 1) dL_law_551 (by decide) ?_
  refine r_iadd dL_law_552 ?_
  rw [nI_add]
  refine r_taldN dL_law_553 (by omega) ?_
  refine r_v1rq (W_c (X_lift (Q_falls hc8)) rfl (Nat.le_of_ble_eq_true rfl)) (Nat.le_of_ble_eq_true rfl) mrX4_falls lkL_64 rfl rfl rfl dL_law_554 (Nat.le_of_ble_eq_true rfl) (fun h9 _ g9 => ?_)
  obtain ⟨hx, q9, rfl⟩ := g9
  obtain ⟨A, f1, f2, f3, tok, s, b, nu, q9⟩ := q9
  refine r_heq q9.app ?_
  refine r_aload_n dL_law_557 rfl ?_
  refine r_aload_n dL_law_558 rfl ?_
  refine r_iload_n dL_law_559 rfl ?_
  refine r_iconst (v := nI 1) dL_law_560 (by decide) ?_
  refine r_iadd dL_law_561 ?_
  rw [nI_add]
  refine r_taldN dL_law_562 (by omega) ?_
  refine r_v1rq (W_m (Y_lift (K := K) (N_falls hw.1.1.1 hk)) rfl rfl rfl rfl) (Nat.le_of_ble_eq_true rfl) mrX5_falls lkL_67 rfl rfl rfl dL_law_563 (Nat.le_of_ble_eq_true rfl) (fun h9 _ g9 => ?_)
  obtain ⟨hy, q8, rfl⟩ := g9
  obtain ⟨ks, ot, as, fl, a, b', v, w, mv, hk, q8⟩ := q8
  refine r_heq (HE.postM q8) ?_
  refine r_icmp_eq 1221 dL_law_566 (by decide) (fun c566 => ?_) (fun c566 => ?_)
  · exact k _ (wG hw (w_falls hw.1)) A f1 f2 f3 tok s b nu ks ot as fl a b' v w mv hk
  · exact absurd rfl c566
theorem l_trips {X : SX} {i : Nat} {L : GS} (hi : 6 * i + 6 ≤ X.1) (hX9 : X.1 ≤ 3072) (hw : wfG L) (k : ∀ L', wfG L' → LW X 1221 i L') : LW X 571 i L := by
  obtain ⟨⟨R, K, kp, tc⟩, ⟨n, T⟩, Z⟩ := L
  intro A f1 f2 f3 tok s b nu ks ot as fl a b' v w mv hk
  dsimp only at hk ⊢
  have hc8 : cnt R ≤ 8 := hw.1.1.1.1
  refine r_aload_n dL_law_571 rfl ?_
  refine r_aload_n dL_law_572 rfl ?_
  refine r_iload_n dL_law_573 rfl ?_
  refine r_iconst (v := nI 1) dL_law_574 (by decide) ?_
  refine r_iadd dL_law_575 ?_
  rw [nI_add]
  refine r_taldN dL_law_576 (by omega) ?_
  refine r_v1rq (W_c (X_lift (Q_trips hc8)) rfl (Nat.le_of_ble_eq_true rfl)) (Nat.le_of_ble_eq_true rfl) mrX4_trips lkL_68 rfl rfl rfl dL_law_577 (Nat.le_of_ble_eq_true rfl) (fun h9 _ g9 => ?_)
  obtain ⟨hx, q9, rfl⟩ := g9
  obtain ⟨A, f1, f2, f3, tok, s, b, nu, q9⟩ := q9
  refine r_heq q9.app ?_
  refine r_aload_n dL_law_580 rfl ?_
  refine r_aload_n dL_law_581 rfl ?_
  refine r_iload_n dL_law_582 rfl ?_
  refine r_iconst (v := nI 1) dL_law_583 (by decide) ?_
  refine r_iadd dL_law_584 ?_
  rw [nI_add]
  refine r_taldN dL_law_585 (by omega) ?_
  refine r_v1rq (W_m (Y_lift (K := K) (N_trips hw.1.1.1 hk)) rfl rfl rfl rfl) (Nat.le_of_ble_eq_true rfl) mrX5_trips lkL_71 rfl rfl rfl dL_law_586 (Nat.le_of_ble_eq_true rfl) (fun h9 _ g9 => ?_)
  obtain ⟨hy, q8, rfl⟩ := g9
  obtain ⟨ks, ot, as, fl, a, b', v, w, mv, hk, q8⟩ := q8
  refine r_heq (HE.postM q8) ?_
  refine r_icmp_eq 1221 dL_law_589 (by decide) (fun c589 => ?_) (fun c589 => ?_)
  · exact k _ (wG hw (w_trips hw.1)) A f1 f2 f3 tok s b nu ks ot as fl a b' v w mv hk
  · exact absurd rfl c589
theorem l_hears {X : SX} {i : Nat} {L : GS} (hi : 6 * i + 6 ≤ X.1) (hX9 : X.1 ≤ 3072) (hw : wfG L) (k : ∀ L', wfG L' → LW X 1221 i L') : LW X 594 i L := by
  obtain ⟨⟨R, K, kp, tc⟩, ⟨n, T⟩, Z⟩ := L
  intro A f1 f2 f3 tok s b nu ks ot as fl a b' v w mv hk
  dsimp only at hk ⊢
  have hc8 : cnt R ≤ 8 := hw.1.1.1.1
  refine r_aload_n dL_law_594 rfl ?_
  refine r_aload_n dL_law_595 rfl ?_
  refine r_iload_n dL_law_596 rfl ?_
  refine r_iconst (v := nI 1) dL_law_597 (by decide) ?_
  refine r_iadd dL_law_598 ?_
  rw [nI_add]
  refine r_taldN dL_law_599 (by omega) ?_
  refine r_v1rq (W_c (X_lift (Q_hears hc8)) rfl (Nat.le_of_ble_eq_true rfl)) (Nat.le_of_ble_eq_true rfl) mrX4_hears lkL_72 rfl rfl rfl dL_law_600 (Nat.le_of_ble_eq_true rfl) (fun h9 _ g9 => ?_)
  obtain ⟨hx, q9, rfl⟩ := g9
  obtain ⟨A, f1, f2, f3, tok, s, b, nu, q9⟩ := q9
  refine r_heq q9.app ?_
  refine r_aload_n dL_law_603 rfl ?_
  refine r_aload_n dL_law_604 rfl ?_
  refine r_iload_n dL_law_605 rfl ?_
  refine r_iconst (v := nI 1) dL_law_606 (by decide) ?_
  refine r_iadd dL_law_607 ?_
  rw [nI_add]
  refine r_taldN dL_law_608 (by omega) ?_
  refine r_v1rq (W_m (Y_lift (K := K) (N_hears hw.1.1.1 hk)) rfl rfl rfl rfl) (Nat.le_of_ble_eq_true rfl) mrX5_hears lkL_75 rfl rfl rfl dL_law_609 (Nat.le_of_ble_eq_true rfl) (fun h9 _ g9 => ?_)
  obtain ⟨hy, q8, rfl⟩ := g9
  obtain ⟨ks, ot, as, fl, a, b', v, w, mv, hk, q8⟩ := q8
  refine r_heq (HE.postM q8) ?_
  refine r_icmp_eq 1221 dL_law_612 (by decide) (fun c612 => ?_) (fun c612 => ?_)
  · exact k _ (wG hw (w_hears hw.1)) A f1 f2 f3 tok s b nu ks ot as fl a b' v w mv hk
  · exact absurd rfl c612
theorem l_carry {X : SX} {i : Nat} {L : GS} (hi : 6 * i + 6 ≤ X.1) (hX9 : X.1 ≤ 3072) (hw : wfG L) (k : ∀ L', wfG L' → LW X 1221 i L') : LW X 617 i L := by
  obtain ⟨⟨R, K, kp, tc⟩, ⟨n, T⟩, Z⟩ := L
  intro A f1 f2 f3 tok s b nu ks ot as fl a b' v w mv hk
  dsimp only at hk ⊢
  have hc8 : cnt R ≤ 8 := hw.1.1.1.1
  refine r_aload_n dL_law_617 rfl ?_
  refine r_aload_n dL_law_618 rfl ?_
  refine r_iload_n dL_law_619 rfl ?_
  refine r_iconst (v := nI 1) dL_law_620 (by decide) ?_
  refine r_iadd dL_law_621 ?_
  rw [nI_add]
  refine r_taldN dL_law_622 (by omega) ?_
  refine r_v1rq (W_c (X_lift (Q_carry hc8)) rfl (Nat.le_of_ble_eq_true rfl)) (Nat.le_of_ble_eq_true rfl) mrX4_carry lkL_76 rfl rfl rfl dL_law_623 (Nat.le_of_ble_eq_true rfl) (fun h9 _ g9 => ?_)
  obtain ⟨hx, q9, rfl⟩ := g9
  obtain ⟨A, f1, f2, f3, tok, s, b, nu, q9⟩ := q9
  refine r_heq q9.app ?_
  refine r_aload_n dL_law_626 rfl ?_
  refine r_aload_n dL_law_627 rfl ?_
  refine r_iload_n dL_law_628 rfl ?_
  refine r_iconst (v := nI 1) dL_law_629 (by decide) ?_
  refine r_iadd dL_law_630 ?_
  rw [nI_add]
  refine r_taldN dL_law_631 (by omega) ?_
  refine r_v1rq (W_m (Y_lift (K := K) (N_carry hw.1.1.1 hk)) rfl rfl rfl rfl) (Nat.le_of_ble_eq_true rfl) mrX5_carry lkL_79 rfl rfl rfl dL_law_632 (Nat.le_of_ble_eq_true rfl) (fun h9 _ g9 => ?_)
  obtain ⟨hy, q8, rfl⟩ := g9
  obtain ⟨ks, ot, as, fl, a, b', v, w, mv, hk, q8⟩ := q8
  refine r_heq (HE.postM q8) ?_
  refine r_icmp_eq 1221 dL_law_635 (by decide) (fun c635 => ?_) (fun c635 => ?_)
  · exact k _ (wG hw (w_carry hw.1)) A f1 f2 f3 tok s b nu ks ot as fl a b' v w mv hk
  · exact absurd rfl c635
theorem l_order {X : SX} {i : Nat} {L : GS} (hi : 6 * i + 6 ≤ X.1) (hX9 : X.1 ≤ 3072) (hw : wfG L) (k : ∀ L', wfG L' → LW X 1221 i L') : LW X 640 i L := by
  obtain ⟨⟨R, K, kp, tc⟩, ⟨n, T⟩, Z⟩ := L
  intro A f1 f2 f3 tok s b nu ks ot as fl a b' v w mv hk
  dsimp only at hk ⊢
  have hc8 : cnt R ≤ 8 := hw.1.1.1.1
  refine r_aload_n dL_law_640 rfl ?_
  refine r_aload_n dL_law_641 rfl ?_
  refine r_iload_n dL_law_642 rfl ?_
  refine r_iconst (v := nI 1) dL_law_643 (by decide) ?_
  refine r_iadd dL_law_644 ?_
  rw [nI_add]
  refine r_taldN dL_law_645 (by omega) ?_
  refine r_v1rq (W_c (X_lift (Q_order hc8)) rfl (Nat.le_of_ble_eq_true rfl)) (Nat.le_of_ble_eq_true rfl) mrX4_order lkL_80 rfl rfl rfl dL_law_646 (Nat.le_of_ble_eq_true rfl) (fun h9 _ g9 => ?_)
  obtain ⟨hx, q9, rfl⟩ := g9
  obtain ⟨A, f1, f2, f3, tok, s, b, nu, q9⟩ := q9
  refine r_heq q9.app ?_
  refine r_aload_n dL_law_649 rfl ?_
  refine r_aload_n dL_law_650 rfl ?_
  refine r_iload_n dL_law_651 rfl ?_
  refine r_iconst (v := nI 1) dL_law_652 (by decide) ?_
  refine r_iadd dL_law_653 ?_
  rw [nI_add]
  refine r_taldN dL_law_654 (by omega) ?_
  refine r_v1rq (W_m (Y_lift (K := K) (N_order hw.1.1.1 hk)) rfl rfl rfl rfl) (Nat.le_of_ble_eq_true rfl) mrX5_order lkL_83 rfl rfl rfl dL_law_655 (Nat.le_of_ble_eq_true rfl) (fun h9 _ g9 => ?_)
  obtain ⟨hy, q8, rfl⟩ := g9
  obtain ⟨ks, ot, as, fl, a, b', v, w, mv, hk, q8⟩ := q8
  refine r_heq (HE.postM q8) ?_
  refine r_icmp_eq 1221 dL_law_658 (by decide) (fun c658 => ?_) (fun c658 => ?_)
  · exact k _ (wG hw (w_order hw.1)) A f1 f2 f3 tok s b nu ks ot as fl a b' v w mv hk
  · exact absurd rfl c658
theorem l_kind {X : SX} {i : Nat} {L : GS} (hi : 6 * i + 6 ≤ X.1) (hX9 : X.1 ≤ 3072) (hw : wfG L) (k : ∀ L', wfG L' → LW X 1221 i L') : LW X 663 i L := by
  obtain ⟨⟨R, K, kp, tc⟩, ⟨n, T⟩, Z⟩ := L
  intro A f1 f2 f3 tok s b nu ks ot as fl a b' v w mv hk
  dsimp only at hk ⊢
  have hc8 : cnt R ≤ 8 := hw.1.1.1.1
  refine r_aload_n dL_law_663 rfl ?_
  refine r_aload_n dL_law_664 rfl ?_
  refine r_iload_n dL_law_665 rfl ?_
  refine r_iconst (v := nI 1) dL_law_666 (by decide) ?_
  refine r_iadd dL_law_667 ?_
  rw [nI_add]
  refine r_taldN dL_law_668 (by omega) ?_
  refine r_aload_n dL_law_669 rfl ?_
  refine r_iload_n dL_law_670 rfl ?_
  refine r_iconst (v := nI 2) dL_law_671 (by decide) ?_
  refine r_iadd dL_law_672 ?_
  rw [nI_add]
  refine r_taldN dL_law_673 (by omega) ?_
  refine r_v2rq (W_c (X_lift (Q_kind hc8)) rfl (Nat.le_of_ble_eq_true rfl)) (Nat.le_of_ble_eq_true rfl) mrX4_kind lkL_84 rfl rfl rfl dL_law_674 (Nat.le_of_ble_eq_true rfl) (fun h9 _ g9 => ?_)
  obtain ⟨hx, q9, rfl⟩ := g9
  obtain ⟨A, f1, f2, f3, tok, s, b, nu, q9⟩ := q9
  refine r_heq q9.app ?_
  refine r_aload_n dL_law_677 rfl ?_
  refine r_aload_n dL_law_678 rfl ?_
  refine r_iload_n dL_law_679 rfl ?_
  refine r_iconst (v := nI 1) dL_law_680 (by decide) ?_
  refine r_iadd dL_law_681 ?_
  rw [nI_add]
  refine r_taldN dL_law_682 (by omega) ?_
  refine r_aload_n dL_law_683 rfl ?_
  refine r_iload_n dL_law_684 rfl ?_
  refine r_iconst (v := nI 2) dL_law_685 (by decide) ?_
  refine r_iadd dL_law_686 ?_
  rw [nI_add]
  refine r_taldN dL_law_687 (by omega) ?_
  refine r_v2rq (W_m (Y_lift (K := K) (N_kind hw.1.1.1 hk)) rfl rfl rfl rfl) (Nat.le_of_ble_eq_true rfl) mrX5_kind lkL_87 rfl rfl rfl dL_law_688 (Nat.le_of_ble_eq_true rfl) (fun h9 _ g9 => ?_)
  obtain ⟨hy, q8, rfl⟩ := g9
  obtain ⟨ks, ot, as, fl, a, b', v, w, mv, hk, q8⟩ := q8
  refine r_heq (HE.postM q8) ?_
  refine r_icmp_eq 1221 dL_law_691 (by decide) (fun c691 => ?_) (fun c691 => ?_)
  · exact k _ (wG hw (w_kind hw.1)) A f1 f2 f3 tok s b nu ks ot as fl a b' v w mv hk
  · exact absurd rfl c691
theorem l_least {X : SX} {i : Nat} {L : GS} (hi : 6 * i + 6 ≤ X.1) (hX9 : X.1 ≤ 3072) (hw : wfG L) (k : ∀ L', wfG L' → LW X 1221 i L') : LW X 696 i L := by
  obtain ⟨⟨R, K, kp, tc⟩, ⟨n, T⟩, Z⟩ := L
  intro A f1 f2 f3 tok s b nu ks ot as fl a b' v w mv hk
  dsimp only at hk ⊢
  have hc8 : cnt R ≤ 8 := hw.1.1.1.1
  refine r_aload_n dL_law_696 rfl ?_
  refine r_aload_n dL_law_697 rfl ?_
  refine r_iload_n dL_law_698 rfl ?_
  refine r_iconst (v := nI 1) dL_law_699 (by decide) ?_
  refine r_iadd dL_law_700 ?_
  rw [nI_add]
  refine r_taldN dL_law_701 (by omega) ?_
  refine r_aload_n dL_law_702 rfl ?_
  refine r_iload_n dL_law_703 rfl ?_
  refine r_iconst (v := nI 2) dL_law_704 (by decide) ?_
  refine r_iadd dL_law_705 ?_
  rw [nI_add]
  refine r_taldN dL_law_706 (by omega) ?_
  refine r_v2rq (W_c (X_lift (Q_least hc8)) rfl (Nat.le_of_ble_eq_true rfl)) (Nat.le_of_ble_eq_true rfl) mrX4_least lkL_88 rfl rfl rfl dL_law_707 (Nat.le_of_ble_eq_true rfl) (fun h9 _ g9 => ?_)
  obtain ⟨hx, q9, rfl⟩ := g9
  obtain ⟨A, f1, f2, f3, tok, s, b, nu, q9⟩ := q9
  refine r_heq q9.app ?_
  refine r_aload_n dL_law_710 rfl ?_
  refine r_aload_n dL_law_711 rfl ?_
  refine r_iload_n dL_law_712 rfl ?_
  refine r_iconst (v := nI 1) dL_law_713 (by decide) ?_
  refine r_iadd dL_law_714 ?_
  rw [nI_add]
  refine r_taldN dL_law_715 (by omega) ?_
  refine r_aload_n dL_law_716 rfl ?_
  refine r_iload_n dL_law_717 rfl ?_
  refine r_iconst (v := nI 2) dL_law_718 (by decide) ?_
  refine r_iadd dL_law_719 ?_
  rw [nI_add]
  refine r_taldN dL_law_720 (by omega) ?_
  refine r_v2rq (W_m (Y_lift (K := K) (N_least hw.1.1.1 hk)) rfl rfl rfl rfl) (Nat.le_of_ble_eq_true rfl) mrX5_least lkL_91 rfl rfl rfl dL_law_721 (Nat.le_of_ble_eq_true rfl) (fun h9 _ g9 => ?_)
  obtain ⟨hy, q8, rfl⟩ := g9
  obtain ⟨ks, ot, as, fl, a, b', v, w, mv, hk, q8⟩ := q8
  refine r_heq (HE.postM q8) ?_
  refine r_icmp_eq 1221 dL_law_724 (by decide) (fun c724 => ?_) (fun c724 => ?_)
  · exact k _ (wG hw (w_least hw.1)) A f1 f2 f3 tok s b nu ks ot as fl a b' v w mv hk
  · exact absurd rfl c724
theorem l_clear {X : SX} {i : Nat} {L : GS} (hi : 6 * i + 6 ≤ X.1) (hX9 : X.1 ≤ 3072) (hw : wfG L) (k : ∀ L', wfG L' → LW X 1221 i L') : LW X 729 i L := by
  obtain ⟨⟨R, K, kp, tc⟩, ⟨n, T⟩, Z⟩ := L
  intro A f1 f2 f3 tok s b nu ks ot as fl a b' v w mv hk
  dsimp only at hk ⊢
  have hc8 : cnt R ≤ 8 := hw.1.1.1.1
  refine r_aload_n dL_law_729 rfl ?_
  refine r_aload_n dL_law_730 rfl ?_
  refine r_iload_n dL_law_731 rfl ?_
  refine r_iconst (v := nI 1) dL_law_732 (by decide) ?_
  refine r_iadd dL_law_733 ?_
  rw [nI_add]
  refine r_taldN dL_law_734 (by omega) ?_
  refine r_v1rq (W_c (X_lift (Q_clear hc8)) rfl (Nat.le_of_ble_eq_true rfl)) (Nat.le_of_ble_eq_true rfl) mrX4_clear lkL_92 rfl rfl rfl dL_law_735 (Nat.le_of_ble_eq_true rfl) (fun h9 _ g9 => ?_)
  obtain ⟨hx, q9, rfl⟩ := g9
  obtain ⟨A, f1, f2, f3, tok, s, b, nu, q9⟩ := q9
  refine r_heq q9.app ?_
  refine r_aload_n dL_law_738 rfl ?_
  refine r_aload_n dL_law_739 rfl ?_
  refine r_iload_n dL_law_740 rfl ?_
  refine r_iconst (v := nI 1) dL_law_741 (by decide) ?_
  refine r_iadd dL_law_742 ?_
  rw [nI_add]
  refine r_taldN dL_law_743 (by omega) ?_
  refine r_v1rq (W_m (Y_lift (K := K) (N_clear hw.1.1.1 hk)) rfl rfl rfl rfl) (Nat.le_of_ble_eq_true rfl) mrX5_clear lkL_95 rfl rfl rfl dL_law_744 (Nat.le_of_ble_eq_true rfl) (fun h9 _ g9 => ?_)
  obtain ⟨hy, q8, rfl⟩ := g9
  obtain ⟨ks, ot, as, fl, a, b', v, w, mv, hk, q8⟩ := q8
  refine r_heq (HE.postM q8) ?_
  refine r_icmp_eq 1221 dL_law_747 (by decide) (fun c747 => ?_) (fun c747 => ?_)
  · exact k _ (wG hw (w_clear hw.1)) A f1 f2 f3 tok s b nu ks ot as fl a b' v w mv hk
  · exact absurd rfl c747
theorem l_nerve {X : SX} {i : Nat} {L : GS} (hi : 6 * i + 6 ≤ X.1) (hX9 : X.1 ≤ 3072) (hw : wfG L) (k : ∀ L', wfG L' → LW X 1221 i L') : LW X 752 i L := by
  obtain ⟨⟨R, K, kp, tc⟩, ⟨n, T⟩, Z⟩ := L
  intro A f1 f2 f3 tok s b nu ks ot as fl a b' v w mv hk
  dsimp only at hk ⊢
  have hc8 : cnt R ≤ 8 := hw.1.1.1.1
  refine r_aload_n dL_law_752 rfl ?_
  refine r_aload_n dL_law_753 rfl ?_
  refine r_iload_n dL_law_754 rfl ?_
  refine r_iconst (v := nI 1) dL_law_755 (by decide) ?_
  refine r_iadd dL_law_756 ?_
  rw [nI_add]
  refine r_taldN dL_law_757 (by omega) ?_
  refine r_aload_n dL_law_758 rfl ?_
  refine r_iload_n dL_law_759 rfl ?_
  refine r_iconst (v := nI 2) dL_law_760 (by decide) ?_
  refine r_iadd dL_law_761 ?_
  rw [nI_add]
  refine r_taldN dL_law_762 (by omega) ?_
  refine r_v2rq (W_c (X_lift (Q_nerve hc8)) rfl (Nat.le_of_ble_eq_true rfl)) (Nat.le_of_ble_eq_true rfl) mrX4_nerve lkL_96 rfl rfl rfl dL_law_763 (Nat.le_of_ble_eq_true rfl) (fun h9 _ g9 => ?_)
  obtain ⟨hx, q9, rfl⟩ := g9
  obtain ⟨A, f1, f2, f3, tok, s, b, nu, q9⟩ := q9
  refine r_heq q9.app ?_
  refine r_aload_n dL_law_766 rfl ?_
  refine r_aload_n dL_law_767 rfl ?_
  refine r_iload_n dL_law_768 rfl ?_
  refine r_iconst (v := nI 1) dL_law_769 (by decide) ?_
  refine r_iadd dL_law_770 ?_
  rw [nI_add]
  refine r_taldN dL_law_771 (by omega) ?_
  refine r_aload_n dL_law_772 rfl ?_
  refine r_iload_n dL_law_773 rfl ?_
  refine r_iconst (v := nI 2) dL_law_774 (by decide) ?_
  refine r_iadd dL_law_775 ?_
  rw [nI_add]
  refine r_taldN dL_law_776 (by omega) ?_
  refine r_v2rq (W_m (Y_lift (K := K) (N_nerve hw.1.1.1 hk)) rfl rfl rfl rfl) (Nat.le_of_ble_eq_true rfl) mrX5_nerve lkL_99 rfl rfl rfl dL_law_777 (Nat.le_of_ble_eq_true rfl) (fun h9 _ g9 => ?_)
  obtain ⟨hy, q8, rfl⟩ := g9
  obtain ⟨ks, ot, as, fl, a, b', v, w, mv, hk, q8⟩ := q8
  refine r_heq (HE.postM q8) ?_
  refine r_icmp_eq 1221 dL_law_780 (by decide) (fun c780 => ?_) (fun c780 => ?_)
  · exact k _ (wG hw (w_nerve hw.1)) A f1 f2 f3 tok s b nu ks ot as fl a b' v w mv hk
  · exact absurd rfl c780
theorem l_worst {X : SX} {i : Nat} {L : GS} (hi : 6 * i + 6 ≤ X.1) (hX9 : X.1 ≤ 3072) (hw : wfG L) (k : ∀ L', wfG L' → LW X 1221 i L') : LW X 785 i L := by
  obtain ⟨⟨R, K, kp, tc⟩, ⟨n, T⟩, Z⟩ := L
  intro A f1 f2 f3 tok s b nu ks ot as fl a b' v w mv hk
  dsimp only at hk ⊢
  have hc8 : cnt R ≤ 8 := hw.1.1.1.1
  refine r_aload_n dL_law_785 rfl ?_
  refine r_aload_n dL_law_786 rfl ?_
  refine r_iload_n dL_law_787 rfl ?_
  refine r_iconst (v := nI 1) dL_law_788 (by decide) ?_
  refine r_iadd dL_law_789 ?_
  rw [nI_add]
  refine r_taldN dL_law_790 (by omega) ?_
  refine r_v1rq (W_c (X_lift (Q_worst hc8)) rfl (Nat.le_of_ble_eq_true rfl)) (Nat.le_of_ble_eq_true rfl) mrX4_worst lkL_100 rfl rfl rfl dL_law_791 (Nat.le_of_ble_eq_true rfl) (fun h9 _ g9 => ?_)
  obtain ⟨hx, q9, rfl⟩ := g9
  obtain ⟨A, f1, f2, f3, tok, s, b, nu, q9⟩ := q9
  refine r_heq q9.app ?_
  refine r_aload_n dL_law_794 rfl ?_
  refine r_aload_n dL_law_795 rfl ?_
  refine r_iload_n dL_law_796 rfl ?_
  refine r_iconst (v := nI 1) dL_law_797 (by decide) ?_
  refine r_iadd dL_law_798 ?_
  rw [nI_add]
  refine r_taldN dL_law_799 (by omega) ?_
  refine r_v1rq (W_m (Y_lift (K := K) (N_worst hw.1.1.1 hk)) rfl rfl rfl rfl) (Nat.le_of_ble_eq_true rfl) mrX5_worst lkL_103 rfl rfl rfl dL_law_800 (Nat.le_of_ble_eq_true rfl) (fun h9 _ g9 => ?_)
  obtain ⟨hy, q8, rfl⟩ := g9
  obtain ⟨ks, ot, as, fl, a, b', v, w, mv, hk, q8⟩ := q8
  refine r_heq (HE.postM q8) ?_
  refine r_icmp_eq 1221 dL_law_803 (by decide) (fun c803 => ?_) (fun c803 => ?_)
  · exact k _ (wG hw (w_worst hw.1)) A f1 f2 f3 tok s b nu ks ot as fl a b' v w mv hk
  · exact absurd rfl c803
theorem l_feed {X : SX} {i : Nat} {L : GS} (hi : 6 * i + 6 ≤ X.1) (hX9 : X.1 ≤ 3072) (hw : wfG L) (k : ∀ L', wfG L' → LW X 1221 i L') : LW X 808 i L := by
  obtain ⟨⟨R, K, kp, tc⟩, ⟨n, T⟩, Z⟩ := L
  intro A f1 f2 f3 tok s b nu ks ot as fl a b' v w mv hk
  dsimp only at hk ⊢
  have hc8 : cnt R ≤ 8 := hw.1.1.1.1
  refine r_aload_n dL_law_808 rfl ?_
  refine r_aload_n dL_law_809 rfl ?_
  refine r_iload_n dL_law_810 rfl ?_
  refine r_iconst (v := nI 1) dL_law_811 (by decide) ?_
  refine r_iadd dL_law_812 ?_
  rw [nI_add]
  refine r_taldN dL_law_813 (by omega) ?_
  refine r_aload_n dL_law_814 rfl ?_
  refine r_iload_n dL_law_815 rfl ?_
  refine r_iconst (v := nI 2) dL_law_816 (by decide) ?_
  refine r_iadd dL_law_817 ?_
  rw [nI_add]
  refine r_taldN dL_law_818 (by omega) ?_
  refine r_v2rq (W_c (X_liftT (T_feed (Z := Z) hw.2.1) z_feed) rfl (Nat.le_of_ble_eq_true rfl)) (Nat.le_of_ble_eq_true rfl) mrX4_feed lkL_104 rfl rfl rfl dL_law_819 (Nat.le_of_ble_eq_true rfl) (fun h9 _ g9 => ?_)
  obtain ⟨hx, q9, rfl⟩ := g9
  obtain ⟨A, f1, f2, f3, tok, s, b, nu, q9⟩ := q9
  refine r_heq q9.app ?_
  refine r_aload_n dL_law_822 rfl ?_
  refine r_aload_n dL_law_823 rfl ?_
  refine r_iload_n dL_law_824 rfl ?_
  refine r_iconst (v := nI 1) dL_law_825 (by decide) ?_
  refine r_iadd dL_law_826 ?_
  rw [nI_add]
  refine r_taldN dL_law_827 (by omega) ?_
  refine r_aload_n dL_law_828 rfl ?_
  refine r_iload_n dL_law_829 rfl ?_
  refine r_iconst (v := nI 2) dL_law_830 (by decide) ?_
  refine r_iadd dL_law_831 ?_
  rw [nI_add]
  refine r_taldN dL_law_832 (by omega) ?_
  refine r_v2rq (W_m (Y_liftP (K := K) (P_feed (Z := Z) hw.2.1 hk) z_feed) rfl rfl rfl rfl) (Nat.le_of_ble_eq_true rfl) mrX5_feed lkL_107 rfl rfl rfl dL_law_833 (Nat.le_of_ble_eq_true rfl) (fun h9 _ g9 => ?_)
  obtain ⟨hy, q8, rfl⟩ := g9
  obtain ⟨ks, ot, as, fl, a, b', v, w, mv, hk, q8⟩ := q8
  refine r_heq (HE.postM q8) ?_
  refine r_icmp_eq 1221 dL_law_836 (by decide) (fun c836 => ?_) (fun c836 => ?_)
  · exact k _ (w_feed hw) A f1 f2 f3 tok s b nu ks ot as fl a b' v w mv hk
  · exact absurd rfl c836
theorem l_wipe {X : SX} {i : Nat} {L : GS} (hi : 6 * i + 6 ≤ X.1) (hX9 : X.1 ≤ 3072) (hw : wfG L) (k : ∀ L', wfG L' → LW X 1221 i L') : LW X 841 i L := by
  obtain ⟨⟨R, K, kp, tc⟩, ⟨n, T⟩, Z⟩ := L
  intro A f1 f2 f3 tok s b nu ks ot as fl a b' v w mv hk
  dsimp only at hk ⊢
  have hc8 : cnt R ≤ 8 := hw.1.1.1.1
  refine r_aload_n dL_law_841 rfl ?_
  refine r_v0rq (W_c (X_liftT (T_wipe (Z := Z) ) rfl) rfl (Nat.le_of_ble_eq_true rfl)) (Nat.le_of_ble_eq_true rfl) mrX4_wipe lkL_108 rfl rfl rfl dL_law_842 (Nat.le_of_ble_eq_true rfl) (fun h9 _ g9 => ?_)
  obtain ⟨hx, q9, rfl⟩ := g9
  obtain ⟨A, f1, f2, f3, tok, s, b, nu, q9⟩ := q9
  refine r_heq q9.app ?_
  refine r_aload_n dL_law_845 rfl ?_
  refine r_v0rq (W_m (Y_liftP (K := K) (P_wipe (Z := Z) hk) rfl) rfl rfl rfl rfl) (Nat.le_of_ble_eq_true rfl) mrX5_wipe lkL_112 rfl rfl rfl dL_law_846 (Nat.le_of_ble_eq_true rfl) (fun h9 _ g9 => ?_)
  obtain ⟨hy, q8, rfl⟩ := g9
  obtain ⟨ks, ot, as, fl, a, b', v, w, mv, hk, q8⟩ := q8
  refine r_heq (HE.postM q8) ?_
  refine r_icmp_eq 1221 dL_law_849 (by decide) (fun c849 => ?_) (fun c849 => ?_)
  · exact k _ (w_wipe hw) A f1 f2 f3 tok s b nu ks ot as fl a b' v w mv hk
  · exact absurd rfl c849
theorem l_night {X : SX} {i : Nat} {L : GS} (hi : 6 * i + 6 ≤ X.1) (hX9 : X.1 ≤ 3072) (hw : wfG L) (k : ∀ L', wfG L' → LW X 1221 i L') : LW X 854 i L := by
  obtain ⟨⟨R, K, kp, tc⟩, ⟨n, T⟩, Z⟩ := L
  intro A f1 f2 f3 tok s b nu ks ot as fl a b' v w mv hk
  dsimp only at hk ⊢
  have hc8 : cnt R ≤ 8 := hw.1.1.1.1
  refine r_aload_n dL_law_854 rfl ?_
  refine r_v0rq (W_c (X_liftT (T_night (Z := Z) hw.2.1 hw.2.2.1 hc8) rfl) rfl (Nat.le_of_ble_eq_true rfl)) (Nat.le_of_ble_eq_true rfl) mrX4_night lkL_113 rfl rfl rfl dL_law_855 (Nat.le_of_ble_eq_true rfl) (fun h9 _ g9 => ?_)
  obtain ⟨hx, q9, rfl⟩ := g9
  obtain ⟨A, f1, f2, f3, tok, s, b, nu, q9⟩ := q9
  refine r_heq q9.app ?_
  refine r_aload_n dL_law_858 rfl ?_
  refine r_v0rq (W_m (Y_liftP (K := K) (P_night (Z := Z) hw.2.1 hw.2.2.1 hw.1.1.1 hk) rfl) rfl rfl rfl rfl) (Nat.le_of_ble_eq_true rfl) mrX5_night lkL_116 rfl rfl rfl dL_law_859 (Nat.le_of_ble_eq_true rfl) (fun h9 _ g9 => ?_)
  obtain ⟨hy, q8, rfl⟩ := g9
  obtain ⟨ks, ot, as, fl, a, b', v, w, mv, hk, q8⟩ := q8
  refine r_heq (HE.postM q8) ?_
  refine r_icmp_eq 1221 dL_law_862 (by decide) (fun c862 => ?_) (fun c862 => ?_)
  · exact k _ (w_night hw) A f1 f2 f3 tok s b nu ks ot as fl a b' v w mv hk
  · exact absurd rfl c862
theorem l_sheet {X : SX} {i : Nat} {L : GS} (hi : 6 * i + 6 ≤ X.1) (hX9 : X.1 ≤ 3072) (hw : wfG L) (k : ∀ L', wfG L' → LW X 1221 i L') : LW X 867 i L := by
  obtain ⟨⟨R, K, kp, tc⟩, ⟨n, T⟩, Z⟩ := L
  intro A f1 f2 f3 tok s b nu ks ot as fl a b' v w mv hk
  dsimp only at hk ⊢
  have hc8 : cnt R ≤ 8 := hw.1.1.1.1
  refine r_aload_n dL_law_867 rfl ?_
  refine r_aload_n dL_law_868 rfl ?_
  refine r_iload_n dL_law_869 rfl ?_
  refine r_iconst (v := nI 1) dL_law_870 (by decide) ?_
  refine r_iadd dL_law_871 ?_
  rw [nI_add]
  refine r_taldN dL_law_872 (by omega) ?_
  refine r_aload_n dL_law_873 rfl ?_
  refine r_iload_n dL_law_874 rfl ?_
  refine r_iconst (v := nI 2) dL_law_875 (by decide) ?_
  refine r_iadd dL_law_876 ?_
  rw [nI_add]
  refine r_taldN dL_law_877 (by omega) ?_
  refine r_aload_n dL_law_878 rfl ?_
  refine r_iload_n dL_law_879 rfl ?_
  refine r_iconst (v := nI 3) dL_law_880 (by decide) ?_
  refine r_iadd dL_law_881 ?_
  rw [nI_add]
  refine r_taldN dL_law_882 (by omega) ?_
  refine r_v3rq (W_c (X_sheet ) rfl (Nat.le_of_ble_eq_true rfl)) (Nat.le_of_ble_eq_true rfl) mrX4_sheet lkL_117 rfl rfl rfl dL_law_883 (Nat.le_of_ble_eq_true rfl) (fun h9 _ g9 => ?_)
  obtain ⟨hx, q9, rfl⟩ := g9
  obtain ⟨A, f1, f2, f3, tok, s, b, nu, q9⟩ := q9
  refine r_heq q9.app ?_
  refine r_aload_n dL_law_886 rfl ?_
  refine r_aload_n dL_law_887 rfl ?_
  refine r_iload_n dL_law_888 rfl ?_
  refine r_iconst (v := nI 1) dL_law_889 (by decide) ?_
  refine r_iadd dL_law_890 ?_
  rw [nI_add]
  refine r_taldN dL_law_891 (by omega) ?_
  refine r_aload_n dL_law_892 rfl ?_
  refine r_iload_n dL_law_893 rfl ?_
  refine r_iconst (v := nI 2) dL_law_894 (by decide) ?_
  refine r_iadd dL_law_895 ?_
  rw [nI_add]
  refine r_taldN dL_law_896 (by omega) ?_
  refine r_aload_n dL_law_897 rfl ?_
  refine r_iload_n dL_law_898 rfl ?_
  refine r_iconst (v := nI 3) dL_law_899 (by decide) ?_
  refine r_iadd dL_law_900 ?_
  rw [nI_add]
  refine r_taldN dL_law_901 (by omega) ?_
  refine r_v3rq (W_m (Y_sheet hk) rfl rfl rfl rfl) (Nat.le_of_ble_eq_true rfl) mrX5_sheet lkL_120 rfl rfl rfl dL_law_902 (Nat.le_of_ble_eq_true rfl) (fun h9 _ g9 => ?_)
  obtain ⟨hy, q8, rfl⟩ := g9
  obtain ⟨ks, ot, as, fl, a, b', v, w, mv, hk, q8⟩ := q8
  refine r_heq (HE.postM q8) ?_
  refine r_icmp_eq 1221 dL_law_905 (by decide) (fun c905 => ?_) (fun c905 => ?_)
  · exact k _ (w_sheet hw) A f1 f2 f3 tok s b nu ks ot as fl a b' v w mv hk
  · exact absurd rfl c905
theorem l_write {X : SX} {i : Nat} {L : GS} (hi : 6 * i + 6 ≤ X.1) (hX9 : X.1 ≤ 3072) (hw : wfG L) (k : ∀ L', wfG L' → LW X 1221 i L') : LW X 910 i L := by
  obtain ⟨⟨R, K, kp, tc⟩, ⟨n, T⟩, Z⟩ := L
  intro A f1 f2 f3 tok s b nu ks ot as fl a b' v w mv hk
  dsimp only at hk ⊢
  have hc8 : cnt R ≤ 8 := hw.1.1.1.1
  refine r_aload_n dL_law_910 rfl ?_
  refine r_aload_n dL_law_911 rfl ?_
  refine r_iload_n dL_law_912 rfl ?_
  refine r_iconst (v := nI 1) dL_law_913 (by decide) ?_
  refine r_iadd dL_law_914 ?_
  rw [nI_add]
  refine r_taldN dL_law_915 (by omega) ?_
  refine r_aload_n dL_law_916 rfl ?_
  refine r_iload_n dL_law_917 rfl ?_
  refine r_iconst (v := nI 2) dL_law_918 (by decide) ?_
  refine r_iadd dL_law_919 ?_
  rw [nI_add]
  refine r_taldN dL_law_920 (by omega) ?_
  refine r_aload_n dL_law_921 rfl ?_
  refine r_iload_n dL_law_922 rfl ?_
  refine r_iconst (v := nI 3) dL_law_923 (by decide) ?_
  refine r_iadd dL_law_924 ?_
  rw [nI_add]
  refine r_taldN dL_law_925 (by omega) ?_
  refine r_i2l dL_law_926 ?_
  refine r_bipush (v := nI 32) dL_law_927 (by decide) ?_
  refine r_lshl dL_law_929 rfl ?_
  refine r_aload_n dL_law_930 rfl ?_
  refine r_iload_n dL_law_931 rfl ?_
  refine r_iconst (v := nI 4) dL_law_932 (by decide) ?_
  refine r_iadd dL_law_933 ?_
  rw [nI_add]
  refine r_taldN dL_law_934 (by omega) ?_
  refine r_i2l dL_law_935 ?_
  refine r_ldc2 kL_121 dL_law_936 ?_
  refine r_land dL_law_939 ?_
  refine r_lor dL_law_940 ?_
  refine r_v3rq (W_c (X_write hw.2.2.2) rfl (Nat.le_of_ble_eq_true rfl)) (Nat.le_of_ble_eq_true rfl) mrX4_write lkL_123 rfl rfl rfl dL_law_941 (Nat.le_of_ble_eq_true rfl) (fun h9 _ g9 => ?_)
  obtain ⟨hx, q9, rfl⟩ := g9
  obtain ⟨A, f1, f2, f3, tok, s, b, nu, q9⟩ := q9
  refine r_heq q9.app ?_
  refine r_aload_n dL_law_944 rfl ?_
  refine r_aload_n dL_law_945 rfl ?_
  refine r_iload_n dL_law_946 rfl ?_
  refine r_iconst (v := nI 1) dL_law_947 (by decide) ?_
  refine r_iadd dL_law_948 ?_
  rw [nI_add]
  refine r_taldN dL_law_949 (by omega) ?_
  refine r_aload_n dL_law_950 rfl ?_
  refine r_iload_n dL_law_951 rfl ?_
  refine r_iconst (v := nI 2) dL_law_952 (by decide) ?_
  refine r_iadd dL_law_953 ?_
  rw [nI_add]
  refine r_taldN dL_law_954 (by omega) ?_
  refine r_aload_n dL_law_955 rfl ?_
  refine r_iload_n dL_law_956 rfl ?_
  refine r_iconst (v := nI 3) dL_law_957 (by decide) ?_
  refine r_iadd dL_law_958 ?_
  rw [nI_add]
  refine r_taldN dL_law_959 (by omega) ?_
  refine r_i2l dL_law_960 ?_
  refine r_bipush (v := nI 32) dL_law_961 (by decide) ?_
  refine r_lshl dL_law_963 rfl ?_
  refine r_aload_n dL_law_964 rfl ?_
  refine r_iload_n dL_law_965 rfl ?_
  refine r_iconst (v := nI 4) dL_law_966 (by decide) ?_
  refine r_iadd dL_law_967 ?_
  rw [nI_add]
  refine r_taldN dL_law_968 (by omega) ?_
  refine r_i2l dL_law_969 ?_
  refine r_ldc2 kL_121 dL_law_970 ?_
  refine r_land dL_law_973 ?_
  refine r_lor dL_law_974 ?_
  refine r_v3rq (W_m (Y_write hw.2.2.2 hk) rfl rfl rfl rfl) (Nat.le_of_ble_eq_true rfl) mrX5_write lkL_127 rfl rfl rfl dL_law_975 (Nat.le_of_ble_eq_true rfl) (fun h9 _ g9 => ?_)
  obtain ⟨hy, q8, rfl⟩ := g9
  obtain ⟨ks, ot, as, fl, a, b', v, w, mv, hk, q8⟩ := q8
  refine r_heq (HE.postM q8) ?_
  refine r_lcmp dL_law_978 ?_
  refine r_if_eq 1221 dL_law_979 (by decide) (fun c979 => ?_) (fun c979 => ?_)
  · exact k _ (w_write hw) A f1 f2 f3 tok s b nu ks ot as fl a b' v w mv hk
  · exact absurd (cmp_0.mpr rfl) c979
theorem l_copy {X : SX} {i : Nat} {L : GS} (hi : 6 * i + 6 ≤ X.1) (hX9 : X.1 ≤ 3072) (hw : wfG L) (k : ∀ L', wfG L' → LW X 1221 i L') : LW X 984 i L := by
  obtain ⟨⟨R, K, kp, tc⟩, ⟨n, T⟩, Z⟩ := L
  intro A f1 f2 f3 tok s b nu ks ot as fl a b' v w mv hk
  dsimp only at hk ⊢
  have hc8 : cnt R ≤ 8 := hw.1.1.1.1
  refine r_aload_n dL_law_984 rfl ?_
  refine r_aload_n dL_law_985 rfl ?_
  refine r_iload_n dL_law_986 rfl ?_
  refine r_iconst (v := nI 1) dL_law_987 (by decide) ?_
  refine r_iadd dL_law_988 ?_
  rw [nI_add]
  refine r_taldN dL_law_989 (by omega) ?_
  refine r_aload_n dL_law_990 rfl ?_
  refine r_iload_n dL_law_991 rfl ?_
  refine r_iconst (v := nI 2) dL_law_992 (by decide) ?_
  refine r_iadd dL_law_993 ?_
  rw [nI_add]
  refine r_taldN dL_law_994 (by omega) ?_
  refine r_aload_n dL_law_995 rfl ?_
  refine r_iload_n dL_law_996 rfl ?_
  refine r_iconst (v := nI 3) dL_law_997 (by decide) ?_
  refine r_iadd dL_law_998 ?_
  rw [nI_add]
  refine r_taldN dL_law_999 (by omega) ?_
  refine r_aload_n dL_law_1000 rfl ?_
  refine r_iload_n dL_law_1001 rfl ?_
  refine r_iconst (v := nI 4) dL_law_1002 (by decide) ?_
  refine r_iadd dL_law_1003 ?_
  rw [nI_add]
  refine r_taldN dL_law_1004 (by omega) ?_
  refine r_aload_n dL_law_1005 rfl ?_
  refine r_iload_n dL_law_1006 rfl ?_
  refine r_iconst (v := nI 5) dL_law_1007 (by decide) ?_
  refine r_iadd dL_law_1008 ?_
  rw [nI_add]
  refine r_taldN dL_law_1009 (by omega) ?_
  refine r_v5rq (W_c (X_copy hw.2.2.2) rfl (Nat.le_of_ble_eq_true rfl)) (Nat.le_of_ble_eq_true rfl) mrX4_copy lkL_128 rfl rfl rfl dL_law_1010 (Nat.le_of_ble_eq_true rfl) (fun h9 _ g9 => ?_)
  obtain ⟨hx, q9, rfl⟩ := g9
  obtain ⟨A, f1, f2, f3, tok, s, b, nu, q9⟩ := q9
  refine r_heq q9.app ?_
  refine r_aload_n dL_law_1013 rfl ?_
  refine r_aload_n dL_law_1014 rfl ?_
  refine r_iload_n dL_law_1015 rfl ?_
  refine r_iconst (v := nI 1) dL_law_1016 (by decide) ?_
  refine r_iadd dL_law_1017 ?_
  rw [nI_add]
  refine r_taldN dL_law_1018 (by omega) ?_
  refine r_aload_n dL_law_1019 rfl ?_
  refine r_iload_n dL_law_1020 rfl ?_
  refine r_iconst (v := nI 2) dL_law_1021 (by decide) ?_
  refine r_iadd dL_law_1022 ?_
  rw [nI_add]
  refine r_taldN dL_law_1023 (by omega) ?_
  refine r_aload_n dL_law_1024 rfl ?_
  refine r_iload_n dL_law_1025 rfl ?_
  refine r_iconst (v := nI 3) dL_law_1026 (by decide) ?_
  refine r_iadd dL_law_1027 ?_
  rw [nI_add]
  refine r_taldN dL_law_1028 (by omega) ?_
  refine r_aload_n dL_law_1029 rfl ?_
  refine r_iload_n dL_law_1030 rfl ?_
  refine r_iconst (v := nI 4) dL_law_1031 (by decide) ?_
  refine r_iadd dL_law_1032 ?_
  rw [nI_add]
  refine r_taldN dL_law_1033 (by omega) ?_
  refine r_aload_n dL_law_1034 rfl ?_
  refine r_iload_n dL_law_1035 rfl ?_
  refine r_iconst (v := nI 5) dL_law_1036 (by decide) ?_
  refine r_iadd dL_law_1037 ?_
  rw [nI_add]
  refine r_taldN dL_law_1038 (by omega) ?_
  refine r_v5rq (W_m (Y_copy hw.2.2.2 hk) rfl rfl rfl rfl) (Nat.le_of_ble_eq_true rfl) mrX5_copy lkL_132 rfl rfl rfl dL_law_1039 (Nat.le_of_ble_eq_true rfl) (fun h9 _ g9 => ?_)
  obtain ⟨hy, q8, rfl⟩ := g9
  obtain ⟨ks, ot, as, fl, a, b', v, w, mv, hk, q8⟩ := q8
  refine r_heq (HE.postM q8) ?_
  refine r_icmp_eq 1221 dL_law_1042 (by decide) (fun c1042 => ?_) (fun c1042 => ?_)
  · exact k _ (w_copy hw) A f1 f2 f3 tok s b nu ks ot as fl a b' v w mv hk
  · exact absurd rfl c1042
theorem l_lays {X : SX} {i : Nat} {L : GS} (hi : 6 * i + 6 ≤ X.1) (hX9 : X.1 ≤ 3072) (hw : wfG L) (k : ∀ L', wfG L' → LW X 1221 i L') : LW X 1047 i L := by
  obtain ⟨⟨R, K, kp, tc⟩, ⟨n, T⟩, Z⟩ := L
  intro A f1 f2 f3 tok s b nu ks ot as fl a b' v w mv hk
  dsimp only at hk ⊢
  have hc8 : cnt R ≤ 8 := hw.1.1.1.1
  refine r_aload_n dL_law_1047 rfl ?_
  refine r_aload_n dL_law_1048 rfl ?_
  refine r_iload_n dL_law_1049 rfl ?_
  refine r_iconst (v := nI 1) dL_law_1050 (by decide) ?_
  refine r_iadd dL_law_1051 ?_
  rw [nI_add]
  refine r_taldN dL_law_1052 (by omega) ?_
  refine r_v1rq (W_c (X_lays hw.2.2.2 hc8) rfl (Nat.le_of_ble_eq_true rfl)) (Nat.le_of_ble_eq_true rfl) mrX4_lays lkL_133 rfl rfl rfl dL_law_1053 (Nat.le_of_ble_eq_true rfl) (fun h9 _ g9 => ?_)
  obtain ⟨hx, q9, rfl⟩ := g9
  obtain ⟨A, f1, f2, f3, tok, s, b, nu, q9⟩ := q9
  refine r_heq q9.app ?_
  refine r_aload_n dL_law_1056 rfl ?_
  refine r_aload_n dL_law_1057 rfl ?_
  refine r_iload_n dL_law_1058 rfl ?_
  refine r_iconst (v := nI 1) dL_law_1059 (by decide) ?_
  refine r_iadd dL_law_1060 ?_
  rw [nI_add]
  refine r_taldN dL_law_1061 (by omega) ?_
  refine r_v1rq (W_m (Y_lays hw.2.2.2 hw.1.1.1 hk) rfl rfl rfl rfl) (Nat.le_of_ble_eq_true rfl) mrX5_lays lkL_136 rfl rfl rfl dL_law_1062 (Nat.le_of_ble_eq_true rfl) (fun h9 _ g9 => ?_)
  obtain ⟨hy, q8, rfl⟩ := g9
  obtain ⟨ks, ot, as, fl, a, b', v, w, mv, hk, q8⟩ := q8
  refine r_heq (HE.postM q8) ?_
  refine r_icmp_eq 1221 dL_law_1065 (by decide) (fun c1065 => ?_) (fun c1065 => ?_)
  · exact k _ (w_lays hw) A f1 f2 f3 tok s b nu ks ot as fl a b' v w mv hk
  · exact absurd rfl c1065
theorem l_book {X : SX} {i : Nat} {L : GS} (hi : 6 * i + 6 ≤ X.1) (hX9 : X.1 ≤ 3072) (hw : wfG L) (k : ∀ L', wfG L' → LW X 1221 i L') : LW X 1070 i L := by
  obtain ⟨⟨R, K, kp, tc⟩, ⟨n, T⟩, Z⟩ := L
  intro A f1 f2 f3 tok s b nu ks ot as fl a b' v w mv hk
  dsimp only at hk ⊢
  have hc8 : cnt R ≤ 8 := hw.1.1.1.1
  refine r_aload_n dL_law_1070 rfl ?_
  refine r_aload_n dL_law_1071 rfl ?_
  refine r_iload_n dL_law_1072 rfl ?_
  refine r_iconst (v := nI 1) dL_law_1073 (by decide) ?_
  refine r_iadd dL_law_1074 ?_
  rw [nI_add]
  refine r_taldN dL_law_1075 (by omega) ?_
  refine r_aload_n dL_law_1076 rfl ?_
  refine r_iload_n dL_law_1077 rfl ?_
  refine r_iconst (v := nI 2) dL_law_1078 (by decide) ?_
  refine r_iadd dL_law_1079 ?_
  rw [nI_add]
  refine r_taldN dL_law_1080 (by omega) ?_
  refine r_v2rq (W_c (X_book hw.2.2.2 hc8) rfl (Nat.le_of_ble_eq_true rfl)) (Nat.le_of_ble_eq_true rfl) mrX4_book lkL_137 rfl rfl rfl dL_law_1081 (Nat.le_of_ble_eq_true rfl) (fun h9 _ g9 => ?_)
  obtain ⟨hx, q9, rfl⟩ := g9
  obtain ⟨A, f1, f2, f3, tok, s, b, nu, q9⟩ := q9
  refine r_heq q9.app ?_
  refine r_aload_n dL_law_1084 rfl ?_
  refine r_aload_n dL_law_1085 rfl ?_
  refine r_iload_n dL_law_1086 rfl ?_
  refine r_iconst (v := nI 1) dL_law_1087 (by decide) ?_
  refine r_iadd dL_law_1088 ?_
  rw [nI_add]
  refine r_taldN dL_law_1089 (by omega) ?_
  refine r_aload_n dL_law_1090 rfl ?_
  refine r_iload_n dL_law_1091 rfl ?_
  refine r_iconst (v := nI 2) dL_law_1092 (by decide) ?_
  refine r_iadd dL_law_1093 ?_
  rw [nI_add]
  refine r_taldN dL_law_1094 (by omega) ?_
  refine r_v2rq (W_m (Y_book hw.2.2.2 hw.1.1.1 hk) rfl rfl rfl rfl) (Nat.le_of_ble_eq_true rfl) mrX5_book lkL_140 rfl rfl rfl dL_law_1095 (Nat.le_of_ble_eq_true rfl) (fun h9 _ g9 => ?_)
  obtain ⟨hy, q8, rfl⟩ := g9
  obtain ⟨ks, ot, as, fl, a, b', v, w, mv, hk, q8⟩ := q8
  refine r_heq (HE.postM q8) ?_
  refine r_icmp_eq 1221 dL_law_1098 (by decide) (fun c1098 => ?_) (fun c1098 => ?_)
  · exact k _ (w_book hw) A f1 f2 f3 tok s b nu ks ot as fl a b' v w mv hk
  · exact absurd rfl c1098
theorem l_read {X : SX} {i : Nat} {L : GS} (hi : 6 * i + 6 ≤ X.1) (hX9 : X.1 ≤ 3072) (hw : wfG L) (k : ∀ L', wfG L' → LW X 1221 i L') : LW X 1103 i L := by
  obtain ⟨⟨R, K, kp, tc⟩, ⟨n, T⟩, Z⟩ := L
  intro A f1 f2 f3 tok s b nu ks ot as fl a b' v w mv hk
  dsimp only at hk ⊢
  have hc8 : cnt R ≤ 8 := hw.1.1.1.1
  refine r_aload_n dL_law_1103 rfl ?_
  refine r_aload_n dL_law_1104 rfl ?_
  refine r_iload_n dL_law_1105 rfl ?_
  refine r_iconst (v := nI 1) dL_law_1106 (by decide) ?_
  refine r_iadd dL_law_1107 ?_
  rw [nI_add]
  refine r_taldN dL_law_1108 (by omega) ?_
  refine r_aload_n dL_law_1109 rfl ?_
  refine r_iload_n dL_law_1110 rfl ?_
  refine r_iconst (v := nI 2) dL_law_1111 (by decide) ?_
  refine r_iadd dL_law_1112 ?_
  rw [nI_add]
  refine r_taldN dL_law_1113 (by omega) ?_
  refine r_v2rq (W_c (X_read hw.2.2.2 hc8) rfl (Nat.le_of_ble_eq_true rfl)) (Nat.le_of_ble_eq_true rfl) mrX4_read lkL_141 rfl rfl rfl dL_law_1114 (Nat.le_of_ble_eq_true rfl) (fun h9 _ g9 => ?_)
  obtain ⟨hx, q9, rfl⟩ := g9
  obtain ⟨A, f1, f2, f3, tok, s, b, nu, q9⟩ := q9
  refine r_heq q9.app ?_
  refine r_aload_n dL_law_1117 rfl ?_
  refine r_aload_n dL_law_1118 rfl ?_
  refine r_iload_n dL_law_1119 rfl ?_
  refine r_iconst (v := nI 1) dL_law_1120 (by decide) ?_
  refine r_iadd dL_law_1121 ?_
  rw [nI_add]
  refine r_taldN dL_law_1122 (by omega) ?_
  refine r_aload_n dL_law_1123 rfl ?_
  refine r_iload_n dL_law_1124 rfl ?_
  refine r_iconst (v := nI 2) dL_law_1125 (by decide) ?_
  refine r_iadd dL_law_1126 ?_
  rw [nI_add]
  refine r_taldN dL_law_1127 (by omega) ?_
  refine r_v2rq (W_m (Y_read hw.2.2.2 hw.1.1.1 hk) rfl rfl rfl rfl) (Nat.le_of_ble_eq_true rfl) mrX5_read lkL_144 rfl rfl rfl dL_law_1128 (Nat.le_of_ble_eq_true rfl) (fun h9 _ g9 => ?_)
  obtain ⟨hy, q8, rfl⟩ := g9
  obtain ⟨ks, ot, as, fl, a, b', v, w, mv, hk, q8⟩ := q8
  refine r_heq (HE.postM q8) ?_
  refine r_icmp_eq 1221 dL_law_1131 (by decide) (fun c1131 => ?_) (fun c1131 => ?_)
  · exact k _ (w_read hw) A f1 f2 f3 tok s b nu ks ot as fl a b' v w mv hk
  · exact absurd rfl c1131
theorem l_image {X : SX} {i : Nat} {L : GS} (hi : 6 * i + 6 ≤ X.1) (hX9 : X.1 ≤ 3072) (hw : wfG L) (k : ∀ L', wfG L' → LW X 1221 i L') : LW X 1136 i L := by
  obtain ⟨⟨R, K, kp, tc⟩, ⟨n, T⟩, Z⟩ := L
  intro A f1 f2 f3 tok s b nu ks ot as fl a b' v w mv hk
  dsimp only at hk ⊢
  have hc8 : cnt R ≤ 8 := hw.1.1.1.1
  refine r_aload_n dL_law_1136 rfl ?_
  refine r_v0rq (W_c (X_lift Q_image) rfl (Nat.le_of_ble_eq_true rfl)) (Nat.le_of_ble_eq_true rfl) mrX4_image lkL_145 rfl rfl rfl dL_law_1137 (Nat.le_of_ble_eq_true rfl) (fun h9 _ g9 => ?_)
  obtain ⟨hx, q9, rfl⟩ := g9
  obtain ⟨A, f1, f2, f3, tok, s, b, nu, q9⟩ := q9
  refine r_heq q9.app ?_
  refine r_aload_n dL_law_1140 rfl ?_
  refine r_v0rq (W_m (Y_lift (K := K) (N_image hk)) rfl rfl rfl rfl) (Nat.le_of_ble_eq_true rfl) mrX5_image lkL_148 rfl rfl rfl dL_law_1141 (Nat.le_of_ble_eq_true rfl) (fun h9 _ g9 => ?_)
  obtain ⟨hy, q8, rfl⟩ := g9
  obtain ⟨ks, ot, as, fl, a, b', v, w, mv, hk, q8⟩ := q8
  refine r_heq (HE.postM q8) ?_
  refine r_icmp_eq 1221 dL_law_1144 (by decide) (fun c1144 => ?_) (fun c1144 => ?_)
  · exact k _ (wG hw (w_image hw.1)) A f1 f2 f3 tok s b nu ks ot as fl a b' v w mv hk
  · exact absurd rfl c1144
theorem l_undo {X : SX} {i : Nat} {L : GS} (hi : 6 * i + 6 ≤ X.1) (hX9 : X.1 ≤ 3072) (hw : wfG L) (k : ∀ L', wfG L' → LW X 1221 i L') : LW X 1149 i L := by
  obtain ⟨⟨R, K, kp, tc⟩, ⟨n, T⟩, Z⟩ := L
  intro A f1 f2 f3 tok s b nu ks ot as fl a b' v w mv hk
  dsimp only at hk ⊢
  have hc8 : cnt R ≤ 8 := hw.1.1.1.1
  refine r_aload_n dL_law_1149 rfl ?_
  refine r_v0rq (W_c (X_lift Q_undo) rfl (Nat.le_of_ble_eq_true rfl)) (Nat.le_of_ble_eq_true rfl) mrX4_undo lkL_149 rfl rfl rfl dL_law_1150 (Nat.le_of_ble_eq_true rfl) (fun h9 _ g9 => ?_)
  obtain ⟨hx, q9, rfl⟩ := g9
  obtain ⟨A, f1, f2, f3, tok, s, b, nu, q9⟩ := q9
  refine r_heq q9.app ?_
  refine r_aload_n dL_law_1153 rfl ?_
  refine r_v0rq (W_m (Y_lift (K := K) (N_undo hk)) rfl rfl rfl rfl) (Nat.le_of_ble_eq_true rfl) mrX5_undo lkL_152 rfl rfl rfl dL_law_1154 (Nat.le_of_ble_eq_true rfl) (fun h9 _ g9 => ?_)
  obtain ⟨hy, q8, rfl⟩ := g9
  obtain ⟨ks, ot, as, fl, a, b', v, w, mv, hk, q8⟩ := q8
  refine r_heq (HE.postM q8) ?_
  refine r_icmp_eq 1221 dL_law_1157 (by decide) (fun c1157 => ?_) (fun c1157 => ?_)
  · exact k _ (wG hw (w_undo hw.1)) A f1 f2 f3 tok s b nu ks ot as fl a b' v w mv hk
  · exact absurd rfl c1157
theorem l_tear {X : SX} {i : Nat} {L : GS} (hi : 6 * i + 6 ≤ X.1) (hX9 : X.1 ≤ 3072) (hw : wfG L) (k : ∀ L', wfG L' → LW X 1221 i L') : LW X 1162 i L := by
  obtain ⟨⟨R, K, kp, tc⟩, ⟨n, T⟩, Z⟩ := L
  intro A f1 f2 f3 tok s b nu ks ot as fl a b' v w mv hk
  dsimp only at hk ⊢
  have hc8 : cnt R ≤ 8 := hw.1.1.1.1
  refine r_aload_n dL_law_1162 rfl ?_
  refine r_v0rq (W_c (X_lift Q_tear) rfl (Nat.le_of_ble_eq_true rfl)) (Nat.le_of_ble_eq_true rfl) mrX4_tear lkL_153 rfl rfl rfl dL_law_1163 (Nat.le_of_ble_eq_true rfl) (fun h9 _ g9 => ?_)
  obtain ⟨hx, q9, rfl⟩ := g9
  obtain ⟨A, f1, f2, f3, tok, s, b, nu, q9⟩ := q9
  refine r_heq q9.app ?_
  refine r_aload_n dL_law_1166 rfl ?_
  refine r_v0rq (W_m (Y_lift (K := K) (N_tear hk)) rfl rfl rfl rfl) (Nat.le_of_ble_eq_true rfl) mrX5_tear lkL_156 rfl rfl rfl dL_law_1167 (Nat.le_of_ble_eq_true rfl) (fun h9 _ g9 => ?_)
  obtain ⟨hy, q8, rfl⟩ := g9
  obtain ⟨ks, ot, as, fl, a, b', v, w, mv, hk, q8⟩ := q8
  refine r_heq (HE.postM q8) ?_
  refine r_icmp_eq 1221 dL_law_1170 (by decide) (fun c1170 => ?_) (fun c1170 => ?_)
  · exact k _ (wG hw (w_tear hw.1)) A f1 f2 f3 tok s b nu ks ot as fl a b' v w mv hk
  · exact absurd rfl c1170
theorem l_count {X : SX} {i : Nat} {L : GS} (hi : 6 * i + 6 ≤ X.1) (hX9 : X.1 ≤ 3072) (hw : wfG L) (k : ∀ L', wfG L' → LW X 1221 i L') : LW X 1175 i L := by
  obtain ⟨⟨R, K, kp, tc⟩, ⟨n, T⟩, Z⟩ := L
  intro A f1 f2 f3 tok s b nu ks ot as fl a b' v w mv hk
  dsimp only at hk ⊢
  have hc8 : cnt R ≤ 8 := hw.1.1.1.1
  refine r_aload_n dL_law_1175 rfl ?_
  refine r_aload_n dL_law_1176 rfl ?_
  refine r_iload_n dL_law_1177 rfl ?_
  refine r_iconst (v := nI 1) dL_law_1178 (by decide) ?_
  refine r_iadd dL_law_1179 ?_
  rw [nI_add]
  refine r_taldN dL_law_1180 (by omega) ?_
  refine r_v1rq (W_c (X_liftT (T_count (Z := Z) hc8) z_count) rfl (Nat.le_of_ble_eq_true rfl)) (Nat.le_of_ble_eq_true rfl) mrX4_count lkL_157 rfl rfl rfl dL_law_1181 (Nat.le_of_ble_eq_true rfl) (fun h9 _ g9 => ?_)
  obtain ⟨hx, q9, rfl⟩ := g9
  obtain ⟨A, f1, f2, f3, tok, s, b, nu, q9⟩ := q9
  refine r_heq q9.app ?_
  refine r_aload_n dL_law_1184 rfl ?_
  refine r_aload_n dL_law_1185 rfl ?_
  refine r_iload_n dL_law_1186 rfl ?_
  refine r_iconst (v := nI 1) dL_law_1187 (by decide) ?_
  refine r_iadd dL_law_1188 ?_
  rw [nI_add]
  refine r_taldN dL_law_1189 (by omega) ?_
  refine r_v1rq (W_m (Y_liftP (K := K) (P_count (Z := Z) hw.1.1.1 hw.1.1.2.2 hk) z_count) rfl rfl rfl rfl) (Nat.le_of_ble_eq_true rfl) mrX5_count lkL_160 rfl rfl rfl dL_law_1190 (Nat.le_of_ble_eq_true rfl) (fun h9 _ g9 => ?_)
  obtain ⟨hy, q8, rfl⟩ := g9
  obtain ⟨ks, ot, as, fl, a, b', v, w, mv, hk, q8⟩ := q8
  refine r_heq (HE.postM q8) ?_
  refine r_icmp_eq 1221 dL_law_1193 (by decide) (fun c1193 => ?_) (fun c1193 => ?_)
  · exact k _ (w_count hw) A f1 f2 f3 tok s b nu ks ot as fl a b' v w mv hk
  · exact absurd rfl c1193
theorem l_status {X : SX} {i : Nat} {L : GS} (hi : 6 * i + 6 ≤ X.1) (hX9 : X.1 ≤ 3072) (hw : wfG L) (k : ∀ L', wfG L' → LW X 1221 i L') : LW X 1198 i L := by
  obtain ⟨⟨R, K, kp, tc⟩, ⟨n, T⟩, Z⟩ := L
  intro A f1 f2 f3 tok s b nu ks ot as fl a b' v w mv hk
  dsimp only at hk ⊢
  have hc8 : cnt R ≤ 8 := hw.1.1.1.1
  refine r_aload_n dL_law_1198 rfl ?_
  refine r_aload_n dL_law_1199 rfl ?_
  refine r_iload_n dL_law_1200 rfl ?_
  refine r_iconst (v := nI 1) dL_law_1201 (by decide) ?_
  refine r_iadd dL_law_1202 ?_
  rw [nI_add]
  refine r_taldN dL_law_1203 (by omega) ?_
  refine r_v1rq (W_c (X_lift Q_status) rfl (Nat.le_of_ble_eq_true rfl)) (Nat.le_of_ble_eq_true rfl) mrX4_status lkL_161 rfl rfl rfl dL_law_1204 (Nat.le_of_ble_eq_true rfl) (fun h9 _ g9 => ?_)
  obtain ⟨hx, q9, rfl⟩ := g9
  obtain ⟨A, f1, f2, f3, tok, s, b, nu, q9⟩ := q9
  refine r_heq q9.app ?_
  refine r_aload_n dL_law_1207 rfl ?_
  refine r_aload_n dL_law_1208 rfl ?_
  refine r_iload_n dL_law_1209 rfl ?_
  refine r_iconst (v := nI 1) dL_law_1210 (by decide) ?_
  refine r_iadd dL_law_1211 ?_
  rw [nI_add]
  refine r_taldN dL_law_1212 (by omega) ?_
  refine r_v1rq (W_m (Y_lift (K := K) (N_status hk)) rfl rfl rfl rfl) (Nat.le_of_ble_eq_true rfl) mrX5_status lkL_164 rfl rfl rfl dL_law_1213 (Nat.le_of_ble_eq_true rfl) (fun h9 _ g9 => ?_)
  obtain ⟨hy, q8, rfl⟩ := g9
  obtain ⟨ks, ot, as, fl, a, b', v, w, mv, hk, q8⟩ := q8
  refine r_heq (HE.postM q8) ?_
  refine r_icmp_eq 1221 dL_law_1216 (by decide) (fun c1216 => ?_) (fun c1216 => ?_)
  · exact k _ (wG hw (w_status hw.1)) A f1 f2 f3 tok s b nu ks ot as fl a b' v w mv hk
  · exact absurd rfl c1216

