/-! the constructors -/
theorem okA_none {n c m : Nat} : okE n c (.inl (3, m, .inr (.inr (.inr (.inr (fun _ => none)))))) := fun i k h => by cases h
theorem okA_up {n c m i v : Nat} {f : Nat → Option Nat} (hv : okK n c v = true) (h : okE n c (.inl (3, m, .inr (.inr (.inr (.inr f)))))) : okE n c (.inl (3, m, .inr (.inr (.inr (.inr (va_up f i (some v))))))) := by
  intro j k hk
  simp only [va_up] at hk
  split at hk
  · cases hk; exact hv
  · exact h j k hk
theorem CE.refs {τ n : Nat} {f g : Nat → Option Nat} (h : ∀ i, i < n → f i = g i) : CE (.inl (τ, n, .inr (.inr (.inr (.inr f))))) (.inl (τ, n, .inr (.inr (.inr (.inr g))))) := by
  intro cs ad D q H
  show H[q]? = some (vp_cell (cs τ) (n, .inr (.inr (.inr (.inr (fun i => (f i).map ad)))))) ↔ H[q]? = some (vp_cell (cs τ) (n, .inr (.inr (.inr (.inr (fun i => (g i).map ad))))))
  have e9 : vp_cell (cs τ) (n, .inr (.inr (.inr (.inr (fun i => (f i).map ad))))) = vp_cell (cs τ) (n, .inr (.inr (.inr (.inr (fun i => (g i).map ad))))) := arrV_ext (F := fun j => va_rf ((f j).map ad)) (G := fun j => va_rf ((g j).map ad)) (fun i hi => by rw [h i hi])
  rw [e9]
/-- the places of a constructor that makes its cells behind the place b -/
def rs (b : Nat) : Nat → Nat := fun j => if j < 1000 then b + j else j
theorem rs_0 {b nc : Nat} (h : nc < 1000) : ∀ j, j ≤ nc → rs b j = b + j := fun j hj => if_pos (by omega)
theorem rs_1 {b : Nat} : ∀ k, rs b (1000 + k) = 1000 + k := fun k => if_neg (by omega)
theorem rs_2 {b nc : Nat} (h : b + 1 + nc ≤ 1000) : ∀ j, nc < j → rs b j < b ∨ b + 1 + nc ≤ rs b j := fun j hj => by
  unfold rs
  split <;> omega
/-- so with the place t of another cell, called 900 there, and no cell made -/
def rt (b t : Nat) : Nat → Nat := fun j => if j = 0 then b else if j = 900 then t else if j < 1000 then 1000000 + j else j
theorem rt_0 {b t : Nat} : ∀ j, j ≤ 0 → rt b t j = b + j := fun j hj => by
  obtain rfl : j = 0 := by omega
  rfl
theorem rt_1 {b t : Nat} : ∀ k, rt b t (1000 + k) = 1000 + k := fun k => by
  unfold rt
  rw [if_neg (by omega), if_neg (by omega), if_neg (by omega)]
theorem rt_2 {b t : Nat} (h : t < b) (hb : b < 1000) : ∀ j, 0 < j → rt b t j < b ∨ b + 1 + 0 ≤ rt b t j := fun j hj => by
  unfold rt
  rw [if_neg (by omega)]
  split
  · omega
  · split <;> omega
theorem n_init0 {X : SX} {d : Nat} {M : Mt} {nc ns pc : Nat} {lv : List (Option Value)} {st : List Value} {h0 : AH} {rv : Option Value} {Q : AH → Prop} {d' idx b nc' ns' : Nat} {M' : Mt} {eL e0 : AE} {QL : AH → Prop} (S : SpN d' M' [.ref 0] [eL] QL nc' ns') (hdd : d' + 1 ≤ d) (mr : MRi M' 0) (lk : LKm M.1.cls idx M'.1) (hd : decode M.2.1 pc = .ok (.invokespecial idx, 3)) (hw : (st.map fun v => v.category).sum ≤ 8) (hlen : h0.length = b) (hnd : va_nd (List.range b) = true) (he0 : rE (rs b) eL = e0) (hb : b + 1 + nc' ≤ 1000) (ok : okH (b + 1) nc' h0 ∧ lv.all (okO (b + 1) nc') = true ∧ st.all (okV (b + 1) nc') = true)
    (k : ∀ hL2 : AH, hL2.length = 1 + nc' → QL hL2 → RunN X d M (b + 1 + nc') nc ns (pc + 3) lv st (h0 ++ hL2.map (rE (rs b))) rv Q) : RunN X d M (b + 1) (nc' + nc) (ns' + ns) pc lv (.ref b :: st) (h0 ++ [e0]) rv Q :=
  n_init (rs b) [] [] S hdd mr lk hd hw hlen hnd he0 (rs_0 (by omega)) rs_1 (rs_2 hb) rfl ok k
theorem n_init1 {X : SX} {d : Nat} {M : Mt} {nc ns pc : Nat} {lv : List (Option Value)} {st : List Value} {h0 : AH} {rv : Option Value} {Q : AH → Prop} {d' idx b t ns' : Nat} {M' : Mt} {eL e0 : AE} {QL : AH → Prop} (S : SpN d' M' [.ref 0, .ref 900] [eL] QL 0 ns') (hdd : d' + 1 ≤ d) (mr : MRi M' 1) (lk : LKm M.1.cls idx M'.1) (hd : decode M.2.1 pc = .ok (.invokespecial idx, 3)) (hw : (st.map fun v => v.category).sum ≤ 8) (hlen : h0.length = b) (hnd : va_nd (List.range b) = true) (he0 : rE (rt b t) eL = e0) (ht : t < b) (hb : b < 1000) (ok : okH (b + 1) 0 h0 ∧ lv.all (okO (b + 1) 0) = true ∧ st.all (okV (b + 1) 0) = true)
    (k : ∀ hL2 : AH, hL2.length = 1 + 0 → QL hL2 → RunN X d M (b + 1 + 0) nc ns (pc + 3) lv st (h0 ++ hL2.map (rE (rt b t))) rv Q) : RunN X d M (b + 1) (0 + nc) (ns' + ns) pc lv (.ref t :: .ref b :: st) (h0 ++ [e0]) rv Q :=
  n_init (rt b t) [.ref 900] [.ref t] S hdd mr lk hd hw hlen hnd he0 rt_0 rt_1 (rt_2 ht hb) rfl ok k

theorem miX0_init : MRi mX0_init 0 := ⟨⟨gT_mem (tb1 79 rfl) rfl, gT_mem (tb1 3 rfl) rfl, (by decide +kernel), (Nat.le_of_ble_eq_true rfl), (by decide +kernel)⟩, gT_mem (tb1 78 rfl) rfl, rfl, rfl⟩
theorem pFX0_12 : POF RX0 12 0 0 (.object "OneLantern$Tape") := ⟨RX0, TX0, 5, tyX0, rfl, (Nat.le_of_ble_eq_true rfl), inGX0, gT_mem (tb1 97 rfl) rfl, rfl, rfl, (by decide +kernel), tyX0_ok, nmX0⟩
theorem miX1_init : MRi mX1_init 0 := ⟨⟨gT_mem (tb1 26 rfl) rfl, gT_mem (tb1 2 rfl) rfl, (by decide +kernel), (Nat.le_of_ble_eq_true rfl), (by decide +kernel)⟩, gT_mem (tb1 25 rfl) rfl, rfl, rfl⟩
theorem pFX1_19 : POF RX1 19 1 5 (.array .int) := ⟨RX1, TX1, 10, tyX1, rfl, (Nat.le_of_ble_eq_true rfl), inGX1, gT_mem (tb1 42 rfl) rfl, rfl, rfl, (by decide +kernel), tyX1_ok, nmX1⟩
theorem pFX1_23 : POF RX1 23 1 6 (.array .int) := ⟨RX1, TX1, 10, tyX1, rfl, (Nat.le_of_ble_eq_true rfl), inGX1, gT_mem (tb1 44 rfl) rfl, rfl, rfl, (by decide +kernel), tyX1_ok, nmX1⟩
theorem pFX1_26 : POF RX1 26 1 7 (.array .int) := ⟨RX1, TX1, 10, tyX1, rfl, (Nat.le_of_ble_eq_true rfl), inGX1, gT_mem (tb1 46 rfl) rfl, rfl, rfl, (by decide +kernel), tyX1_ok, nmX1⟩
theorem pFX1_29 : POF RX1 29 1 8 (.array .int) := ⟨RX1, TX1, 10, tyX1, rfl, (Nat.le_of_ble_eq_true rfl), inGX1, gT_mem (tb1 48 rfl) rfl, rfl, rfl, (by decide +kernel), tyX1_ok, nmX1⟩
theorem miX2_init : MRi mX2_init 0 := ⟨⟨gT_mem (tb1 119 rfl) rfl, gT_mem (tb1 5 rfl) rfl, (by decide +kernel), (Nat.le_of_ble_eq_true rfl), (by decide +kernel)⟩, gT_mem (tb1 118 rfl) rfl, rfl, rfl⟩
theorem pFX2_9 : POF RX2 9 2 2 (.array .long) := ⟨RX2, TX2, 3, tyX2, rfl, (Nat.le_of_ble_eq_true rfl), inGX2, gT_mem (tb1 125 rfl) rfl, rfl, rfl, (by decide +kernel), tyX2_ok, nmX2⟩
theorem miX3_init : MRi mX3_init 0 := ⟨⟨gT_mem (tb1 85 rfl) rfl, gT_mem (tb1 4 rfl) rfl, (by decide +kernel), (Nat.le_of_ble_eq_true rfl), (by decide +kernel)⟩, gT_mem (tb1 84 rfl) rfl, rfl, rfl⟩
theorem pFX3_9 : POF RX3 9 3 0 (.array .byte) := ⟨RX3, TX3, 2, tyX3, rfl, (Nat.le_of_ble_eq_true rfl), inGX3, gT_mem (tb1 87 rfl) rfl, rfl, rfl, (by decide +kernel), tyX3_ok, nmX3⟩
theorem miX4_init : MRi mX4_init 0 := ⟨⟨gT_mem (tb1 18 rfl) rfl, gT_mem (tb1 1 rfl) rfl, (by decide +kernel), (Nat.le_of_ble_eq_true rfl), (by decide +kernel)⟩, gT_mem (tb1 17 rfl) rfl, rfl, rfl⟩
theorem pFX4_12 : POF RX4 12 4 0 (.object "OneLantern$Row") := ⟨RX4, TX4, 7, tyX4, rfl, (Nat.le_of_ble_eq_true rfl), inGX4, gT_mem (tb1 135 rfl) rfl, rfl, rfl, (by decide +kernel), tyX4_ok, nmX4⟩
theorem pFX4_16 : POF RX4 16 4 1 (.object "OneLantern$Row") := ⟨RX4, TX4, 7, tyX4, rfl, (Nat.le_of_ble_eq_true rfl), inGX4, gT_mem (tb1 136 rfl) rfl, rfl, rfl, (by decide +kernel), tyX4_ok, nmX4⟩
theorem pFX4_19 : POF RX4 19 4 2 (.object "OneLantern$Row") := ⟨RX4, TX4, 7, tyX4, rfl, (Nat.le_of_ble_eq_true rfl), inGX4, gT_mem (tb1 137 rfl) rfl, rfl, rfl, (by decide +kernel), tyX4_ok, nmX4⟩
theorem pFX4_25 : POF RX4 25 4 4 (.object "OneLantern$NightReader") := ⟨RX4, TX4, 7, tyX4, rfl, (Nat.le_of_ble_eq_true rfl), inGX4, gT_mem (tb1 139 rfl) rfl, rfl, rfl, (by decide +kernel), tyX4_ok, nmX4⟩
theorem pFX4_31 : POF RX4 31 4 5 (.array (.object "OneLantern$Sheet")) := ⟨RX4, TX4, 7, tyX4, rfl, (Nat.le_of_ble_eq_true rfl), inGX4, gT_mem (tb1 140 rfl) rfl, rfl, rfl, (by decide +kernel), tyX4_ok, nmX4⟩
theorem pFX4_35 : POF RX4 35 4 6 (.array .int) := ⟨RX4, TX4, 7, tyX4, rfl, (Nat.le_of_ble_eq_true rfl), inGX4, gT_mem (tb1 141 rfl) rfl, rfl, rfl, (by decide +kernel), tyX4_ok, nmX4⟩
theorem miX5_init : MRi mX5_init 0 := ⟨⟨gT_mem (tb3 162 rfl) rfl, gT_mem (tb1 6 rfl) rfl, (by decide +kernel), (Nat.le_of_ble_eq_true rfl), (by decide +kernel)⟩, gT_mem (tb3 161 rfl) rfl, rfl, rfl⟩
theorem pFX5_7 : POF RX5 7 5 0 (.array .int) := ⟨RX5, TX5, 17, tyX5, rfl, (Nat.le_of_ble_eq_true rfl), inGX5, gT_mem (tb3 164 rfl) rfl, rfl, rfl, (by decide +kernel), tyX5_ok, nmX5⟩
theorem pFX5_13 : POF RX5 13 5 1 (.array .int) := ⟨RX5, TX5, 17, tyX5, rfl, (Nat.le_of_ble_eq_true rfl), inGX5, gT_mem (tb3 165 rfl) rfl, rfl, rfl, (by decide +kernel), tyX5_ok, nmX5⟩
theorem pFX5_16 : POF RX5 16 5 2 (.array .int) := ⟨RX5, TX5, 17, tyX5, rfl, (Nat.le_of_ble_eq_true rfl), inGX5, gT_mem (tb3 166 rfl) rfl, rfl, rfl, (by decide +kernel), tyX5_ok, nmX5⟩
theorem pFX5_19 : POF RX5 19 5 3 (.array .int) := ⟨RX5, TX5, 17, tyX5, rfl, (Nat.le_of_ble_eq_true rfl), inGX5, gT_mem (tb3 167 rfl) rfl, rfl, rfl, (by decide +kernel), tyX5_ok, nmX5⟩
theorem pFX5_22 : POF RX5 22 5 4 (.array .int) := ⟨RX5, TX5, 17, tyX5, rfl, (Nat.le_of_ble_eq_true rfl), inGX5, gT_mem (tb3 168 rfl) rfl, rfl, rfl, (by decide +kernel), tyX5_ok, nmX5⟩
theorem pFX5_25 : POF RX5 25 5 7 (.array .int) := ⟨RX5, TX5, 17, tyX5, rfl, (Nat.le_of_ble_eq_true rfl), inGX5, gT_mem (tb3 171 rfl) rfl, rfl, rfl, (by decide +kernel), tyX5_ok, nmX5⟩
theorem pFX5_28 : POF RX5 28 5 13 (.array .int) := ⟨RX5, TX5, 17, tyX5, rfl, (Nat.le_of_ble_eq_true rfl), inGX5, gT_mem (tb3 177 rfl) rfl, rfl, rfl, (by decide +kernel), tyX5_ok, nmX5⟩
theorem pFX5_31 : POF RX5 31 5 14 (.array .int) := ⟨RX5, TX5, 17, tyX5, rfl, (Nat.le_of_ble_eq_true rfl), inGX5, gT_mem (tb3 178 rfl) rfl, rfl, rfl, (by decide +kernel), tyX5_ok, nmX5⟩
theorem pFX5_34 : POF RX5 34 5 15 (.array .long) := ⟨RX5, TX5, 17, tyX5, rfl, (Nat.le_of_ble_eq_true rfl), inGX5, gT_mem (tb3 179 rfl) rfl, rfl, rfl, (by decide +kernel), tyX5_ok, nmX5⟩
theorem pFX5_38 : POF RX5 38 5 16 (.array .long) := ⟨RX5, TX5, 17, tyX5, rfl, (Nat.le_of_ble_eq_true rfl), inGX5, gT_mem (tb3 180 rfl) rfl, rfl, rfl, (by decide +kernel), tyX5_ok, nmX5⟩
theorem N_X1_init : SpN 1 mX1_init [.ref 0] [.inr (1, [.int 0, .int 0, .int 0, .int 0, .int 0, .null, .null, .null, .null, .int 0])] (fun h => h = [.inr (1, [.int 0, .int 16909320, .int 0, .int (nI 3), .int 0, .ref 1, .ref 2, .ref 3, .ref 4, .int 0]), .inl (0, 8, .inl (fun _ => 0)), .inl (0, 8, .inl (fun _ => 0)), .inl (0, 8, .inl (fun _ => 0)), .inl (0, 8, .inl (fun _ => 0))]) 4 32 := by
  refine SpN.of [some (.ref 0)] miX1_init.1 (fun h' q => by rw [q]; rfl) (Nat.le_of_ble_eq_true rfl) rfl (Nat.le_of_ble_eq_true rfl) (fun X => ?_)
  show RunN X 1 mX1_init 1 4 32 0 [some (.ref 0)] [] [.inr (1, [.int 0, .int 0, .int 0, .int 0, .int 0, .null, .null, .null, .null, .int 0])] none _
  refine n_aload_n dX1_init_0 rfl ?_
  refine n_obj dX1_init_1 (gT_mem (tb1 27 rfl) rfl) (by decide) (Nat.le_of_ble_eq_true rfl) ?_
  refine n_aload_n dX1_init_4 rfl ?_
  refine n_ldc kX1_9 dX1_init_5 ?_
  refine n_putfield (fs' := [_, _, _, _, _, _, _, _, _, _]) (h' := [.inr (1, [.int 0, .int 16909320, .int 0, .int 0, .int 0, .null, .null, .null, .null, .int 0])]) dX1_init_7 pfX1_10 rfl (Nat.le_of_ble_eq_true rfl) (fun _ => rfl) rfl rfl rfl rfl ?_
  refine n_aload_n dX1_init_10 rfl ?_
  refine n_iconst (v := nI 3) dX1_init_11 (by decide) ?_
  refine n_putfield (fs' := [_, _, _, _, _, _, _, _, _, _]) (h' := [.inr (1, [.int 0, .int 16909320, .int 0, .int (nI 3), .int 0, .null, .null, .null, .null, .int 0])]) dX1_init_12 pfX1_16 rfl (Nat.le_of_ble_eq_true rfl) (fun _ => rfl) rfl rfl rfl rfl ?_
  refine n_aload_n dX1_init_15 rfl ?_
  refine n_bipush (v := nI 8) dX1_init_16 (by decide) ?_
  refine n_newI (n := 1) (nc := 3) (ns := 24) 8 dX1_init_18 (by decide) rfl ⟨(by repeat (first | exact trivial | refine And.intro rfl ?_ | refine And.intro trivial ?_ | refine And.intro (by repeat (first | exact okA_none | refine okA_up rfl ?_)) ?_)), rfl, rfl⟩ ?_
  refine n_heq (h' := [.inr (1, [.int 0, .int 16909320, .int 0, .int (nI 3), .int 0, .null, .null, .null, .null, .int 0]), .inl (0, 8, .inl (fun _ => 0))]) (HE.of rfl) ?_
  refine n_putF (fs' := [_, _, _, _, _, _, _, _, _, _]) (h' := [.inr (1, [.int 0, .int 16909320, .int 0, .int (nI 3), .int 0, .ref 1, .null, .null, .null, .int 0]), .inl (0, 8, .inl (fun _ => 0))]) dX1_init_20 pFX1_19 rfl rfl (Nat.le_of_ble_eq_true rfl) (fun _ => rfl) (fun _ => rfl) rfl rfl ?_
  refine n_aload_n dX1_init_23 rfl ?_
  refine n_bipush (v := nI 8) dX1_init_24 (by decide) ?_
  refine n_newI (n := 2) (nc := 2) (ns := 16) 8 dX1_init_26 (by decide) rfl ⟨(by repeat (first | exact trivial | refine And.intro rfl ?_ | refine And.intro trivial ?_ | refine And.intro (by repeat (first | exact okA_none | refine okA_up rfl ?_)) ?_)), rfl, rfl⟩ ?_
  refine n_heq (h' := [.inr (1, [.int 0, .int 16909320, .int 0, .int (nI 3), .int 0, .ref 1, .null, .null, .null, .int 0]), .inl (0, 8, .inl (fun _ => 0)), .inl (0, 8, .inl (fun _ => 0))]) (HE.of rfl) ?_
  refine n_putF (fs' := [_, _, _, _, _, _, _, _, _, _]) (h' := [.inr (1, [.int 0, .int 16909320, .int 0, .int (nI 3), .int 0, .ref 1, .ref 2, .null, .null, .int 0]), .inl (0, 8, .inl (fun _ => 0)), .inl (0, 8, .inl (fun _ => 0))]) dX1_init_28 pFX1_23 rfl rfl (Nat.le_of_ble_eq_true rfl) (fun _ => rfl) (fun _ => rfl) rfl rfl ?_
  refine n_aload_n dX1_init_31 rfl ?_
  refine n_bipush (v := nI 8) dX1_init_32 (by decide) ?_
  refine n_newI (n := 3) (nc := 1) (ns := 8) 8 dX1_init_34 (by decide) rfl ⟨(by repeat (first | exact trivial | refine And.intro rfl ?_ | refine And.intro trivial ?_ | refine And.intro (by repeat (first | exact okA_none | refine okA_up rfl ?_)) ?_)), rfl, rfl⟩ ?_
  refine n_heq (h' := [.inr (1, [.int 0, .int 16909320, .int 0, .int (nI 3), .int 0, .ref 1, .ref 2, .null, .null, .int 0]), .inl (0, 8, .inl (fun _ => 0)), .inl (0, 8, .inl (fun _ => 0)), .inl (0, 8, .inl (fun _ => 0))]) (HE.of rfl) ?_
  refine n_putF (fs' := [_, _, _, _, _, _, _, _, _, _]) (h' := [.inr (1, [.int 0, .int 16909320, .int 0, .int (nI 3), .int 0, .ref 1, .ref 2, .ref 3, .null, .int 0]), .inl (0, 8, .inl (fun _ => 0)), .inl (0, 8, .inl (fun _ => 0)), .inl (0, 8, .inl (fun _ => 0))]) dX1_init_36 pFX1_26 rfl rfl (Nat.le_of_ble_eq_true rfl) (fun _ => rfl) (fun _ => rfl) rfl rfl ?_
  refine n_aload_n dX1_init_39 rfl ?_
  refine n_bipush (v := nI 8) dX1_init_40 (by decide) ?_
  refine n_newI (n := 4) (nc := 0) (ns := 0) 8 dX1_init_42 (by decide) rfl ⟨(by repeat (first | exact trivial | refine And.intro rfl ?_ | refine And.intro trivial ?_ | refine And.intro (by repeat (first | exact okA_none | refine okA_up rfl ?_)) ?_)), rfl, rfl⟩ ?_
  refine n_heq (h' := [.inr (1, [.int 0, .int 16909320, .int 0, .int (nI 3), .int 0, .ref 1, .ref 2, .ref 3, .null, .int 0]), .inl (0, 8, .inl (fun _ => 0)), .inl (0, 8, .inl (fun _ => 0)), .inl (0, 8, .inl (fun _ => 0)), .inl (0, 8, .inl (fun _ => 0))]) (HE.of rfl) ?_
  refine n_putF (fs' := [_, _, _, _, _, _, _, _, _, _]) (h' := [.inr (1, [.int 0, .int 16909320, .int 0, .int (nI 3), .int 0, .ref 1, .ref 2, .ref 3, .ref 4, .int 0]), .inl (0, 8, .inl (fun _ => 0)), .inl (0, 8, .inl (fun _ => 0)), .inl (0, 8, .inl (fun _ => 0)), .inl (0, 8, .inl (fun _ => 0))]) dX1_init_44 pFX1_29 rfl rfl (Nat.le_of_ble_eq_true rfl) (fun _ => rfl) (fun _ => rfl) rfl rfl ?_
  refine n_vret dX1_init_47 rfl ?_
  rfl
theorem N_X2_init : SpN 1 mX2_init [.ref 0] [.inr (2, [.int 0, .int 0, .null])] (fun h => h = [.inr (2, [.int 0, .int 0, .ref 1]), .inl (1, 40, .inr (.inl (fun _ => 0)))]) 1 40 := by
  refine SpN.of [some (.ref 0)] miX2_init.1 (fun h' q => by rw [q]; rfl) (Nat.le_of_ble_eq_true rfl) rfl (Nat.le_of_ble_eq_true rfl) (fun X => ?_)
  show RunN X 1 mX2_init 1 1 40 0 [some (.ref 0)] [] [.inr (2, [.int 0, .int 0, .null])] none _
  refine n_aload_n dX2_init_0 rfl ?_
  refine n_obj dX2_init_1 (gT_mem (tb1 120 rfl) rfl) (by decide) (Nat.le_of_ble_eq_true rfl) ?_
  refine n_aload_n dX2_init_4 rfl ?_
  refine n_bipush (v := nI 40) dX2_init_5 (by decide) ?_
  refine n_newJ (n := 1) (nc := 0) (ns := 0) 40 dX2_init_7 (by decide) rfl ⟨(by repeat (first | exact trivial | refine And.intro rfl ?_ | refine And.intro trivial ?_ | refine And.intro (by repeat (first | exact okA_none | refine okA_up rfl ?_)) ?_)), rfl, rfl⟩ ?_
  refine n_heq (h' := [.inr (2, [.int 0, .int 0, .null]), .inl (1, 40, .inr (.inl (fun _ => 0)))]) (HE.of rfl) ?_
  refine n_putF (fs' := [_, _, _]) (h' := [.inr (2, [.int 0, .int 0, .ref 1]), .inl (1, 40, .inr (.inl (fun _ => 0)))]) dX2_init_9 pFX2_9 rfl rfl (Nat.le_of_ble_eq_true rfl) (fun _ => rfl) (fun _ => rfl) rfl rfl ?_
  refine n_vret dX2_init_12 rfl ?_
  rfl
theorem N_X3_init : SpN 1 mX3_init [.ref 0] [.inr (3, [.null, .int 0])] (fun h => h = [.inr (3, [.ref 1, .int 0]), .inl (2, 120, .inl (fun _ => 0))]) 1 120 := by
  refine SpN.of [some (.ref 0)] miX3_init.1 (fun h' q => by rw [q]; rfl) (Nat.le_of_ble_eq_true rfl) rfl (Nat.le_of_ble_eq_true rfl) (fun X => ?_)
  show RunN X 1 mX3_init 1 1 120 0 [some (.ref 0)] [] [.inr (3, [.null, .int 0])] none _
  refine n_aload_n dX3_init_0 rfl ?_
  refine n_obj dX3_init_1 (gT_mem (tb1 86 rfl) rfl) (by decide) (Nat.le_of_ble_eq_true rfl) ?_
  refine n_aload_n dX3_init_4 rfl ?_
  refine n_bipush (v := nI 120) dX3_init_5 (by decide) ?_
  refine n_newB (n := 1) (nc := 0) (ns := 0) 120 dX3_init_7 (by decide) rfl ⟨(by repeat (first | exact trivial | refine And.intro rfl ?_ | refine And.intro trivial ?_ | refine And.intro (by repeat (first | exact okA_none | refine okA_up rfl ?_)) ?_)), rfl, rfl⟩ ?_
  refine n_heq (h' := [.inr (3, [.null, .int 0]), .inl (2, 120, .inl (fun _ => 0))]) (HE.of rfl) ?_
  refine n_putF (fs' := [_, _]) (h' := [.inr (3, [.ref 1, .int 0]), .inl (2, 120, .inl (fun _ => 0))]) dX3_init_9 pFX3_9 rfl rfl (Nat.le_of_ble_eq_true rfl) (fun _ => rfl) (fun _ => rfl) rfl rfl ?_
  refine n_vret dX3_init_12 rfl ?_
  rfl
theorem N_X0_init : SpN 2 mX0_init [.ref 0] [.inr (0, [.null, .int 0, .int 0, .int 0, .int 0])] (fun h => h = [.inr (0, [.ref 1, .int 0, .int 0, .int 0, .int 0]), .inr (3, [.ref 2, .int 0]), .inl (2, 120, .inl (fun _ => 0))]) 2 122 := by
  refine SpN.of [some (.ref 0)] miX0_init.1 (fun h' q => by rw [q]; rfl) (Nat.le_of_ble_eq_true rfl) rfl (Nat.le_of_ble_eq_true rfl) (fun X => ?_)
  show RunN X 2 mX0_init 1 2 122 0 [some (.ref 0)] [] [.inr (0, [.null, .int 0, .int 0, .int 0, .int 0])] none _
  refine n_aload_n dX0_init_0 rfl ?_
  refine n_obj dX0_init_1 (gT_mem (tb1 80 rfl) rfl) (by decide) (Nat.le_of_ble_eq_true rfl) ?_
  refine n_aload_n dX0_init_4 rfl ?_
  refine n_new (N := 2) (n := 1) (nc := 1) (ns := 120) (ci := 3) (fs := [.null, .int 0]) dX0_init_5 rfl inGX3 tyX3 tyX3_ok (gT_mem (tb1 81 rfl) rfl) (gT_mem (tb1 82 rfl) rfl) (gT_mem (tb1 4 rfl) rfl) (fun j hj => by rcases (show j = 0 ∨ j = 1 by omega) with rfl | rfl <;> rfl) (fun _ => rfl) rfl ⟨(by repeat (first | exact trivial | refine And.intro rfl ?_ | refine And.intro trivial ?_ | refine And.intro (by repeat (first | exact okA_none | refine okA_up rfl ?_)) ?_)), rfl, rfl⟩ ?_
  refine n_dup dX0_init_8 rfl ?_
  refine n_init0 (b := 1) (nc := 0) (ns := 0) N_X3_init (Nat.le_of_ble_eq_true rfl) miX3_init lkX0_11 dX0_init_9 (Nat.le_of_ble_eq_true rfl) rfl rfl rfl (by decide) ⟨(by repeat (first | exact trivial | refine And.intro rfl ?_ | refine And.intro trivial ?_ | refine And.intro (by repeat (first | exact okA_none | refine okA_up rfl ?_)) ?_)), rfl, rfl⟩ (fun hL2 hl9 q9 => ?_)
  subst q9
  refine n_heq (h' := [.inr (0, [.null, .int 0, .int 0, .int 0, .int 0]), .inr (3, [.ref 2, .int 0]), .inl (2, 120, .inl (fun _ => 0))]) (HE.of rfl) ?_
  refine n_putF (fs' := [_, _, _, _, _]) (h' := [.inr (0, [.ref 1, .int 0, .int 0, .int 0, .int 0]), .inr (3, [.ref 2, .int 0]), .inl (2, 120, .inl (fun _ => 0))]) dX0_init_12 pFX0_12 rfl rfl (Nat.le_of_ble_eq_true rfl) (fun _ => rfl) (fun _ => rfl) rfl rfl ?_
  refine n_vret dX0_init_15 rfl ?_
  rfl
/-- the start: the row, the sheets -/
def R0 : RS := ((0, 16909320, 0, 3, 0), (fun _ => 0), (fun _ => 0), (fun _ => 0), (fun _ => 0))
def Z0 : Nat → SHT := fun _ => (0, 0, fun _ => 0)
def L0 : GS := ((R0, R0, false, fun _ => 0), (0, fun _ => 0), Z0)
abbrev hX0 : AH := [.inr (4, [.ref 1, .ref 6, .ref 11, .int 0, .ref 16, .ref 19, .ref 20]), .inr (1, [.int 0, .int 16909320, .int 0, .int (nI 3), .int 0, .ref 2, .ref 3, .ref 4, .ref 5, .int 0]), .inl (0, 8, .inl (fun _ => 0)), .inl (0, 8, .inl (fun _ => 0)), .inl (0, 8, .inl (fun _ => 0)), .inl (0, 8, .inl (fun _ => 0)), .inr (1, [.int 0, .int 16909320, .int 0, .int (nI 3), .int 0, .ref 7, .ref 8, .ref 9, .ref 10, .int 0]), .inl (0, 8, .inl (fun _ => 0)), .inl (0, 8, .inl (fun _ => 0)), .inl (0, 8, .inl (fun _ => 0)), .inl (0, 8, .inl (fun _ => 0)), .inr (1, [.int 0, .int 16909320, .int 0, .int (nI 3), .int 0, .ref 12, .ref 13, .ref 14, .ref 15, .int 0]), .inl (0, 8, .inl (fun _ => 0)), .inl (0, 8, .inl (fun _ => 0)), .inl (0, 8, .inl (fun _ => 0)), .inl (0, 8, .inl (fun _ => 0)), .inr (0, [.ref 17, .int 0, .int 0, .int 0, .int 0]), .inr (3, [.ref 18, .int 0]), .inl (2, 120, .inl (fun _ => 0)), .inl (3, 4, .inr (.inr (.inr (.inr (va_up (va_up (va_up (va_up (fun _ => none) 0 (some 21)) 1 (some 23)) 2 (some 25)) 3 (some 27)))))), .inl (0, 7, .inl (fun _ => 0)), .inr (2, [.int 0, .int 0, .ref 22]), .inl (1, 40, .inr (.inl (fun _ => 0))), .inr (2, [.int 0, .int 0, .ref 24]), .inl (1, 40, .inr (.inl (fun _ => 0))), .inr (2, [.int 0, .int 0, .ref 26]), .inl (1, 40, .inr (.inl (fun _ => 0))), .inr (2, [.int 0, .int 0, .ref 28]), .inl (1, 40, .inr (.inl (fun _ => 0)))]
theorem N_X4_init : SpN 3 mX4_init [.ref 0] [.inr (4, [.null, .null, .null, .int 0, .null, .null, .null])] (fun h => h = [.inr (4, [.ref 1, .ref 6, .ref 11, .int 0, .ref 16, .ref 19, .ref 20]), .inr (1, [.int 0, .int 16909320, .int 0, .int (nI 3), .int 0, .ref 2, .ref 3, .ref 4, .ref 5, .int 0]), .inl (0, 8, .inl (fun _ => 0)), .inl (0, 8, .inl (fun _ => 0)), .inl (0, 8, .inl (fun _ => 0)), .inl (0, 8, .inl (fun _ => 0)), .inr (1, [.int 0, .int 16909320, .int 0, .int (nI 3), .int 0, .ref 7, .ref 8, .ref 9, .ref 10, .int 0]), .inl (0, 8, .inl (fun _ => 0)), .inl (0, 8, .inl (fun _ => 0)), .inl (0, 8, .inl (fun _ => 0)), .inl (0, 8, .inl (fun _ => 0)), .inr (1, [.int 0, .int 16909320, .int 0, .int (nI 3), .int 0, .ref 12, .ref 13, .ref 14, .ref 15, .int 0]), .inl (0, 8, .inl (fun _ => 0)), .inl (0, 8, .inl (fun _ => 0)), .inl (0, 8, .inl (fun _ => 0)), .inl (0, 8, .inl (fun _ => 0)), .inr (0, [.ref 17, .int 0, .int 0, .int 0, .int 0]), .inr (3, [.ref 18, .int 0]), .inl (2, 120, .inl (fun _ => 0)), .inl (3, 4, .inr (.inr (.inr (.inr (va_up (va_up (va_up (va_up (fun _ => none) 0 (some 21)) 1 (some 23)) 2 (some 25)) 3 (some 27)))))), .inl (0, 7, .inl (fun _ => 0)), .inr (2, [.int 0, .int 0, .ref 22]), .inl (1, 40, .inr (.inl (fun _ => 0))), .inr (2, [.int 0, .int 0, .ref 24]), .inl (1, 40, .inr (.inl (fun _ => 0))), .inr (2, [.int 0, .int 0, .ref 26]), .inl (1, 40, .inr (.inl (fun _ => 0))), .inr (2, [.int 0, .int 0, .ref 28]), .inl (1, 40, .inr (.inl (fun _ => 0)))]) 28 436 := by
  refine SpN.of [some (.ref 0), none] miX4_init.1 (fun h' q => by rw [q]; rfl) (Nat.le_of_ble_eq_true rfl) rfl (Nat.le_of_ble_eq_true rfl) (fun X => ?_)
  show RunN X 3 mX4_init 1 28 436 0 [some (.ref 0), none] [] [.inr (4, [.null, .null, .null, .int 0, .null, .null, .null])] none _
  refine n_aload_n dX4_init_0 rfl ?_
  refine n_obj dX4_init_1 (gT_mem (tb1 19 rfl) rfl) (by decide) (Nat.le_of_ble_eq_true rfl) ?_
  refine n_aload_n dX4_init_4 rfl ?_
  refine n_new (N := 10) (n := 1) (nc := 27) (ns := 426) (ci := 1) (fs := [.int 0, .int 0, .int 0, .int 0, .int 0, .null, .null, .null, .null, .int 0]) dX4_init_5 rfl inGX1 tyX1 tyX1_ok (gT_mem (tb1 22 rfl) rfl) (gT_mem (tb1 23 rfl) rfl) (gT_mem (tb1 2 rfl) rfl) (fun j hj => by rcases (show j = 0 ∨ j = 1 ∨ j = 2 ∨ j = 3 ∨ j = 4 ∨ j = 5 ∨ j = 6 ∨ j = 7 ∨ j = 8 ∨ j = 9 by omega) with rfl | rfl | rfl | rfl | rfl | rfl | rfl | rfl | rfl | rfl <;> rfl) (fun _ => rfl) rfl ⟨(by repeat (first | exact trivial | refine And.intro rfl ?_ | refine And.intro trivial ?_ | refine And.intro (by repeat (first | exact okA_none | refine okA_up rfl ?_)) ?_)), rfl, rfl⟩ ?_
  refine n_dup dX4_init_8 rfl ?_
  refine n_init0 (b := 1) (nc := 23) (ns := 394) N_X1_init (Nat.le_of_ble_eq_true rfl) miX1_init lkX4_11 dX4_init_9 (Nat.le_of_ble_eq_true rfl) rfl rfl rfl (by decide) ⟨(by repeat (first | exact trivial | refine And.intro rfl ?_ | refine And.intro trivial ?_ | refine And.intro (by repeat (first | exact okA_none | refine okA_up rfl ?_)) ?_)), rfl, rfl⟩ (fun hL2 hl9 q9 => ?_)
  subst q9
  refine n_heq (h' := [.inr (4, [.null, .null, .null, .int 0, .null, .null, .null]), .inr (1, [.int 0, .int 16909320, .int 0, .int (nI 3), .int 0, .ref 2, .ref 3, .ref 4, .ref 5, .int 0]), .inl (0, 8, .inl (fun _ => 0)), .inl (0, 8, .inl (fun _ => 0)), .inl (0, 8, .inl (fun _ => 0)), .inl (0, 8, .inl (fun _ => 0))]) (HE.of rfl) ?_
  refine n_putF (fs' := [_, _, _, _, _, _, _]) (h' := [.inr (4, [.ref 1, .null, .null, .int 0, .null, .null, .null]), .inr (1, [.int 0, .int 16909320, .int 0, .int (nI 3), .int 0, .ref 2, .ref 3, .ref 4, .ref 5, .int 0]), .inl (0, 8, .inl (fun _ => 0)), .inl (0, 8, .inl (fun _ => 0)), .inl (0, 8, .inl (fun _ => 0)), .inl (0, 8, .inl (fun _ => 0))]) dX4_init_12 pFX4_12 rfl rfl (Nat.le_of_ble_eq_true rfl) (fun _ => rfl) (fun _ => rfl) rfl rfl ?_
  refine n_aload_n dX4_init_15 rfl ?_
  refine n_new (N := 10) (n := 6) (nc := 22) (ns := 384) (ci := 1) (fs := [.int 0, .int 0, .int 0, .int 0, .int 0, .null, .null, .null, .null, .int 0]) dX4_init_16 rfl inGX1 tyX1 tyX1_ok (gT_mem (tb1 22 rfl) rfl) (gT_mem (tb1 23 rfl) rfl) (gT_mem (tb1 2 rfl) rfl) (fun j hj => by rcases (show j = 0 ∨ j = 1 ∨ j = 2 ∨ j = 3 ∨ j = 4 ∨ j = 5 ∨ j = 6 ∨ j = 7 ∨ j = 8 ∨ j = 9 by omega) with rfl | rfl | rfl | rfl | rfl | rfl | rfl | rfl | rfl | rfl <;> rfl) (fun _ => rfl) rfl ⟨(by repeat (first | exact trivial | refine And.intro rfl ?_ | refine And.intro trivial ?_ | refine And.intro (by repeat (first | exact okA_none | refine okA_up rfl ?_)) ?_)), rfl, rfl⟩ ?_
  refine n_dup dX4_init_19 rfl ?_
  refine n_init0 (b := 6) (nc := 18) (ns := 352) N_X1_init (Nat.le_of_ble_eq_true rfl) miX1_init lkX4_11 dX4_init_20 (Nat.le_of_ble_eq_true rfl) rfl rfl rfl (by decide) ⟨(by repeat (first | exact trivial | refine And.intro rfl ?_ | refine And.intro trivial ?_ | refine And.intro (by repeat (first | exact okA_none | refine okA_up rfl ?_)) ?_)), rfl, rfl⟩ (fun hL2 hl9 q9 => ?_)
  subst q9
  refine n_heq (h' := [.inr (4, [.ref 1, .null, .null, .int 0, .null, .null, .null]), .inr (1, [.int 0, .int 16909320, .int 0, .int (nI 3), .int 0, .ref 2, .ref 3, .ref 4, .ref 5, .int 0]), .inl (0, 8, .inl (fun _ => 0)), .inl (0, 8, .inl (fun _ => 0)), .inl (0, 8, .inl (fun _ => 0)), .inl (0, 8, .inl (fun _ => 0)), .inr (1, [.int 0, .int 16909320, .int 0, .int (nI 3), .int 0, .ref 7, .ref 8, .ref 9, .ref 10, .int 0]), .inl (0, 8, .inl (fun _ => 0)), .inl (0, 8, .inl (fun _ => 0)), .inl (0, 8, .inl (fun _ => 0)), .inl (0, 8, .inl (fun _ => 0))]) (HE.of rfl) ?_
  refine n_putF (fs' := [_, _, _, _, _, _, _]) (h' := [.inr (4, [.ref 1, .ref 6, .null, .int 0, .null, .null, .null]), .inr (1, [.int 0, .int 16909320, .int 0, .int (nI 3), .int 0, .ref 2, .ref 3, .ref 4, .ref 5, .int 0]), .inl (0, 8, .inl (fun _ => 0)), .inl (0, 8, .inl (fun _ => 0)), .inl (0, 8, .inl (fun _ => 0)), .inl (0, 8, .inl (fun _ => 0)), .inr (1, [.int 0, .int 16909320, .int 0, .int (nI 3), .int 0, .ref 7, .ref 8, .ref 9, .ref 10, .int 0]), .inl (0, 8, .inl (fun _ => 0)), .inl (0, 8, .inl (fun _ => 0)), .inl (0, 8, .inl (fun _ => 0)), .inl (0, 8, .inl (fun _ => 0))]) dX4_init_23 pFX4_16 rfl rfl (Nat.le_of_ble_eq_true rfl) (fun _ => rfl) (fun _ => rfl) rfl rfl ?_
  refine n_aload_n dX4_init_26 rfl ?_
  refine n_new (N := 10) (n := 11) (nc := 17) (ns := 342) (ci := 1) (fs := [.int 0, .int 0, .int 0, .int 0, .int 0, .null, .null, .null, .null, .int 0]) dX4_init_27 rfl inGX1 tyX1 tyX1_ok (gT_mem (tb1 22 rfl) rfl) (gT_mem (tb1 23 rfl) rfl) (gT_mem (tb1 2 rfl) rfl) (fun j hj => by rcases (show j = 0 ∨ j = 1 ∨ j = 2 ∨ j = 3 ∨ j = 4 ∨ j = 5 ∨ j = 6 ∨ j = 7 ∨ j = 8 ∨ j = 9 by omega) with rfl | rfl | rfl | rfl | rfl | rfl | rfl | rfl | rfl | rfl <;> rfl) (fun _ => rfl) rfl ⟨(by repeat (first | exact trivial | refine And.intro rfl ?_ | refine And.intro trivial ?_ | refine And.intro (by repeat (first | exact okA_none | refine okA_up rfl ?_)) ?_)), rfl, rfl⟩ ?_
  refine n_dup dX4_init_30 rfl ?_
  refine n_init0 (b := 11) (nc := 13) (ns := 310) N_X1_init (Nat.le_of_ble_eq_true rfl) miX1_init lkX4_11 dX4_init_31 (Nat.le_of_ble_eq_true rfl) rfl rfl rfl (by decide) ⟨(by repeat (first | exact trivial | refine And.intro rfl ?_ | refine And.intro trivial ?_ | refine And.intro (by repeat (first | exact okA_none | refine okA_up rfl ?_)) ?_)), rfl, rfl⟩ (fun hL2 hl9 q9 => ?_)
  subst q9
  refine n_heq (h' := [.inr (4, [.ref 1, .ref 6, .null, .int 0, .null, .null, .null]), .inr (1, [.int 0, .int 16909320, .int 0, .int (nI 3), .int 0, .ref 2, .ref 3, .ref 4, .ref 5, .int 0]), .inl (0, 8, .inl (fun _ => 0)), .inl (0, 8, .inl (fun _ => 0)), .inl (0, 8, .inl (fun _ => 0)), .inl (0, 8, .inl (fun _ => 0)), .inr (1, [.int 0, .int 16909320, .int 0, .int (nI 3), .int 0, .ref 7, .ref 8, .ref 9, .ref 10, .int 0]), .inl (0, 8, .inl (fun _ => 0)), .inl (0, 8, .inl (fun _ => 0)), .inl (0, 8, .inl (fun _ => 0)), .inl (0, 8, .inl (fun _ => 0)), .inr (1, [.int 0, .int 16909320, .int 0, .int (nI 3), .int 0, .ref 12, .ref 13, .ref 14, .ref 15, .int 0]), .inl (0, 8, .inl (fun _ => 0)), .inl (0, 8, .inl (fun _ => 0)), .inl (0, 8, .inl (fun _ => 0)), .inl (0, 8, .inl (fun _ => 0))]) (HE.of rfl) ?_
  refine n_putF (fs' := [_, _, _, _, _, _, _]) (h' := [.inr (4, [.ref 1, .ref 6, .ref 11, .int 0, .null, .null, .null]), .inr (1, [.int 0, .int 16909320, .int 0, .int (nI 3), .int 0, .ref 2, .ref 3, .ref 4, .ref 5, .int 0]), .inl (0, 8, .inl (fun _ => 0)), .inl (0, 8, .inl (fun _ => 0)), .inl (0, 8, .inl (fun _ => 0)), .inl (0, 8, .inl (fun _ => 0)), .inr (1, [.int 0, .int 16909320, .int 0, .int (nI 3), .int 0, .ref 7, .ref 8, .ref 9, .ref 10, .int 0]), .inl (0, 8, .inl (fun _ => 0)), .inl (0, 8, .inl (fun _ => 0)), .inl (0, 8, .inl (fun _ => 0)), .inl (0, 8, .inl (fun _ => 0)), .inr (1, [.int 0, .int 16909320, .int 0, .int (nI 3), .int 0, .ref 12, .ref 13, .ref 14, .ref 15, .int 0]), .inl (0, 8, .inl (fun _ => 0)), .inl (0, 8, .inl (fun _ => 0)), .inl (0, 8, .inl (fun _ => 0)), .inl (0, 8, .inl (fun _ => 0))]) dX4_init_34 pFX4_19 rfl rfl (Nat.le_of_ble_eq_true rfl) (fun _ => rfl) (fun _ => rfl) rfl rfl ?_
  refine n_aload_n dX4_init_37 rfl ?_
  refine n_new (N := 5) (n := 16) (nc := 12) (ns := 305) (ci := 0) (fs := [.null, .int 0, .int 0, .int 0, .int 0]) dX4_init_38 rfl inGX0 tyX0 tyX0_ok (gT_mem (tb1 75 rfl) rfl) (gT_mem (tb1 76 rfl) rfl) (gT_mem (tb1 3 rfl) rfl) (fun j hj => by rcases (show j = 0 ∨ j = 1 ∨ j = 2 ∨ j = 3 ∨ j = 4 by omega) with rfl | rfl | rfl | rfl | rfl <;> rfl) (fun _ => rfl) rfl ⟨(by repeat (first | exact trivial | refine And.intro rfl ?_ | refine And.intro trivial ?_ | refine And.intro (by repeat (first | exact okA_none | refine okA_up rfl ?_)) ?_)), rfl, rfl⟩ ?_
  refine n_dup dX4_init_41 rfl ?_
  refine n_init0 (b := 16) (nc := 10) (ns := 183) N_X0_init (Nat.le_of_ble_eq_true rfl) miX0_init lkX4_24 dX4_init_42 (Nat.le_of_ble_eq_true rfl) rfl rfl rfl (by decide) ⟨(by repeat (first | exact trivial | refine And.intro rfl ?_ | refine And.intro trivial ?_ | refine And.intro (by repeat (first | exact okA_none | refine okA_up rfl ?_)) ?_)), rfl, rfl⟩ (fun hL2 hl9 q9 => ?_)
  subst q9
  refine n_heq (h' := [.inr (4, [.ref 1, .ref 6, .ref 11, .int 0, .null, .null, .null]), .inr (1, [.int 0, .int 16909320, .int 0, .int (nI 3), .int 0, .ref 2, .ref 3, .ref 4, .ref 5, .int 0]), .inl (0, 8, .inl (fun _ => 0)), .inl (0, 8, .inl (fun _ => 0)), .inl (0, 8, .inl (fun _ => 0)), .inl (0, 8, .inl (fun _ => 0)), .inr (1, [.int 0, .int 16909320, .int 0, .int (nI 3), .int 0, .ref 7, .ref 8, .ref 9, .ref 10, .int 0]), .inl (0, 8, .inl (fun _ => 0)), .inl (0, 8, .inl (fun _ => 0)), .inl (0, 8, .inl (fun _ => 0)), .inl (0, 8, .inl (fun _ => 0)), .inr (1, [.int 0, .int 16909320, .int 0, .int (nI 3), .int 0, .ref 12, .ref 13, .ref 14, .ref 15, .int 0]), .inl (0, 8, .inl (fun _ => 0)), .inl (0, 8, .inl (fun _ => 0)), .inl (0, 8, .inl (fun _ => 0)), .inl (0, 8, .inl (fun _ => 0)), .inr (0, [.ref 17, .int 0, .int 0, .int 0, .int 0]), .inr (3, [.ref 18, .int 0]), .inl (2, 120, .inl (fun _ => 0))]) (HE.of rfl) ?_
  refine n_putF (fs' := [_, _, _, _, _, _, _]) (h' := [.inr (4, [.ref 1, .ref 6, .ref 11, .int 0, .ref 16, .null, .null]), .inr (1, [.int 0, .int 16909320, .int 0, .int (nI 3), .int 0, .ref 2, .ref 3, .ref 4, .ref 5, .int 0]), .inl (0, 8, .inl (fun _ => 0)), .inl (0, 8, .inl (fun _ => 0)), .inl (0, 8, .inl (fun _ => 0)), .inl (0, 8, .inl (fun _ => 0)), .inr (1, [.int 0, .int 16909320, .int 0, .int (nI 3), .int 0, .ref 7, .ref 8, .ref 9, .ref 10, .int 0]), .inl (0, 8, .inl (fun _ => 0)), .inl (0, 8, .inl (fun _ => 0)), .inl (0, 8, .inl (fun _ => 0)), .inl (0, 8, .inl (fun _ => 0)), .inr (1, [.int 0, .int 16909320, .int 0, .int (nI 3), .int 0, .ref 12, .ref 13, .ref 14, .ref 15, .int 0]), .inl (0, 8, .inl (fun _ => 0)), .inl (0, 8, .inl (fun _ => 0)), .inl (0, 8, .inl (fun _ => 0)), .inl (0, 8, .inl (fun _ => 0)), .inr (0, [.ref 17, .int 0, .int 0, .int 0, .int 0]), .inr (3, [.ref 18, .int 0]), .inl (2, 120, .inl (fun _ => 0))]) dX4_init_45 pFX4_25 rfl rfl (Nat.le_of_ble_eq_true rfl) (fun _ => rfl) (fun _ => rfl) rfl rfl ?_
  refine n_aload_n dX4_init_48 rfl ?_
  refine n_iconst (v := nI 4) dX4_init_49 (by decide) ?_
  refine n_anew (n := 19) (nc := 9) (ns := 179) 4 (gT_mem (tb1 114 rfl) rfl) dX4_init_50 (by decide) rfl ⟨(by repeat (first | exact trivial | refine And.intro rfl ?_ | refine And.intro trivial ?_ | refine And.intro (by repeat (first | exact okA_none | refine okA_up rfl ?_)) ?_)), rfl, rfl⟩ ?_
  refine n_heq (h' := [.inr (4, [.ref 1, .ref 6, .ref 11, .int 0, .ref 16, .null, .null]), .inr (1, [.int 0, .int 16909320, .int 0, .int (nI 3), .int 0, .ref 2, .ref 3, .ref 4, .ref 5, .int 0]), .inl (0, 8, .inl (fun _ => 0)), .inl (0, 8, .inl (fun _ => 0)), .inl (0, 8, .inl (fun _ => 0)), .inl (0, 8, .inl (fun _ => 0)), .inr (1, [.int 0, .int 16909320, .int 0, .int (nI 3), .int 0, .ref 7, .ref 8, .ref 9, .ref 10, .int 0]), .inl (0, 8, .inl (fun _ => 0)), .inl (0, 8, .inl (fun _ => 0)), .inl (0, 8, .inl (fun _ => 0)), .inl (0, 8, .inl (fun _ => 0)), .inr (1, [.int 0, .int 16909320, .int 0, .int (nI 3), .int 0, .ref 12, .ref 13, .ref 14, .ref 15, .int 0]), .inl (0, 8, .inl (fun _ => 0)), .inl (0, 8, .inl (fun _ => 0)), .inl (0, 8, .inl (fun _ => 0)), .inl (0, 8, .inl (fun _ => 0)), .inr (0, [.ref 17, .int 0, .int 0, .int 0, .int 0]), .inr (3, [.ref 18, .int 0]), .inl (2, 120, .inl (fun _ => 0)), .inl (3, 4, .inr (.inr (.inr (.inr (fun _ => none)))))]) (HE.of rfl) ?_
  refine n_putF (fs' := [_, _, _, _, _, _, _]) (h' := [.inr (4, [.ref 1, .ref 6, .ref 11, .int 0, .ref 16, .ref 19, .null]), .inr (1, [.int 0, .int 16909320, .int 0, .int (nI 3), .int 0, .ref 2, .ref 3, .ref 4, .ref 5, .int 0]), .inl (0, 8, .inl (fun _ => 0)), .inl (0, 8, .inl (fun _ => 0)), .inl (0, 8, .inl (fun _ => 0)), .inl (0, 8, .inl (fun _ => 0)), .inr (1, [.int 0, .int 16909320, .int 0, .int (nI 3), .int 0, .ref 7, .ref 8, .ref 9, .ref 10, .int 0]), .inl (0, 8, .inl (fun _ => 0)), .inl (0, 8, .inl (fun _ => 0)), .inl (0, 8, .inl (fun _ => 0)), .inl (0, 8, .inl (fun _ => 0)), .inr (1, [.int 0, .int 16909320, .int 0, .int (nI 3), .int 0, .ref 12, .ref 13, .ref 14, .ref 15, .int 0]), .inl (0, 8, .inl (fun _ => 0)), .inl (0, 8, .inl (fun _ => 0)), .inl (0, 8, .inl (fun _ => 0)), .inl (0, 8, .inl (fun _ => 0)), .inr (0, [.ref 17, .int 0, .int 0, .int 0, .int 0]), .inr (3, [.ref 18, .int 0]), .inl (2, 120, .inl (fun _ => 0)), .inl (3, 4, .inr (.inr (.inr (.inr (fun _ => none)))))]) dX4_init_53 pFX4_31 rfl rfl (Nat.le_of_ble_eq_true rfl) (fun _ => rfl) (fun _ => rfl) rfl rfl ?_
  refine n_aload_n dX4_init_56 rfl ?_
  refine n_bipush (v := nI 7) dX4_init_57 (by decide) ?_
  refine n_newI (n := 20) (nc := 8) (ns := 172) 7 dX4_init_59 (by decide) rfl ⟨(by repeat (first | exact trivial | refine And.intro rfl ?_ | refine And.intro trivial ?_ | refine And.intro (by repeat (first | exact okA_none | refine okA_up rfl ?_)) ?_)), rfl, rfl⟩ ?_
  refine n_heq (h' := [.inr (4, [.ref 1, .ref 6, .ref 11, .int 0, .ref 16, .ref 19, .null]), .inr (1, [.int 0, .int 16909320, .int 0, .int (nI 3), .int 0, .ref 2, .ref 3, .ref 4, .ref 5, .int 0]), .inl (0, 8, .inl (fun _ => 0)), .inl (0, 8, .inl (fun _ => 0)), .inl (0, 8, .inl (fun _ => 0)), .inl (0, 8, .inl (fun _ => 0)), .inr (1, [.int 0, .int 16909320, .int 0, .int (nI 3), .int 0, .ref 7, .ref 8, .ref 9, .ref 10, .int 0]), .inl (0, 8, .inl (fun _ => 0)), .inl (0, 8, .inl (fun _ => 0)), .inl (0, 8, .inl (fun _ => 0)), .inl (0, 8, .inl (fun _ => 0)), .inr (1, [.int 0, .int 16909320, .int 0, .int (nI 3), .int 0, .ref 12, .ref 13, .ref 14, .ref 15, .int 0]), .inl (0, 8, .inl (fun _ => 0)), .inl (0, 8, .inl (fun _ => 0)), .inl (0, 8, .inl (fun _ => 0)), .inl (0, 8, .inl (fun _ => 0)), .inr (0, [.ref 17, .int 0, .int 0, .int 0, .int 0]), .inr (3, [.ref 18, .int 0]), .inl (2, 120, .inl (fun _ => 0)), .inl (3, 4, .inr (.inr (.inr (.inr (fun _ => none))))), .inl (0, 7, .inl (fun _ => 0))]) (HE.of rfl) ?_
  refine n_putF (fs' := [_, _, _, _, _, _, _]) (h' := [.inr (4, [.ref 1, .ref 6, .ref 11, .int 0, .ref 16, .ref 19, .ref 20]), .inr (1, [.int 0, .int 16909320, .int 0, .int (nI 3), .int 0, .ref 2, .ref 3, .ref 4, .ref 5, .int 0]), .inl (0, 8, .inl (fun _ => 0)), .inl (0, 8, .inl (fun _ => 0)), .inl (0, 8, .inl (fun _ => 0)), .inl (0, 8, .inl (fun _ => 0)), .inr (1, [.int 0, .int 16909320, .int 0, .int (nI 3), .int 0, .ref 7, .ref 8, .ref 9, .ref 10, .int 0]), .inl (0, 8, .inl (fun _ => 0)), .inl (0, 8, .inl (fun _ => 0)), .inl (0, 8, .inl (fun _ => 0)), .inl (0, 8, .inl (fun _ => 0)), .inr (1, [.int 0, .int 16909320, .int 0, .int (nI 3), .int 0, .ref 12, .ref 13, .ref 14, .ref 15, .int 0]), .inl (0, 8, .inl (fun _ => 0)), .inl (0, 8, .inl (fun _ => 0)), .inl (0, 8, .inl (fun _ => 0)), .inl (0, 8, .inl (fun _ => 0)), .inr (0, [.ref 17, .int 0, .int 0, .int 0, .int 0]), .inr (3, [.ref 18, .int 0]), .inl (2, 120, .inl (fun _ => 0)), .inl (3, 4, .inr (.inr (.inr (.inr (fun _ => none))))), .inl (0, 7, .inl (fun _ => 0))]) dX4_init_61 pFX4_35 rfl rfl (Nat.le_of_ble_eq_true rfl) (fun _ => rfl) (fun _ => rfl) rfl rfl ?_
  refine n_iconst (v := nI 0) dX4_init_64 (by decide) ?_
  refine n_istore_n (lv' := [_, _]) dX4_init_65 (by decide) rfl ?_
  refine n_iload_n dX4_init_66 rfl ?_
  refine n_iconst (v := nI 4) dX4_init_67 (by decide) ?_
  refine n_icmp_ge 90 dX4_init_68 (by decide) (fun c9 => absurd c9 (by decide)) (fun c9 => ?_)
  refine n_aload_n dX4_init_71 rfl ?_
  refine n_getfield dX4_init_72 gfX4_31 rfl rfl ?_
  refine n_iload_n dX4_init_75 rfl ?_
  refine n_new (N := 3) (n := 21) (nc := 7) (ns := 169) (ci := 2) (fs := [.int 0, .int 0, .null]) dX4_init_76 rfl inGX2 tyX2 tyX2_ok (gT_mem (tb1 114 rfl) rfl) (gT_mem (tb1 116 rfl) rfl) (gT_mem (tb1 5 rfl) rfl) (fun j hj => by rcases (show j = 0 ∨ j = 1 ∨ j = 2 by omega) with rfl | rfl | rfl <;> rfl) (fun _ => rfl) rfl ⟨(by repeat (first | exact trivial | refine And.intro rfl ?_ | refine And.intro trivial ?_ | refine And.intro (by repeat (first | exact okA_none | refine okA_up rfl ?_)) ?_)), rfl, rfl⟩ ?_
  refine n_dup dX4_init_79 rfl ?_
  refine n_init0 (b := 21) (nc := 6) (ns := 129) N_X2_init (Nat.le_of_ble_eq_true rfl) miX2_init lkX4_39 dX4_init_80 (Nat.le_of_ble_eq_true rfl) rfl rfl rfl (by decide) ⟨(by repeat (first | exact trivial | refine And.intro rfl ?_ | refine And.intro trivial ?_ | refine And.intro (by repeat (first | exact okA_none | refine okA_up rfl ?_)) ?_)), rfl, rfl⟩ (fun hL2 hl9 q9 => ?_)
  subst q9
  refine n_heq (h' := [.inr (4, [.ref 1, .ref 6, .ref 11, .int 0, .ref 16, .ref 19, .ref 20]), .inr (1, [.int 0, .int 16909320, .int 0, .int (nI 3), .int 0, .ref 2, .ref 3, .ref 4, .ref 5, .int 0]), .inl (0, 8, .inl (fun _ => 0)), .inl (0, 8, .inl (fun _ => 0)), .inl (0, 8, .inl (fun _ => 0)), .inl (0, 8, .inl (fun _ => 0)), .inr (1, [.int 0, .int 16909320, .int 0, .int (nI 3), .int 0, .ref 7, .ref 8, .ref 9, .ref 10, .int 0]), .inl (0, 8, .inl (fun _ => 0)), .inl (0, 8, .inl (fun _ => 0)), .inl (0, 8, .inl (fun _ => 0)), .inl (0, 8, .inl (fun _ => 0)), .inr (1, [.int 0, .int 16909320, .int 0, .int (nI 3), .int 0, .ref 12, .ref 13, .ref 14, .ref 15, .int 0]), .inl (0, 8, .inl (fun _ => 0)), .inl (0, 8, .inl (fun _ => 0)), .inl (0, 8, .inl (fun _ => 0)), .inl (0, 8, .inl (fun _ => 0)), .inr (0, [.ref 17, .int 0, .int 0, .int 0, .int 0]), .inr (3, [.ref 18, .int 0]), .inl (2, 120, .inl (fun _ => 0)), .inl (3, 4, .inr (.inr (.inr (.inr (fun _ => none))))), .inl (0, 7, .inl (fun _ => 0)), .inr (2, [.int 0, .int 0, .ref 22]), .inl (1, 40, .inr (.inl (fun _ => 0)))]) (HE.of rfl) ?_
  refine n_aast (h' := [.inr (4, [.ref 1, .ref 6, .ref 11, .int 0, .ref 16, .ref 19, .ref 20]), .inr (1, [.int 0, .int 16909320, .int 0, .int (nI 3), .int 0, .ref 2, .ref 3, .ref 4, .ref 5, .int 0]), .inl (0, 8, .inl (fun _ => 0)), .inl (0, 8, .inl (fun _ => 0)), .inl (0, 8, .inl (fun _ => 0)), .inl (0, 8, .inl (fun _ => 0)), .inr (1, [.int 0, .int 16909320, .int 0, .int (nI 3), .int 0, .ref 7, .ref 8, .ref 9, .ref 10, .int 0]), .inl (0, 8, .inl (fun _ => 0)), .inl (0, 8, .inl (fun _ => 0)), .inl (0, 8, .inl (fun _ => 0)), .inl (0, 8, .inl (fun _ => 0)), .inr (1, [.int 0, .int 16909320, .int 0, .int (nI 3), .int 0, .ref 12, .ref 13, .ref 14, .ref 15, .int 0]), .inl (0, 8, .inl (fun _ => 0)), .inl (0, 8, .inl (fun _ => 0)), .inl (0, 8, .inl (fun _ => 0)), .inl (0, 8, .inl (fun _ => 0)), .inr (0, [.ref 17, .int 0, .int 0, .int 0, .int 0]), .inr (3, [.ref 18, .int 0]), .inl (2, 120, .inl (fun _ => 0)), .inl (3, 4, .inr (.inr (.inr (.inr (va_up (fun _ => none) 0 (some 21)))))), .inl (0, 7, .inl (fun _ => 0)), .inr (2, [.int 0, .int 0, .ref 22]), .inl (1, 40, .inr (.inl (fun _ => 0)))]) 0 dX4_init_83 rfl rfl (by decide) (Nat.le_of_ble_eq_true rfl) rfl ?_
  refine n_iinc (lv' := [_, _]) dX4_init_84 (by decide) rfl (show nI 0 + Int32.ofInt 1 = nI 1 by decide) rfl ?_
  refine n_goto 66 dX4_init_87 (by decide) ?_
  refine n_iload_n dX4_init_66 rfl ?_
  refine n_iconst (v := nI 4) dX4_init_67 (by decide) ?_
  refine n_icmp_ge 90 dX4_init_68 (by decide) (fun c9 => absurd c9 (by decide)) (fun c9 => ?_)
  refine n_aload_n dX4_init_71 rfl ?_
  refine n_getfield dX4_init_72 gfX4_31 rfl rfl ?_
  refine n_iload_n dX4_init_75 rfl ?_
  refine n_new (N := 3) (n := 23) (nc := 5) (ns := 126) (ci := 2) (fs := [.int 0, .int 0, .null]) dX4_init_76 rfl inGX2 tyX2 tyX2_ok (gT_mem (tb1 114 rfl) rfl) (gT_mem (tb1 116 rfl) rfl) (gT_mem (tb1 5 rfl) rfl) (fun j hj => by rcases (show j = 0 ∨ j = 1 ∨ j = 2 by omega) with rfl | rfl | rfl <;> rfl) (fun _ => rfl) rfl ⟨(by repeat (first | exact trivial | refine And.intro rfl ?_ | refine And.intro trivial ?_ | refine And.intro (by repeat (first | exact okA_none | refine okA_up rfl ?_)) ?_)), rfl, rfl⟩ ?_
  refine n_dup dX4_init_79 rfl ?_
  refine n_init0 (b := 23) (nc := 4) (ns := 86) N_X2_init (Nat.le_of_ble_eq_true rfl) miX2_init lkX4_39 dX4_init_80 (Nat.le_of_ble_eq_true rfl) rfl rfl rfl (by decide) ⟨(by repeat (first | exact trivial | refine And.intro rfl ?_ | refine And.intro trivial ?_ | refine And.intro (by repeat (first | exact okA_none | refine okA_up rfl ?_)) ?_)), rfl, rfl⟩ (fun hL2 hl9 q9 => ?_)
  subst q9
  refine n_heq (h' := [.inr (4, [.ref 1, .ref 6, .ref 11, .int 0, .ref 16, .ref 19, .ref 20]), .inr (1, [.int 0, .int 16909320, .int 0, .int (nI 3), .int 0, .ref 2, .ref 3, .ref 4, .ref 5, .int 0]), .inl (0, 8, .inl (fun _ => 0)), .inl (0, 8, .inl (fun _ => 0)), .inl (0, 8, .inl (fun _ => 0)), .inl (0, 8, .inl (fun _ => 0)), .inr (1, [.int 0, .int 16909320, .int 0, .int (nI 3), .int 0, .ref 7, .ref 8, .ref 9, .ref 10, .int 0]), .inl (0, 8, .inl (fun _ => 0)), .inl (0, 8, .inl (fun _ => 0)), .inl (0, 8, .inl (fun _ => 0)), .inl (0, 8, .inl (fun _ => 0)), .inr (1, [.int 0, .int 16909320, .int 0, .int (nI 3), .int 0, .ref 12, .ref 13, .ref 14, .ref 15, .int 0]), .inl (0, 8, .inl (fun _ => 0)), .inl (0, 8, .inl (fun _ => 0)), .inl (0, 8, .inl (fun _ => 0)), .inl (0, 8, .inl (fun _ => 0)), .inr (0, [.ref 17, .int 0, .int 0, .int 0, .int 0]), .inr (3, [.ref 18, .int 0]), .inl (2, 120, .inl (fun _ => 0)), .inl (3, 4, .inr (.inr (.inr (.inr (va_up (fun _ => none) 0 (some 21)))))), .inl (0, 7, .inl (fun _ => 0)), .inr (2, [.int 0, .int 0, .ref 22]), .inl (1, 40, .inr (.inl (fun _ => 0))), .inr (2, [.int 0, .int 0, .ref 24]), .inl (1, 40, .inr (.inl (fun _ => 0)))]) (HE.of rfl) ?_
  refine n_aast (h' := [.inr (4, [.ref 1, .ref 6, .ref 11, .int 0, .ref 16, .ref 19, .ref 20]), .inr (1, [.int 0, .int 16909320, .int 0, .int (nI 3), .int 0, .ref 2, .ref 3, .ref 4, .ref 5, .int 0]), .inl (0, 8, .inl (fun _ => 0)), .inl (0, 8, .inl (fun _ => 0)), .inl (0, 8, .inl (fun _ => 0)), .inl (0, 8, .inl (fun _ => 0)), .inr (1, [.int 0, .int 16909320, .int 0, .int (nI 3), .int 0, .ref 7, .ref 8, .ref 9, .ref 10, .int 0]), .inl (0, 8, .inl (fun _ => 0)), .inl (0, 8, .inl (fun _ => 0)), .inl (0, 8, .inl (fun _ => 0)), .inl (0, 8, .inl (fun _ => 0)), .inr (1, [.int 0, .int 16909320, .int 0, .int (nI 3), .int 0, .ref 12, .ref 13, .ref 14, .ref 15, .int 0]), .inl (0, 8, .inl (fun _ => 0)), .inl (0, 8, .inl (fun _ => 0)), .inl (0, 8, .inl (fun _ => 0)), .inl (0, 8, .inl (fun _ => 0)), .inr (0, [.ref 17, .int 0, .int 0, .int 0, .int 0]), .inr (3, [.ref 18, .int 0]), .inl (2, 120, .inl (fun _ => 0)), .inl (3, 4, .inr (.inr (.inr (.inr (va_up (va_up (fun _ => none) 0 (some 21)) 1 (some 23)))))), .inl (0, 7, .inl (fun _ => 0)), .inr (2, [.int 0, .int 0, .ref 22]), .inl (1, 40, .inr (.inl (fun _ => 0))), .inr (2, [.int 0, .int 0, .ref 24]), .inl (1, 40, .inr (.inl (fun _ => 0)))]) 1 dX4_init_83 rfl rfl (by decide) (Nat.le_of_ble_eq_true rfl) rfl ?_
  refine n_iinc (lv' := [_, _]) dX4_init_84 (by decide) rfl (show nI 1 + Int32.ofInt 1 = nI 2 by decide) rfl ?_
  refine n_goto 66 dX4_init_87 (by decide) ?_
  refine n_iload_n dX4_init_66 rfl ?_
  refine n_iconst (v := nI 4) dX4_init_67 (by decide) ?_
  refine n_icmp_ge 90 dX4_init_68 (by decide) (fun c9 => absurd c9 (by decide)) (fun c9 => ?_)
  refine n_aload_n dX4_init_71 rfl ?_
  refine n_getfield dX4_init_72 gfX4_31 rfl rfl ?_
  refine n_iload_n dX4_init_75 rfl ?_
  refine n_new (N := 3) (n := 25) (nc := 3) (ns := 83) (ci := 2) (fs := [.int 0, .int 0, .null]) dX4_init_76 rfl inGX2 tyX2 tyX2_ok (gT_mem (tb1 114 rfl) rfl) (gT_mem (tb1 116 rfl) rfl) (gT_mem (tb1 5 rfl) rfl) (fun j hj => by rcases (show j = 0 ∨ j = 1 ∨ j = 2 by omega) with rfl | rfl | rfl <;> rfl) (fun _ => rfl) rfl ⟨(by repeat (first | exact trivial | refine And.intro rfl ?_ | refine And.intro trivial ?_ | refine And.intro (by repeat (first | exact okA_none | refine okA_up rfl ?_)) ?_)), rfl, rfl⟩ ?_
  refine n_dup dX4_init_79 rfl ?_
  refine n_init0 (b := 25) (nc := 2) (ns := 43) N_X2_init (Nat.le_of_ble_eq_true rfl) miX2_init lkX4_39 dX4_init_80 (Nat.le_of_ble_eq_true rfl) rfl rfl rfl (by decide) ⟨(by repeat (first | exact trivial | refine And.intro rfl ?_ | refine And.intro trivial ?_ | refine And.intro (by repeat (first | exact okA_none | refine okA_up rfl ?_)) ?_)), rfl, rfl⟩ (fun hL2 hl9 q9 => ?_)
  subst q9
  refine n_heq (h' := [.inr (4, [.ref 1, .ref 6, .ref 11, .int 0, .ref 16, .ref 19, .ref 20]), .inr (1, [.int 0, .int 16909320, .int 0, .int (nI 3), .int 0, .ref 2, .ref 3, .ref 4, .ref 5, .int 0]), .inl (0, 8, .inl (fun _ => 0)), .inl (0, 8, .inl (fun _ => 0)), .inl (0, 8, .inl (fun _ => 0)), .inl (0, 8, .inl (fun _ => 0)), .inr (1, [.int 0, .int 16909320, .int 0, .int (nI 3), .int 0, .ref 7, .ref 8, .ref 9, .ref 10, .int 0]), .inl (0, 8, .inl (fun _ => 0)), .inl (0, 8, .inl (fun _ => 0)), .inl (0, 8, .inl (fun _ => 0)), .inl (0, 8, .inl (fun _ => 0)), .inr (1, [.int 0, .int 16909320, .int 0, .int (nI 3), .int 0, .ref 12, .ref 13, .ref 14, .ref 15, .int 0]), .inl (0, 8, .inl (fun _ => 0)), .inl (0, 8, .inl (fun _ => 0)), .inl (0, 8, .inl (fun _ => 0)), .inl (0, 8, .inl (fun _ => 0)), .inr (0, [.ref 17, .int 0, .int 0, .int 0, .int 0]), .inr (3, [.ref 18, .int 0]), .inl (2, 120, .inl (fun _ => 0)), .inl (3, 4, .inr (.inr (.inr (.inr (va_up (va_up (fun _ => none) 0 (some 21)) 1 (some 23)))))), .inl (0, 7, .inl (fun _ => 0)), .inr (2, [.int 0, .int 0, .ref 22]), .inl (1, 40, .inr (.inl (fun _ => 0))), .inr (2, [.int 0, .int 0, .ref 24]), .inl (1, 40, .inr (.inl (fun _ => 0))), .inr (2, [.int 0, .int 0, .ref 26]), .inl (1, 40, .inr (.inl (fun _ => 0)))]) (HE.of rfl) ?_
  refine n_aast (h' := [.inr (4, [.ref 1, .ref 6, .ref 11, .int 0, .ref 16, .ref 19, .ref 20]), .inr (1, [.int 0, .int 16909320, .int 0, .int (nI 3), .int 0, .ref 2, .ref 3, .ref 4, .ref 5, .int 0]), .inl (0, 8, .inl (fun _ => 0)), .inl (0, 8, .inl (fun _ => 0)), .inl (0, 8, .inl (fun _ => 0)), .inl (0, 8, .inl (fun _ => 0)), .inr (1, [.int 0, .int 16909320, .int 0, .int (nI 3), .int 0, .ref 7, .ref 8, .ref 9, .ref 10, .int 0]), .inl (0, 8, .inl (fun _ => 0)), .inl (0, 8, .inl (fun _ => 0)), .inl (0, 8, .inl (fun _ => 0)), .inl (0, 8, .inl (fun _ => 0)), .inr (1, [.int 0, .int 16909320, .int 0, .int (nI 3), .int 0, .ref 12, .ref 13, .ref 14, .ref 15, .int 0]), .inl (0, 8, .inl (fun _ => 0)), .inl (0, 8, .inl (fun _ => 0)), .inl (0, 8, .inl (fun _ => 0)), .inl (0, 8, .inl (fun _ => 0)), .inr (0, [.ref 17, .int 0, .int 0, .int 0, .int 0]), .inr (3, [.ref 18, .int 0]), .inl (2, 120, .inl (fun _ => 0)), .inl (3, 4, .inr (.inr (.inr (.inr (va_up (va_up (va_up (fun _ => none) 0 (some 21)) 1 (some 23)) 2 (some 25)))))), .inl (0, 7, .inl (fun _ => 0)), .inr (2, [.int 0, .int 0, .ref 22]), .inl (1, 40, .inr (.inl (fun _ => 0))), .inr (2, [.int 0, .int 0, .ref 24]), .inl (1, 40, .inr (.inl (fun _ => 0))), .inr (2, [.int 0, .int 0, .ref 26]), .inl (1, 40, .inr (.inl (fun _ => 0)))]) 2 dX4_init_83 rfl rfl (by decide) (Nat.le_of_ble_eq_true rfl) rfl ?_
  refine n_iinc (lv' := [_, _]) dX4_init_84 (by decide) rfl (show nI 2 + Int32.ofInt 1 = nI 3 by decide) rfl ?_
  refine n_goto 66 dX4_init_87 (by decide) ?_
  refine n_iload_n dX4_init_66 rfl ?_
  refine n_iconst (v := nI 4) dX4_init_67 (by decide) ?_
  refine n_icmp_ge 90 dX4_init_68 (by decide) (fun c9 => absurd c9 (by decide)) (fun c9 => ?_)
  refine n_aload_n dX4_init_71 rfl ?_
  refine n_getfield dX4_init_72 gfX4_31 rfl rfl ?_
  refine n_iload_n dX4_init_75 rfl ?_
  refine n_new (N := 3) (n := 27) (nc := 1) (ns := 40) (ci := 2) (fs := [.int 0, .int 0, .null]) dX4_init_76 rfl inGX2 tyX2 tyX2_ok (gT_mem (tb1 114 rfl) rfl) (gT_mem (tb1 116 rfl) rfl) (gT_mem (tb1 5 rfl) rfl) (fun j hj => by rcases (show j = 0 ∨ j = 1 ∨ j = 2 by omega) with rfl | rfl | rfl <;> rfl) (fun _ => rfl) rfl ⟨(by repeat (first | exact trivial | refine And.intro rfl ?_ | refine And.intro trivial ?_ | refine And.intro (by repeat (first | exact okA_none | refine okA_up rfl ?_)) ?_)), rfl, rfl⟩ ?_
  refine n_dup dX4_init_79 rfl ?_
  refine n_init0 (b := 27) (nc := 0) (ns := 0) N_X2_init (Nat.le_of_ble_eq_true rfl) miX2_init lkX4_39 dX4_init_80 (Nat.le_of_ble_eq_true rfl) rfl rfl rfl (by decide) ⟨(by repeat (first | exact trivial | refine And.intro rfl ?_ | refine And.intro trivial ?_ | refine And.intro (by repeat (first | exact okA_none | refine okA_up rfl ?_)) ?_)), rfl, rfl⟩ (fun hL2 hl9 q9 => ?_)
  subst q9
  refine n_heq (h' := [.inr (4, [.ref 1, .ref 6, .ref 11, .int 0, .ref 16, .ref 19, .ref 20]), .inr (1, [.int 0, .int 16909320, .int 0, .int (nI 3), .int 0, .ref 2, .ref 3, .ref 4, .ref 5, .int 0]), .inl (0, 8, .inl (fun _ => 0)), .inl (0, 8, .inl (fun _ => 0)), .inl (0, 8, .inl (fun _ => 0)), .inl (0, 8, .inl (fun _ => 0)), .inr (1, [.int 0, .int 16909320, .int 0, .int (nI 3), .int 0, .ref 7, .ref 8, .ref 9, .ref 10, .int 0]), .inl (0, 8, .inl (fun _ => 0)), .inl (0, 8, .inl (fun _ => 0)), .inl (0, 8, .inl (fun _ => 0)), .inl (0, 8, .inl (fun _ => 0)), .inr (1, [.int 0, .int 16909320, .int 0, .int (nI 3), .int 0, .ref 12, .ref 13, .ref 14, .ref 15, .int 0]), .inl (0, 8, .inl (fun _ => 0)), .inl (0, 8, .inl (fun _ => 0)), .inl (0, 8, .inl (fun _ => 0)), .inl (0, 8, .inl (fun _ => 0)), .inr (0, [.ref 17, .int 0, .int 0, .int 0, .int 0]), .inr (3, [.ref 18, .int 0]), .inl (2, 120, .inl (fun _ => 0)), .inl (3, 4, .inr (.inr (.inr (.inr (va_up (va_up (va_up (fun _ => none) 0 (some 21)) 1 (some 23)) 2 (some 25)))))), .inl (0, 7, .inl (fun _ => 0)), .inr (2, [.int 0, .int 0, .ref 22]), .inl (1, 40, .inr (.inl (fun _ => 0))), .inr (2, [.int 0, .int 0, .ref 24]), .inl (1, 40, .inr (.inl (fun _ => 0))), .inr (2, [.int 0, .int 0, .ref 26]), .inl (1, 40, .inr (.inl (fun _ => 0))), .inr (2, [.int 0, .int 0, .ref 28]), .inl (1, 40, .inr (.inl (fun _ => 0)))]) (HE.of rfl) ?_
  refine n_aast (h' := [.inr (4, [.ref 1, .ref 6, .ref 11, .int 0, .ref 16, .ref 19, .ref 20]), .inr (1, [.int 0, .int 16909320, .int 0, .int (nI 3), .int 0, .ref 2, .ref 3, .ref 4, .ref 5, .int 0]), .inl (0, 8, .inl (fun _ => 0)), .inl (0, 8, .inl (fun _ => 0)), .inl (0, 8, .inl (fun _ => 0)), .inl (0, 8, .inl (fun _ => 0)), .inr (1, [.int 0, .int 16909320, .int 0, .int (nI 3), .int 0, .ref 7, .ref 8, .ref 9, .ref 10, .int 0]), .inl (0, 8, .inl (fun _ => 0)), .inl (0, 8, .inl (fun _ => 0)), .inl (0, 8, .inl (fun _ => 0)), .inl (0, 8, .inl (fun _ => 0)), .inr (1, [.int 0, .int 16909320, .int 0, .int (nI 3), .int 0, .ref 12, .ref 13, .ref 14, .ref 15, .int 0]), .inl (0, 8, .inl (fun _ => 0)), .inl (0, 8, .inl (fun _ => 0)), .inl (0, 8, .inl (fun _ => 0)), .inl (0, 8, .inl (fun _ => 0)), .inr (0, [.ref 17, .int 0, .int 0, .int 0, .int 0]), .inr (3, [.ref 18, .int 0]), .inl (2, 120, .inl (fun _ => 0)), .inl (3, 4, .inr (.inr (.inr (.inr (va_up (va_up (va_up (va_up (fun _ => none) 0 (some 21)) 1 (some 23)) 2 (some 25)) 3 (some 27)))))), .inl (0, 7, .inl (fun _ => 0)), .inr (2, [.int 0, .int 0, .ref 22]), .inl (1, 40, .inr (.inl (fun _ => 0))), .inr (2, [.int 0, .int 0, .ref 24]), .inl (1, 40, .inr (.inl (fun _ => 0))), .inr (2, [.int 0, .int 0, .ref 26]), .inl (1, 40, .inr (.inl (fun _ => 0))), .inr (2, [.int 0, .int 0, .ref 28]), .inl (1, 40, .inr (.inl (fun _ => 0)))]) 3 dX4_init_83 rfl rfl (by decide) (Nat.le_of_ble_eq_true rfl) rfl ?_
  refine n_iinc (lv' := [_, _]) dX4_init_84 (by decide) rfl (show nI 3 + Int32.ofInt 1 = nI 4 by decide) rfl ?_
  refine n_goto 66 dX4_init_87 (by decide) ?_
  refine n_iload_n dX4_init_66 rfl ?_
  refine n_iconst (v := nI 4) dX4_init_67 (by decide) ?_
  refine n_icmp_ge 90 dX4_init_68 (by decide) (fun c9 => ?_) (fun c9 => absurd (by decide) c9)
  refine n_vret dX4_init_90 rfl ?_
  rfl
abbrev hY0 : AH := hY (enc R0) (fun _ => 0) (fun _ => 0) (fun _ => 0) 0 false (fun _ => 0) (nI 0, nI 0, 0, 0, false) (fun _ => 0) (bsF Z0) (szF Z0) (nmF Z0) (fun _ => 0)
theorem N_X5_init : SpN 1 mX5_init [.ref 0] [.inr (5, [.null, .null, .null, .null, .null, .int 0, .int 0, .null, .int 0, .int 0, .int 0, .int 0, .int 0, .null, .null, .null, .null])] (fun h => HE h hY0) 10 483 := by
  refine SpN.of [some (.ref 0), none] miX5_init.1 (fun h' q => q.len.symm) (Nat.le_of_ble_eq_true rfl) rfl (Nat.le_of_ble_eq_true rfl) (fun X => ?_)
  show RunN X 1 mX5_init 1 10 483 0 [some (.ref 0), none] [] [.inr (5, [.null, .null, .null, .null, .null, .int 0, .int 0, .null, .int 0, .int 0, .int 0, .int 0, .int 0, .null, .null, .null, .null])] none _
  refine n_aload_n dX5_init_0 rfl ?_
  refine n_obj dX5_init_1 (gT_mem (tb3 163 rfl) rfl) (by decide) (Nat.le_of_ble_eq_true rfl) ?_
  refine n_aload_n dX5_init_4 rfl ?_
  refine n_bipush (v := nI 37) dX5_init_5 (by decide) ?_
  refine n_newI (n := 1) (nc := 9) (ns := 446) 37 dX5_init_7 (by decide) rfl ⟨(by repeat (first | exact trivial | refine And.intro rfl ?_ | refine And.intro trivial ?_ | refine And.intro (by repeat (first | exact okA_none | refine okA_up rfl ?_)) ?_)), rfl, rfl⟩ ?_
  refine n_heq (h' := [.inr (5, [.null, .null, .null, .null, .null, .int 0, .int 0, .null, .int 0, .int 0, .int 0, .int 0, .int 0, .null, .null, .null, .null]), .inl (0, 37, .inl (fun _ => 0))]) (HE.of rfl) ?_
  refine n_putF (fs' := [_, _, _, _, _, _, _, _, _, _, _, _, _, _, _, _, _]) (h' := [.inr (5, [.ref 1, .null, .null, .null, .null, .int 0, .int 0, .null, .int 0, .int 0, .int 0, .int 0, .int 0, .null, .null, .null, .null]), .inl (0, 37, .inl (fun _ => 0))]) dX5_init_9 pFX5_7 rfl rfl (Nat.le_of_ble_eq_true rfl) (fun _ => rfl) (fun _ => rfl) rfl rfl ?_
  refine n_aload_n dX5_init_12 rfl ?_
  refine n_bipush (v := nI 37) dX5_init_13 (by decide) ?_
  refine n_newI (n := 2) (nc := 8) (ns := 409) 37 dX5_init_15 (by decide) rfl ⟨(by repeat (first | exact trivial | refine And.intro rfl ?_ | refine And.intro trivial ?_ | refine And.intro (by repeat (first | exact okA_none | refine okA_up rfl ?_)) ?_)), rfl, rfl⟩ ?_
  refine n_heq (h' := [.inr (5, [.ref 1, .null, .null, .null, .null, .int 0, .int 0, .null, .int 0, .int 0, .int 0, .int 0, .int 0, .null, .null, .null, .null]), .inl (0, 37, .inl (fun _ => 0)), .inl (0, 37, .inl (fun _ => 0))]) (HE.of rfl) ?_
  refine n_putF (fs' := [_, _, _, _, _, _, _, _, _, _, _, _, _, _, _, _, _]) (h' := [.inr (5, [.ref 1, .ref 2, .null, .null, .null, .int 0, .int 0, .null, .int 0, .int 0, .int 0, .int 0, .int 0, .null, .null, .null, .null]), .inl (0, 37, .inl (fun _ => 0)), .inl (0, 37, .inl (fun _ => 0))]) dX5_init_17 pFX5_13 rfl rfl (Nat.le_of_ble_eq_true rfl) (fun _ => rfl) (fun _ => rfl) rfl rfl ?_
  refine n_aload_n dX5_init_20 rfl ?_
  refine n_bipush (v := nI 37) dX5_init_21 (by decide) ?_
  refine n_newI (n := 3) (nc := 7) (ns := 372) 37 dX5_init_23 (by decide) rfl ⟨(by repeat (first | exact trivial | refine And.intro rfl ?_ | refine And.intro trivial ?_ | refine And.intro (by repeat (first | exact okA_none | refine okA_up rfl ?_)) ?_)), rfl, rfl⟩ ?_
  refine n_heq (h' := [.inr (5, [.ref 1, .ref 2, .null, .null, .null, .int 0, .int 0, .null, .int 0, .int 0, .int 0, .int 0, .int 0, .null, .null, .null, .null]), .inl (0, 37, .inl (fun _ => 0)), .inl (0, 37, .inl (fun _ => 0)), .inl (0, 37, .inl (fun _ => 0))]) (HE.of rfl) ?_
  refine n_putF (fs' := [_, _, _, _, _, _, _, _, _, _, _, _, _, _, _, _, _]) (h' := [.inr (5, [.ref 1, .ref 2, .ref 3, .null, .null, .int 0, .int 0, .null, .int 0, .int 0, .int 0, .int 0, .int 0, .null, .null, .null, .null]), .inl (0, 37, .inl (fun _ => 0)), .inl (0, 37, .inl (fun _ => 0)), .inl (0, 37, .inl (fun _ => 0))]) dX5_init_25 pFX5_16 rfl rfl (Nat.le_of_ble_eq_true rfl) (fun _ => rfl) (fun _ => rfl) rfl rfl ?_
  refine n_aload_n dX5_init_28 rfl ?_
  refine n_bipush (v := nI 37) dX5_init_29 (by decide) ?_
  refine n_newI (n := 4) (nc := 6) (ns := 335) 37 dX5_init_31 (by decide) rfl ⟨(by repeat (first | exact trivial | refine And.intro rfl ?_ | refine And.intro trivial ?_ | refine And.intro (by repeat (first | exact okA_none | refine okA_up rfl ?_)) ?_)), rfl, rfl⟩ ?_
  refine n_heq (h' := [.inr (5, [.ref 1, .ref 2, .ref 3, .null, .null, .int 0, .int 0, .null, .int 0, .int 0, .int 0, .int 0, .int 0, .null, .null, .null, .null]), .inl (0, 37, .inl (fun _ => 0)), .inl (0, 37, .inl (fun _ => 0)), .inl (0, 37, .inl (fun _ => 0)), .inl (0, 37, .inl (fun _ => 0))]) (HE.of rfl) ?_
  refine n_putF (fs' := [_, _, _, _, _, _, _, _, _, _, _, _, _, _, _, _, _]) (h' := [.inr (5, [.ref 1, .ref 2, .ref 3, .ref 4, .null, .int 0, .int 0, .null, .int 0, .int 0, .int 0, .int 0, .int 0, .null, .null, .null, .null]), .inl (0, 37, .inl (fun _ => 0)), .inl (0, 37, .inl (fun _ => 0)), .inl (0, 37, .inl (fun _ => 0)), .inl (0, 37, .inl (fun _ => 0))]) dX5_init_33 pFX5_19 rfl rfl (Nat.le_of_ble_eq_true rfl) (fun _ => rfl) (fun _ => rfl) rfl rfl ?_
  refine n_aload_n dX5_init_36 rfl ?_
  refine n_bipush (v := nI 7) dX5_init_37 (by decide) ?_
  refine n_newI (n := 5) (nc := 5) (ns := 328) 7 dX5_init_39 (by decide) rfl ⟨(by repeat (first | exact trivial | refine And.intro rfl ?_ | refine And.intro trivial ?_ | refine And.intro (by repeat (first | exact okA_none | refine okA_up rfl ?_)) ?_)), rfl, rfl⟩ ?_
  refine n_heq (h' := [.inr (5, [.ref 1, .ref 2, .ref 3, .ref 4, .null, .int 0, .int 0, .null, .int 0, .int 0, .int 0, .int 0, .int 0, .null, .null, .null, .null]), .inl (0, 37, .inl (fun _ => 0)), .inl (0, 37, .inl (fun _ => 0)), .inl (0, 37, .inl (fun _ => 0)), .inl (0, 37, .inl (fun _ => 0)), .inl (0, 7, .inl (fun _ => 0))]) (HE.of rfl) ?_
  refine n_putF (fs' := [_, _, _, _, _, _, _, _, _, _, _, _, _, _, _, _, _]) (h' := [.inr (5, [.ref 1, .ref 2, .ref 3, .ref 4, .ref 5, .int 0, .int 0, .null, .int 0, .int 0, .int 0, .int 0, .int 0, .null, .null, .null, .null]), .inl (0, 37, .inl (fun _ => 0)), .inl (0, 37, .inl (fun _ => 0)), .inl (0, 37, .inl (fun _ => 0)), .inl (0, 37, .inl (fun _ => 0)), .inl (0, 7, .inl (fun _ => 0))]) dX5_init_41 pFX5_22 rfl rfl (Nat.le_of_ble_eq_true rfl) (fun _ => rfl) (fun _ => rfl) rfl rfl ?_
  refine n_aload_n dX5_init_44 rfl ?_
  refine n_bipush (v := nI 120) dX5_init_45 (by decide) ?_
  refine n_newI (n := 6) (nc := 4) (ns := 208) 120 dX5_init_47 (by decide) rfl ⟨(by repeat (first | exact trivial | refine And.intro rfl ?_ | refine And.intro trivial ?_ | refine And.intro (by repeat (first | exact okA_none | refine okA_up rfl ?_)) ?_)), rfl, rfl⟩ ?_
  refine n_heq (h' := [.inr (5, [.ref 1, .ref 2, .ref 3, .ref 4, .ref 5, .int 0, .int 0, .null, .int 0, .int 0, .int 0, .int 0, .int 0, .null, .null, .null, .null]), .inl (0, 37, .inl (fun _ => 0)), .inl (0, 37, .inl (fun _ => 0)), .inl (0, 37, .inl (fun _ => 0)), .inl (0, 37, .inl (fun _ => 0)), .inl (0, 7, .inl (fun _ => 0)), .inl (0, 120, .inl (fun _ => 0))]) (HE.of rfl) ?_
  refine n_putF (fs' := [_, _, _, _, _, _, _, _, _, _, _, _, _, _, _, _, _]) (h' := [.inr (5, [.ref 1, .ref 2, .ref 3, .ref 4, .ref 5, .int 0, .int 0, .ref 6, .int 0, .int 0, .int 0, .int 0, .int 0, .null, .null, .null, .null]), .inl (0, 37, .inl (fun _ => 0)), .inl (0, 37, .inl (fun _ => 0)), .inl (0, 37, .inl (fun _ => 0)), .inl (0, 37, .inl (fun _ => 0)), .inl (0, 7, .inl (fun _ => 0)), .inl (0, 120, .inl (fun _ => 0))]) dX5_init_49 pFX5_25 rfl rfl (Nat.le_of_ble_eq_true rfl) (fun _ => rfl) (fun _ => rfl) rfl rfl ?_
  refine n_aload_n dX5_init_52 rfl ?_
  refine n_iconst (v := nI 4) dX5_init_53 (by decide) ?_
  refine n_newI (n := 7) (nc := 3) (ns := 204) 4 dX5_init_54 (by decide) rfl ⟨(by repeat (first | exact trivial | refine And.intro rfl ?_ | refine And.intro trivial ?_ | refine And.intro (by repeat (first | exact okA_none | refine okA_up rfl ?_)) ?_)), rfl, rfl⟩ ?_
  refine n_heq (h' := [.inr (5, [.ref 1, .ref 2, .ref 3, .ref 4, .ref 5, .int 0, .int 0, .ref 6, .int 0, .int 0, .int 0, .int 0, .int 0, .null, .null, .null, .null]), .inl (0, 37, .inl (fun _ => 0)), .inl (0, 37, .inl (fun _ => 0)), .inl (0, 37, .inl (fun _ => 0)), .inl (0, 37, .inl (fun _ => 0)), .inl (0, 7, .inl (fun _ => 0)), .inl (0, 120, .inl (fun _ => 0)), .inl (0, 4, .inl (fun _ => 0))]) (HE.of rfl) ?_
  refine n_putF (fs' := [_, _, _, _, _, _, _, _, _, _, _, _, _, _, _, _, _]) (h' := [.inr (5, [.ref 1, .ref 2, .ref 3, .ref 4, .ref 5, .int 0, .int 0, .ref 6, .int 0, .int 0, .int 0, .int 0, .int 0, .ref 7, .null, .null, .null]), .inl (0, 37, .inl (fun _ => 0)), .inl (0, 37, .inl (fun _ => 0)), .inl (0, 37, .inl (fun _ => 0)), .inl (0, 37, .inl (fun _ => 0)), .inl (0, 7, .inl (fun _ => 0)), .inl (0, 120, .inl (fun _ => 0)), .inl (0, 4, .inl (fun _ => 0))]) dX5_init_56 pFX5_28 rfl rfl (Nat.le_of_ble_eq_true rfl) (fun _ => rfl) (fun _ => rfl) rfl rfl ?_
  refine n_aload_n dX5_init_59 rfl ?_
  refine n_iconst (v := nI 4) dX5_init_60 (by decide) ?_
  refine n_newI (n := 8) (nc := 2) (ns := 200) 4 dX5_init_61 (by decide) rfl ⟨(by repeat (first | exact trivial | refine And.intro rfl ?_ | refine And.intro trivial ?_ | refine And.intro (by repeat (first | exact okA_none | refine okA_up rfl ?_)) ?_)), rfl, rfl⟩ ?_
  refine n_heq (h' := [.inr (5, [.ref 1, .ref 2, .ref 3, .ref 4, .ref 5, .int 0, .int 0, .ref 6, .int 0, .int 0, .int 0, .int 0, .int 0, .ref 7, .null, .null, .null]), .inl (0, 37, .inl (fun _ => 0)), .inl (0, 37, .inl (fun _ => 0)), .inl (0, 37, .inl (fun _ => 0)), .inl (0, 37, .inl (fun _ => 0)), .inl (0, 7, .inl (fun _ => 0)), .inl (0, 120, .inl (fun _ => 0)), .inl (0, 4, .inl (fun _ => 0)), .inl (0, 4, .inl (fun _ => 0))]) (HE.of rfl) ?_
  refine n_putF (fs' := [_, _, _, _, _, _, _, _, _, _, _, _, _, _, _, _, _]) (h' := [.inr (5, [.ref 1, .ref 2, .ref 3, .ref 4, .ref 5, .int 0, .int 0, .ref 6, .int 0, .int 0, .int 0, .int 0, .int 0, .ref 7, .ref 8, .null, .null]), .inl (0, 37, .inl (fun _ => 0)), .inl (0, 37, .inl (fun _ => 0)), .inl (0, 37, .inl (fun _ => 0)), .inl (0, 37, .inl (fun _ => 0)), .inl (0, 7, .inl (fun _ => 0)), .inl (0, 120, .inl (fun _ => 0)), .inl (0, 4, .inl (fun _ => 0)), .inl (0, 4, .inl (fun _ => 0))]) dX5_init_63 pFX5_31 rfl rfl (Nat.le_of_ble_eq_true rfl) (fun _ => rfl) (fun _ => rfl) rfl rfl ?_
  refine n_aload_n dX5_init_66 rfl ?_
  refine n_sipush (v := nI 160) dX5_init_67 (by decide) ?_
  refine n_newJ (n := 9) (nc := 1) (ns := 40) 160 dX5_init_70 (by decide) rfl ⟨(by repeat (first | exact trivial | refine And.intro rfl ?_ | refine And.intro trivial ?_ | refine And.intro (by repeat (first | exact okA_none | refine okA_up rfl ?_)) ?_)), rfl, rfl⟩ ?_
  refine n_heq (h' := [.inr (5, [.ref 1, .ref 2, .ref 3, .ref 4, .ref 5, .int 0, .int 0, .ref 6, .int 0, .int 0, .int 0, .int 0, .int 0, .ref 7, .ref 8, .null, .null]), .inl (0, 37, .inl (fun _ => 0)), .inl (0, 37, .inl (fun _ => 0)), .inl (0, 37, .inl (fun _ => 0)), .inl (0, 37, .inl (fun _ => 0)), .inl (0, 7, .inl (fun _ => 0)), .inl (0, 120, .inl (fun _ => 0)), .inl (0, 4, .inl (fun _ => 0)), .inl (0, 4, .inl (fun _ => 0)), .inl (1, 160, .inr (.inl (fun _ => 0)))]) (HE.of rfl) ?_
  refine n_putF (fs' := [_, _, _, _, _, _, _, _, _, _, _, _, _, _, _, _, _]) (h' := [.inr (5, [.ref 1, .ref 2, .ref 3, .ref 4, .ref 5, .int 0, .int 0, .ref 6, .int 0, .int 0, .int 0, .int 0, .int 0, .ref 7, .ref 8, .ref 9, .null]), .inl (0, 37, .inl (fun _ => 0)), .inl (0, 37, .inl (fun _ => 0)), .inl (0, 37, .inl (fun _ => 0)), .inl (0, 37, .inl (fun _ => 0)), .inl (0, 7, .inl (fun _ => 0)), .inl (0, 120, .inl (fun _ => 0)), .inl (0, 4, .inl (fun _ => 0)), .inl (0, 4, .inl (fun _ => 0)), .inl (1, 160, .inr (.inl (fun _ => 0)))]) dX5_init_72 pFX5_34 rfl rfl (Nat.le_of_ble_eq_true rfl) (fun _ => rfl) (fun _ => rfl) rfl rfl ?_
  refine n_aload_n dX5_init_75 rfl ?_
  refine n_bipush (v := nI 40) dX5_init_76 (by decide) ?_
  refine n_newJ (n := 10) (nc := 0) (ns := 0) 40 dX5_init_78 (by decide) rfl ⟨(by repeat (first | exact trivial | refine And.intro rfl ?_ | refine And.intro trivial ?_ | refine And.intro (by repeat (first | exact okA_none | refine okA_up rfl ?_)) ?_)), rfl, rfl⟩ ?_
  refine n_heq (h' := [.inr (5, [.ref 1, .ref 2, .ref 3, .ref 4, .ref 5, .int 0, .int 0, .ref 6, .int 0, .int 0, .int 0, .int 0, .int 0, .ref 7, .ref 8, .ref 9, .null]), .inl (0, 37, .inl (fun _ => 0)), .inl (0, 37, .inl (fun _ => 0)), .inl (0, 37, .inl (fun _ => 0)), .inl (0, 37, .inl (fun _ => 0)), .inl (0, 7, .inl (fun _ => 0)), .inl (0, 120, .inl (fun _ => 0)), .inl (0, 4, .inl (fun _ => 0)), .inl (0, 4, .inl (fun _ => 0)), .inl (1, 160, .inr (.inl (fun _ => 0))), .inl (1, 40, .inr (.inl (fun _ => 0)))]) (HE.of rfl) ?_
  refine n_putF (fs' := [_, _, _, _, _, _, _, _, _, _, _, _, _, _, _, _, _]) (h' := [.inr (5, [.ref 1, .ref 2, .ref 3, .ref 4, .ref 5, .int 0, .int 0, .ref 6, .int 0, .int 0, .int 0, .int 0, .int 0, .ref 7, .ref 8, .ref 9, .ref 10]), .inl (0, 37, .inl (fun _ => 0)), .inl (0, 37, .inl (fun _ => 0)), .inl (0, 37, .inl (fun _ => 0)), .inl (0, 37, .inl (fun _ => 0)), .inl (0, 7, .inl (fun _ => 0)), .inl (0, 120, .inl (fun _ => 0)), .inl (0, 4, .inl (fun _ => 0)), .inl (0, 4, .inl (fun _ => 0)), .inl (1, 160, .inr (.inl (fun _ => 0))), .inl (1, 40, .inr (.inl (fun _ => 0)))]) dX5_init_80 pFX5_38 rfl rfl (Nat.le_of_ble_eq_true rfl) (fun _ => rfl) (fun _ => rfl) rfl rfl ?_
  refine n_iconst (v := nI 3) dX5_init_83 (by decide) ?_
  refine n_istore_n (lv' := [_, _]) dX5_init_84 (by decide) rfl ?_
  refine n_iload_n dX5_init_85 rfl ?_
  refine n_bipush (v := nI 30) dX5_init_86 (by decide) ?_
  refine n_icmp_ge 109 dX5_init_88 (by decide) (fun c9 => absurd c9 (by decide)) (fun c9 => ?_)
  refine n_aload_n dX5_init_91 rfl ?_
  refine n_getfield dX5_init_92 gfX5_7 rfl rfl ?_
  refine n_iconst (v := nI 2) dX5_init_95 (by decide) ?_
  refine n_dup2 dX5_init_96 rfl rfl ?_
  refine n_ialdN dX5_init_97 rfl (by decide) (Nat.le_of_ble_eq_true rfl) rfl ?_
  refine n_iconst (v := nI 1) dX5_init_98 (by decide) ?_
  refine n_iload_n dX5_init_99 rfl ?_
  refine n_ishl dX5_init_100 ?_
  refine n_ior dX5_init_101 ?_
  refine n_iastN (h' := [_, _, _, _, _, _, _, _, _, _, _]) dX5_init_102 rfl (by decide) (Nat.le_of_ble_eq_true rfl) rfl ?_
  refine n_iinc (lv' := [_, _]) dX5_init_103 (by decide) rfl (show nI 3 + Int32.ofInt 7 = nI 10 by decide) rfl ?_
  refine n_goto 85 dX5_init_106 (by decide) ?_
  refine n_iload_n dX5_init_85 rfl ?_
  refine n_bipush (v := nI 30) dX5_init_86 (by decide) ?_
  refine n_icmp_ge 109 dX5_init_88 (by decide) (fun c9 => absurd c9 (by decide)) (fun c9 => ?_)
  refine n_aload_n dX5_init_91 rfl ?_
  refine n_getfield dX5_init_92 gfX5_7 rfl rfl ?_
  refine n_iconst (v := nI 2) dX5_init_95 (by decide) ?_
  refine n_dup2 dX5_init_96 rfl rfl ?_
  refine n_ialdN dX5_init_97 rfl (by decide) (Nat.le_of_ble_eq_true rfl) rfl ?_
  refine n_iconst (v := nI 1) dX5_init_98 (by decide) ?_
  refine n_iload_n dX5_init_99 rfl ?_
  refine n_ishl dX5_init_100 ?_
  refine n_ior dX5_init_101 ?_
  refine n_iastN (h' := [_, _, _, _, _, _, _, _, _, _, _]) dX5_init_102 rfl (by decide) (Nat.le_of_ble_eq_true rfl) rfl ?_
  refine n_iinc (lv' := [_, _]) dX5_init_103 (by decide) rfl (show nI 10 + Int32.ofInt 7 = nI 17 by decide) rfl ?_
  refine n_goto 85 dX5_init_106 (by decide) ?_
  refine n_iload_n dX5_init_85 rfl ?_
  refine n_bipush (v := nI 30) dX5_init_86 (by decide) ?_
  refine n_icmp_ge 109 dX5_init_88 (by decide) (fun c9 => absurd c9 (by decide)) (fun c9 => ?_)
  refine n_aload_n dX5_init_91 rfl ?_
  refine n_getfield dX5_init_92 gfX5_7 rfl rfl ?_
  refine n_iconst (v := nI 2) dX5_init_95 (by decide) ?_
  refine n_dup2 dX5_init_96 rfl rfl ?_
  refine n_ialdN dX5_init_97 rfl (by decide) (Nat.le_of_ble_eq_true rfl) rfl ?_
  refine n_iconst (v := nI 1) dX5_init_98 (by decide) ?_
  refine n_iload_n dX5_init_99 rfl ?_
  refine n_ishl dX5_init_100 ?_
  refine n_ior dX5_init_101 ?_
  refine n_iastN (h' := [_, _, _, _, _, _, _, _, _, _, _]) dX5_init_102 rfl (by decide) (Nat.le_of_ble_eq_true rfl) rfl ?_
  refine n_iinc (lv' := [_, _]) dX5_init_103 (by decide) rfl (show nI 17 + Int32.ofInt 7 = nI 24 by decide) rfl ?_
  refine n_goto 85 dX5_init_106 (by decide) ?_
  refine n_iload_n dX5_init_85 rfl ?_
  refine n_bipush (v := nI 30) dX5_init_86 (by decide) ?_
  refine n_icmp_ge 109 dX5_init_88 (by decide) (fun c9 => absurd c9 (by decide)) (fun c9 => ?_)
  refine n_aload_n dX5_init_91 rfl ?_
  refine n_getfield dX5_init_92 gfX5_7 rfl rfl ?_
  refine n_iconst (v := nI 2) dX5_init_95 (by decide) ?_
  refine n_dup2 dX5_init_96 rfl rfl ?_
  refine n_ialdN dX5_init_97 rfl (by decide) (Nat.le_of_ble_eq_true rfl) rfl ?_
  refine n_iconst (v := nI 1) dX5_init_98 (by decide) ?_
  refine n_iload_n dX5_init_99 rfl ?_
  refine n_ishl dX5_init_100 ?_
  refine n_ior dX5_init_101 ?_
  refine n_iastN (h' := [_, _, _, _, _, _, _, _, _, _, _]) dX5_init_102 rfl (by decide) (Nat.le_of_ble_eq_true rfl) rfl ?_
  refine n_iinc (lv' := [_, _]) dX5_init_103 (by decide) rfl (show nI 24 + Int32.ofInt 7 = nI 31 by decide) rfl ?_
  refine n_goto 85 dX5_init_106 (by decide) ?_
  refine n_iload_n dX5_init_85 rfl ?_
  refine n_bipush (v := nI 30) dX5_init_86 (by decide) ?_
  refine n_icmp_ge 109 dX5_init_88 (by decide) (fun c9 => ?_) (fun c9 => absurd (by decide) c9)
  refine n_aload_n dX5_init_109 rfl ?_
  refine n_getfield dX5_init_110 gfX5_7 rfl rfl ?_
  refine n_iconst (v := nI 4) dX5_init_113 (by decide) ?_
  refine n_iconst (v := nI 3) dX5_init_114 (by decide) ?_
  refine n_iastN (h' := [_, _, _, _, _, _, _, _, _, _, _]) dX5_init_115 rfl (by decide) (Nat.le_of_ble_eq_true rfl) rfl ?_
  refine n_vret dX5_init_116 rfl ?_
  exact ⟨CE.of rfl, CE.ints (by decide +kernel), CE.of rfl, CE.of rfl, CE.of rfl, CE.of rfl, CE.of rfl, CE.of rfl, CE.of rfl, CE.of rfl, CE.of rfl, trivial⟩
