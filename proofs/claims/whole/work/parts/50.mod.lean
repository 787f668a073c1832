/-! THE REFERENCE: its picture: (code, replicas, messages, table, values, sums, from, to), its methods' contracts -/
def md (K : gw_C) (M : gw_M) (mo : Nat) (ad : Nat → Nat) (cd : Int32) (nn kk : Nat) (tb vb : Nat → Int32) (sb : Nat → Int64) (fm tq : Nat → Int32) : Prop :=
  (nn ≤ 6 ∧ kk ≤ 100) ∧ M mo = some (.inr (4, [.int cd, .int (nI nn), .int (nI kk), .ref (ad 0), .ref (ad 1), .ref (ad 2), .ref (ad 3), .ref (ad 4)])) ∧ M (ad 0) = some (.inl (K.2.1 0, 43884, .inl tb)) ∧ M (ad 1) = some (.inl (K.2.1 0, 2544, .inl vb)) ∧ M (ad 2) = some (.inl (K.2.1 1, 5088, .inr (.inl sb))) ∧ M (ad 3) = some (.inl (K.2.1 0, 100, .inl fm)) ∧ M (ad 4) = some (.inl (K.2.1 0, 100, .inl tq)) ∧ ∀ i j, i < 5 → j < 5 → ad i = ad j → i = j
def mfr (M M1 : gw_M) (mo : Nat) (ad : Nat → Nat) : Prop := ∀ q, q ≠ mo → (∀ i, i < 5 → q ≠ ad i) → M1 q = M q
theorem mfr.rf {M : gw_M} {mo : Nat} {ad : Nat → Nat} : mfr M M mo ad := fun _ _ _ => rfl
theorem mfr.tr {M M1 M2 : gw_M} {mo : Nat} {ad : Nat → Nat} (h1 : mfr M M1 mo ad) (h2 : mfr M1 M2 mo ad) : mfr M M2 mo ad := fun q a b => (h2 q a b).trans (h1 q a b)
/-- an answer of a test -/
def tst (r : Int32) (P : Prop) : Prop := (r = nI 1 ∧ P) ∨ (r = nI 0 ∧ ¬ P)
theorem tst_y {r : Int32} {P : Prop} (h : tst r P) (hP : P) : r = nI 1 := h.elim (fun z => z.1) (fun z => absurd hP z.2)
theorem tst_n {r : Int32} {P : Prop} (h : tst r P) (hP : ¬ P) : r = nI 0 := h.elim (fun z => absurd z.2 hP) (fun z => z.1)
theorem tst_z {r : Int32} {P : Prop} (h : tst r P) (hz : r = 0) : ¬ P := h.elim (fun z => by rw [hz] at z; exact absurd z.1 (by decide)) (fun z => z.2)
theorem tst_o {r : Int32} {P : Prop} (h : tst r P) (hz : ¬ r = 0) : P := h.elim (fun z => z.2) (fun z => by rw [z.1] at hz; exact absurd rfl hz)
/-- n entries from b on made 0 -/
def mclr (f : Nat → Int32) (b i : Nat) : Nat → Int32 := fun j => if b ≤ j ∧ j < b + i then 0 else f j
theorem mclr_0 (f : Nat → Int32) (b : Nat) : mclr f b 0 = f := by
  funext j
  unfold mclr
  rw [if_neg (by omega)]
theorem mclr_s (f : Nat → Int32) (b i : Nat) : upd (mclr f b i) (b + i) (nI 0) = mclr f b (i + 1) := by
  funext j
  unfold upd mclr
  by_cases h : j = b + i
  · rw [if_pos h, if_pos (by omega)]; rfl
  · rw [if_neg h]
    by_cases h2 : b ≤ j ∧ j < b + i
    · rw [if_pos h2, if_pos (by omega)]
    · rw [if_neg h2, if_neg (by omega)]
/-- how many of the first k from b on are above 0 -/
def mny (f : Nat → Int32) (b : Nat) : Nat → Nat
  | 0 => 0
  | k + 1 => mny f b k + (if f (b + k) ≤ 0 then 0 else 1)
theorem mny_le (f : Nat → Int32) (b k : Nat) : mny f b k ≤ k := by
  induction k with
  | zero => exact Nat.le_refl 0
  | succ k ih =>
    show mny f b k + (if f (b + k) ≤ 0 then 0 else 1) ≤ k + 1
    split <;> omega
/-- a new dot -/
def mnew (f : Nat → Int32) (who row : Nat) : Nat → Int32 := upd (mclr (upd f (414 * who + who) (f (414 * who + who) + nI 1)) (414 * who + 6 + 6 * row) 6) (414 * who + 6 + 6 * row + who) (f (414 * who + who) + nI 1)
/-- a counter's value -/
def msum (f : Nat → Int64) (b : Nat) : Nat → Int64
  | 0 => 0
  | k + 1 => msum f b k + (f (b + k) - f (b + k + 24))
set_option maxHeartbeats 4000000 in
set_option maxRecDepth 100000 in
/-- dots -/
theorem c_dots (l : Launch) (K : gw_C) (M : gw_M) (a b : Nat)  : Met l yX3_dots wsX3_dots ({ frames := 0, cells := 0, slots := 0, locals := 0 } : Room) (va_Pc [.int (nI a), .int (nI b)] (gw_I K M)) (va_Qi (fun r M1 => M1 = M ∧ r = nI (414 * a + 6 + 6 * b)) (gw_I K) (gw_A K)) 0 0 (gw_A K) := by
  refine Met.ofW (cc := cX3_dots) (maxL := 2) (ret := (some .int)) (by decide) rfl ?_
  intro p e s m args below meth c s₁ B hml hv
  obtain ⟨hav, hI⟩ := hv
  have hx := B.exec
  have hb := B.bytes
  have hr := B.returns
  have hts := atoms_spec (ws := wsX3_dots) B.pre
  have hown : s.vm.findClass RX3 = some m.cls := findClass_of_methodNamed B.named
  have hlocks : meth.locks = false := B.notSynchronized
  have hT := hI.2.2
  have hK := hT.K
  have hG := hI.B
  have hE : entryFrame m args 2 = entryFrame m ([.int (nI a), .int (nI b)] : List Value).toArray 2 := by rw [hav]
  rw [hE]
  have hl := lv_entry ([.int (nI a), .int (nI b)]) (n := 2) (Nat.le_of_ble_eq_true rfl)
  rw [lg_entry_eq]
  generalize (lg_sl ([.int (nI a), .int (nI b)]) ++ List.replicate (2 - (lg_sl ([.int (nI a), .int (nI b)])).length) Slot.unset).toArray = ls at hl ⊢
  have hl : lv_has ls 2 [(0, .int (nI a)), (1, .int (nI b))] := hl
  refine lv_sipush (v := nI 414) hx hb dX3_dots_0 (by decide) ?_
  refine lv_iload_n hx hb dX3_dots_3 rfl (lv_at hl 0 rfl) ?_
  refine gw_imul hx hb dX3_dots_4 ?_
  refine lv_bipush (v := nI 6) hx hb dX3_dots_5 (by decide) ?_
  refine gw_iadd hx hb dX3_dots_7 ?_
  refine lv_bipush (v := nI 6) hx hb dX3_dots_8 (by decide) ?_
  refine lv_iload_n hx hb dX3_dots_10 rfl (lv_at hl 1 rfl) ?_
  refine gw_imul hx hb dX3_dots_11 ?_
  refine gw_iadd hx hb dX3_dots_12 ?_
  exact gw_iret hx hb hr hlocks hG hT (by omega) (by omega) dX3_dots_13 ⟨rfl, rfl⟩

set_option maxHeartbeats 4000000 in
set_option maxRecDepth 100000 in
/-- vectorAt -/
theorem c_vectorAt (l : Launch) (K : gw_C) (M : gw_M) (a b : Nat)  : Met l yX3_vectorAt wsX3_vectorAt ({ frames := 0, cells := 0, slots := 0, locals := 0 } : Room) (va_Pc [.int (nI a), .int (nI b)] (gw_I K M)) (va_Qi (fun r M1 => M1 = M ∧ r = nI (414 * a + b)) (gw_I K) (gw_A K)) 0 0 (gw_A K) := by
  refine Met.ofW (cc := cX3_vectorAt) (maxL := 2) (ret := (some .int)) (by decide) rfl ?_
  intro p e s m args below meth c s₁ B hml hv
  obtain ⟨hav, hI⟩ := hv
  have hx := B.exec
  have hb := B.bytes
  have hr := B.returns
  have hts := atoms_spec (ws := wsX3_vectorAt) B.pre
  have hown : s.vm.findClass RX3 = some m.cls := findClass_of_methodNamed B.named
  have hlocks : meth.locks = false := B.notSynchronized
  have hT := hI.2.2
  have hK := hT.K
  have hG := hI.B
  have hE : entryFrame m args 2 = entryFrame m ([.int (nI a), .int (nI b)] : List Value).toArray 2 := by rw [hav]
  rw [hE]
  have hl := lv_entry ([.int (nI a), .int (nI b)]) (n := 2) (Nat.le_of_ble_eq_true rfl)
  rw [lg_entry_eq]
  generalize (lg_sl ([.int (nI a), .int (nI b)]) ++ List.replicate (2 - (lg_sl ([.int (nI a), .int (nI b)])).length) Slot.unset).toArray = ls at hl ⊢
  have hl : lv_has ls 2 [(0, .int (nI a)), (1, .int (nI b))] := hl
  refine lv_sipush (v := nI 414) hx hb dX3_vectorAt_0 (by decide) ?_
  refine lv_iload_n hx hb dX3_vectorAt_3 rfl (lv_at hl 0 rfl) ?_
  refine gw_imul hx hb dX3_vectorAt_4 ?_
  refine lv_iload_n hx hb dX3_vectorAt_5 rfl (lv_at hl 1 rfl) ?_
  refine gw_iadd hx hb dX3_vectorAt_6 ?_
  exact gw_iret hx hb hr hlocks hG hT (by omega) (by omega) dX3_vectorAt_7 ⟨rfl, rfl⟩

set_option maxHeartbeats 4000000 in
set_option maxRecDepth 100000 in
/-- c_thrown -/
theorem c_thrown (l : Launch) (K : gw_C) (M : gw_M) (mo : Nat) (ad : Nat → Nat) (cd : Int32) (nn kk : Nat) (tb vb : Nat → Int32) (sb : Nat → Int64) (fm tq : Nat → Int32)  (hm : md K M mo ad cd nn kk tb vb sb fm tq)  : Met l yX3_thrown wsX3_thrown ({ frames := 0, cells := 0, slots := 0, locals := 0 } : Room) (va_Pc [.ref mo] (gw_I K M)) (va_Qi (fun r M1 => M1 = M ∧ r = cd) (gw_I K) (gw_A K)) 0 0 (gw_A K) := by
  refine Met.ofW (cc := cX3_thrown) (maxL := 1) (ret := (some .int)) (by decide) rfl ?_
  intro p e s m args below meth c s₁ B hml hv
  obtain ⟨hav, hI⟩ := hv
  have hx := B.exec
  have hb := B.bytes
  have hr := B.returns
  have hts := atoms_spec (ws := wsX3_thrown) B.pre
  have hown : s.vm.findClass RX3 = some m.cls := findClass_of_methodNamed B.named
  have hlocks : meth.locks = false := B.notSynchronized
  have hT := hI.2.2
  have hK := hT.K
  have hG := hI.B
  have hf31 := hts (.fieldLink RX3 31 "DotGossipModel" "code" "I") (by decide +kernel)
  have hinX3 : ∀ w ∈ wsX30, w ∈ wsX3_thrown := by decide +kernel
  have hE : entryFrame m args 1 = entryFrame m ([.ref mo] : List Value).toArray 1 := by rw [hav]
  rw [hE]
  have hl := lv_entry ([.ref mo]) (n := 1) (Nat.le_of_ble_eq_true rfl)
  rw [lg_entry_eq]
  generalize (lg_sl ([.ref mo]) ++ List.replicate (1 - (lg_sl ([.ref mo])).length) Slot.unset).toArray = ls at hl ⊢
  have hl : lv_has ls 1 [(0, .ref mo)] := hl
  obtain ⟨p0_b, p0_o, p0_0, p0_1, p0_2, p0_3, p0_4, p0_ne⟩ := id hm
  have ne_o0 : mo ≠ ad 0 := gw_io p0_o p0_0
  have ne_o1 : mo ≠ ad 1 := gw_io p0_o p0_1
  have ne_o2 : mo ≠ ad 2 := gw_io p0_o p0_2
  have ne_o3 : mo ≠ ad 3 := gw_io p0_o p0_3
  have ne_o4 : mo ≠ ad 4 := gw_io p0_o p0_4
  refine lv_aload_n hx hb dX3_thrown_0 rfl (lv_at hl 0 rfl) ?_
  refine gw_get (ci := 4) (C := RX3) (T := TX3) (N := 8) hx hb hts hinX3 hown hK hG p0_o rfl 0 (by decide) hf31 (fun _ h9 => h9) rfl dX3_thrown_1 ?_
  exact gw_iret hx hb hr hlocks hG hT (by omega) (by omega) dX3_thrown_4 ⟨rfl, rfl⟩

set_option maxHeartbeats 4000000 in
set_option maxRecDepth 100000 in
/-- c_ref0 -/
theorem c_ref0 (l : Launch) (K : gw_C) (M : gw_M) (mo : Nat) (ad : Nat → Nat) (cd : Int32) (nn kk : Nat) (tb vb : Nat → Int32) (sb : Nat → Int64) (fm tq : Nat → Int32) (cv : Nat)  (hm : md K M mo ad cd nn kk tb vb sb fm tq)  : Met l yX3_refuses wsX3_refuses ({ frames := 0, cells := 0, slots := 0, locals := 0 } : Room) (va_Pc [.ref mo, .int (nI 0)] (gw_I K M)) (va_Qi (fun r M1 => r = nI 0 ∧ md K M1 mo ad (nI 0) nn kk tb vb sb fm tq ∧ mfr M M1 mo ad) (gw_I K) (gw_A K)) 0 0 (gw_A K) := by
  refine Met.ofW (cc := cX3_refuses) (maxL := 2) (ret := (some .boolean)) (by decide) rfl ?_
  intro p e s m args below meth c s₁ B hml hv
  obtain ⟨hav, hI⟩ := hv
  have hx := B.exec
  have hb := B.bytes
  have hr := B.returns
  have hts := atoms_spec (ws := wsX3_refuses) B.pre
  have hown : s.vm.findClass RX3 = some m.cls := findClass_of_methodNamed B.named
  have hlocks : meth.locks = false := B.notSynchronized
  have hT := hI.2.2
  have hK := hT.K
  have hG := hI.B
  have hf31 := hts (.fieldLink RX3 31 "DotGossipModel" "code" "I") (by decide +kernel)
  have hinX3 : ∀ w ∈ wsX30, w ∈ wsX3_refuses := by decide +kernel
  have hE : entryFrame m args 2 = entryFrame m ([.ref mo, .int (nI 0)] : List Value).toArray 2 := by rw [hav]
  rw [hE]
  have hl := lv_entry ([.ref mo, .int (nI 0)]) (n := 2) (Nat.le_of_ble_eq_true rfl)
  rw [lg_entry_eq]
  generalize (lg_sl ([.ref mo, .int (nI 0)]) ++ List.replicate (2 - (lg_sl ([.ref mo, .int (nI 0)])).length) Slot.unset).toArray = ls at hl ⊢
  have hl : lv_has ls 2 [(0, .ref mo), (1, .int (nI 0))] := hl
  obtain ⟨p0_b, p0_o, p0_0, p0_1, p0_2, p0_3, p0_4, p0_ne⟩ := id hm
  have ne_o0 : mo ≠ ad 0 := gw_io p0_o p0_0
  have ne_o1 : mo ≠ ad 1 := gw_io p0_o p0_1
  have ne_o2 : mo ≠ ad 2 := gw_io p0_o p0_2
  have ne_o3 : mo ≠ ad 3 := gw_io p0_o p0_3
  have ne_o4 : mo ≠ ad 4 := gw_io p0_o p0_4
  refine lv_aload_n hx hb dX3_refuses_0 rfl (lv_at hl 0 rfl) ?_
  refine lv_iload_n hx hb dX3_refuses_1 rfl (lv_at hl 1 rfl) ?_
  refine gw_put (ci := 4) (v := .int (nI 0)) (ty := .int) (C := RX3) (T := TX3) (N := 8) hx hb hts hinX3 tyX3 tyX3_ok nmX3 hown hK hG p0_o rfl 0 (by decide) hf31 (fun _ h9 => h9) rfl (by decide +kernel) rfl rfl (Nat.le_of_ble_eq_true rfl) dX3_refuses_2 (fun H locs hG => ?_)
  obtain ⟨M_15, hM_16⟩ : ∃ M1 : gw_M, M1 = gw_up M mo (.inr (4, [.int (nI 0), .int (nI nn), .int (nI kk), .ref (ad 0), .ref (ad 1), .ref (ad 2), .ref (ad 3), .ref (ad 4)])) := ⟨_, rfl⟩
  have hG : gw_B K M_15 s.heap H locs := by rw [hM_16]; exact hG
  have hc_17 : M_15 mo = some (.inr (4, [.int (nI 0), .int (nI nn), .int (nI kk), .ref (ad 0), .ref (ad 1), .ref (ad 2), .ref (ad 3), .ref (ad 4)])) := (congrFun hM_16 _).trans gw_s
  have hc_18 := (congrFun hM_16 (ad 0)).trans (gw_k (Ne.symm ne_o0) p0_0)
  have hc_19 := (congrFun hM_16 (ad 1)).trans (gw_k (Ne.symm ne_o1) p0_1)
  have hc_20 := (congrFun hM_16 (ad 2)).trans (gw_k (Ne.symm ne_o2) p0_2)
  have hc_21 := (congrFun hM_16 (ad 3)).trans (gw_k (Ne.symm ne_o3) p0_3)
  have hc_22 := (congrFun hM_16 (ad 4)).trans (gw_k (Ne.symm ne_o4) p0_4)
  have fr_23 : mfr M M_15 mo ad := fun q h1 h2 => ((congrFun hM_16 q).trans (gw_n h1)).trans (mfr.rf q h1 h2)
  refine lv_iload_n hx hb dX3_refuses_5 rfl (lv_at hl 1 rfl) ?_
  refine lv_if_le hx hb (tgt := 13) dX3_refuses_6 (by decide) (fun hc => ?_) (fun hc => absurd (by decide) hc)
  refine lv_iconst (v := nI 0) hx hb dX3_refuses_13 (by decide) ?_
  exact gw_zret hx hb hr hlocks hG hT (by omega) (by omega) dX3_refuses_14 (by decide) ⟨rfl, ⟨p0_b, hc_17, hc_18, hc_19, hc_20, hc_21, hc_22, p0_ne⟩, fr_23⟩

set_option maxHeartbeats 4000000 in
set_option maxRecDepth 100000 in
/-- c_refp -/
theorem c_refp (l : Launch) (K : gw_C) (M : gw_M) (mo : Nat) (ad : Nat → Nat) (cd : Int32) (nn kk : Nat) (tb vb : Nat → Int32) (sb : Nat → Int64) (fm tq : Nat → Int32) (cv : Nat)  (hm : md K M mo ad cd nn kk tb vb sb fm tq) (hcv : 0 < cv ∧ cv < 3) : Met l yX3_refuses wsX3_refuses ({ frames := 0, cells := 0, slots := 0, locals := 0 } : Room) (va_Pc [.ref mo, .int (nI cv)] (gw_I K M)) (va_Qi (fun r M1 => r = nI 1 ∧ md K M1 mo ad (nI cv) nn kk tb vb sb fm tq ∧ mfr M M1 mo ad) (gw_I K) (gw_A K)) 0 0 (gw_A K) := by
  refine Met.ofW (cc := cX3_refuses) (maxL := 2) (ret := (some .boolean)) (by decide) rfl ?_
  intro p e s m args below meth c s₁ B hml hv
  obtain ⟨hav, hI⟩ := hv
  have hx := B.exec
  have hb := B.bytes
  have hr := B.returns
  have hts := atoms_spec (ws := wsX3_refuses) B.pre
  have hown : s.vm.findClass RX3 = some m.cls := findClass_of_methodNamed B.named
  have hlocks : meth.locks = false := B.notSynchronized
  have hT := hI.2.2
  have hK := hT.K
  have hG := hI.B
  have hf31 := hts (.fieldLink RX3 31 "DotGossipModel" "code" "I") (by decide +kernel)
  have hinX3 : ∀ w ∈ wsX30, w ∈ wsX3_refuses := by decide +kernel
  have hE : entryFrame m args 2 = entryFrame m ([.ref mo, .int (nI cv)] : List Value).toArray 2 := by rw [hav]
  rw [hE]
  have hl := lv_entry ([.ref mo, .int (nI cv)]) (n := 2) (Nat.le_of_ble_eq_true rfl)
  rw [lg_entry_eq]
  generalize (lg_sl ([.ref mo, .int (nI cv)]) ++ List.replicate (2 - (lg_sl ([.ref mo, .int (nI cv)])).length) Slot.unset).toArray = ls at hl ⊢
  have hl : lv_has ls 2 [(0, .ref mo), (1, .int (nI cv))] := hl
  obtain ⟨p0_b, p0_o, p0_0, p0_1, p0_2, p0_3, p0_4, p0_ne⟩ := id hm
  have ne_o0 : mo ≠ ad 0 := gw_io p0_o p0_0
  have ne_o1 : mo ≠ ad 1 := gw_io p0_o p0_1
  have ne_o2 : mo ≠ ad 2 := gw_io p0_o p0_2
  have ne_o3 : mo ≠ ad 3 := gw_io p0_o p0_3
  have ne_o4 : mo ≠ ad 4 := gw_io p0_o p0_4
  refine lv_aload_n hx hb dX3_refuses_0 rfl (lv_at hl 0 rfl) ?_
  refine lv_iload_n hx hb dX3_refuses_1 rfl (lv_at hl 1 rfl) ?_
  refine gw_put (ci := 4) (v := .int (nI cv)) (ty := .int) (C := RX3) (T := TX3) (N := 8) hx hb hts hinX3 tyX3 tyX3_ok nmX3 hown hK hG p0_o rfl 0 (by decide) hf31 (fun _ h9 => h9) rfl (by decide +kernel) rfl rfl (Nat.le_of_ble_eq_true rfl) dX3_refuses_2 (fun H locs hG => ?_)
  obtain ⟨M_24, hM_25⟩ : ∃ M1 : gw_M, M1 = gw_up M mo (.inr (4, [.int (nI cv), .int (nI nn), .int (nI kk), .ref (ad 0), .ref (ad 1), .ref (ad 2), .ref (ad 3), .ref (ad 4)])) := ⟨_, rfl⟩
  have hG : gw_B K M_24 s.heap H locs := by rw [hM_25]; exact hG
  have hc_26 : M_24 mo = some (.inr (4, [.int (nI cv), .int (nI nn), .int (nI kk), .ref (ad 0), .ref (ad 1), .ref (ad 2), .ref (ad 3), .ref (ad 4)])) := (congrFun hM_25 _).trans gw_s
  have hc_27 := (congrFun hM_25 (ad 0)).trans (gw_k (Ne.symm ne_o0) p0_0)
  have hc_28 := (congrFun hM_25 (ad 1)).trans (gw_k (Ne.symm ne_o1) p0_1)
  have hc_29 := (congrFun hM_25 (ad 2)).trans (gw_k (Ne.symm ne_o2) p0_2)
  have hc_30 := (congrFun hM_25 (ad 3)).trans (gw_k (Ne.symm ne_o3) p0_3)
  have hc_31 := (congrFun hM_25 (ad 4)).trans (gw_k (Ne.symm ne_o4) p0_4)
  have fr_32 : mfr M M_24 mo ad := fun q h1 h2 => ((congrFun hM_25 q).trans (gw_n h1)).trans (mfr.rf q h1 h2)
  refine lv_iload_n hx hb dX3_refuses_5 rfl (lv_at hl 1 rfl) ?_
  refine lv_if_le hx hb (tgt := 13) dX3_refuses_6 (by decide) (fun hc => absurd hc (nI_nle hcv.1 (by omega))) (fun hc => ?_)
  refine lv_iconst (v := nI 1) hx hb dX3_refuses_9 (by decide) ?_
  refine lv_goto (tgt := 14) hx hb dX3_refuses_10 (by decide) ?_
  exact gw_zret hx hb hr hlocks hG hT (by omega) (by omega) dX3_refuses_14 (by decide) ⟨rfl, ⟨p0_b, hc_26, hc_27, hc_28, hc_29, hc_30, hc_31, p0_ne⟩, fr_32⟩

set_option maxHeartbeats 4000000 in
set_option maxRecDepth 100000 in
/-- c_isRep -/
theorem c_isRep (l : Launch) (K : gw_C) (M : gw_M) (mo : Nat) (ad : Nat → Nat) (cd : Int32) (nn kk : Nat) (tb vb : Nat → Int32) (sb : Nat → Int64) (fm tq : Nat → Int32) (r9 : Int32) (hm : md K M mo ad cd nn kk tb vb sb fm tq)  : Met l yX3_isReplica wsX3_isReplica ({ frames := 0, cells := 0, slots := 0, locals := 0 } : Room) (va_Pc [.ref mo, .int r9] (gw_I K M)) (va_Qi (fun r M1 => M1 = M ∧ tst r (inN r9 nn)) (gw_I K) (gw_A K)) 0 0 (gw_A K) := by
  refine Met.ofW (cc := cX3_isReplica) (maxL := 2) (ret := (some .boolean)) (by decide) rfl ?_
  intro p e s m args below meth c s₁ B hml hv
  obtain ⟨hav, hI⟩ := hv
  have hx := B.exec
  have hb := B.bytes
  have hr := B.returns
  have hts := atoms_spec (ws := wsX3_isReplica) B.pre
  have hown : s.vm.findClass RX3 = some m.cls := findClass_of_methodNamed B.named
  have hlocks : meth.locks = false := B.notSynchronized
  have hT := hI.2.2
  have hK := hT.K
  have hG := hI.B
  have hf7 := hts (.fieldLink RX3 7 "DotGossipModel" "replicas" "I") (by decide +kernel)
  have hinX3 : ∀ w ∈ wsX30, w ∈ wsX3_isReplica := by decide +kernel
  have hE : entryFrame m args 2 = entryFrame m ([.ref mo, .int r9] : List Value).toArray 2 := by rw [hav]
  rw [hE]
  have hl := lv_entry ([.ref mo, .int r9]) (n := 2) (Nat.le_of_ble_eq_true rfl)
  rw [lg_entry_eq]
  generalize (lg_sl ([.ref mo, .int r9]) ++ List.replicate (2 - (lg_sl ([.ref mo, .int r9])).length) Slot.unset).toArray = ls at hl ⊢
  have hl : lv_has ls 2 [(0, .ref mo), (1, .int r9)] := hl
  obtain ⟨p0_b, p0_o, p0_0, p0_1, p0_2, p0_3, p0_4, p0_ne⟩ := id hm
  have ne_o0 : mo ≠ ad 0 := gw_io p0_o p0_0
  have ne_o1 : mo ≠ ad 1 := gw_io p0_o p0_1
  have ne_o2 : mo ≠ ad 2 := gw_io p0_o p0_2
  have ne_o3 : mo ≠ ad 3 := gw_io p0_o p0_3
  have ne_o4 : mo ≠ ad 4 := gw_io p0_o p0_4
  refine lv_iload_n hx hb dX3_isReplica_0 rfl (lv_at hl 1 rfl) ?_
  refine lv_if_lt hx hb (tgt := 16) dX3_isReplica_1 (by decide) (fun h1 => ?_) (fun h1 => ?_)
  · refine lv_iconst (v := nI 0) hx hb dX3_isReplica_16 (by decide) ?_
    exact gw_zret hx hb hr hlocks hG hT (by omega) (by omega) dX3_isReplica_17 (by decide) ⟨rfl, Or.inr ⟨rfl, fun q => ((inN_iff (by omega)).mpr q).1 h1⟩⟩
  · refine lv_iload_n hx hb dX3_isReplica_4 rfl (lv_at hl 1 rfl) ?_
    refine lv_aload_n hx hb dX3_isReplica_5 rfl (lv_at hl 0 rfl) ?_
    refine gw_get (ci := 4) (C := RX3) (T := TX3) (N := 8) hx hb hts hinX3 hown hK hG p0_o rfl 1 (by decide) hf7 (fun _ h9 => h9) rfl dX3_isReplica_6 ?_
    refine lv_icmp_ge hx hb (tgt := 16) dX3_isReplica_9 (by decide) (fun h2 => ?_) (fun h2 => ?_)
    · refine lv_iconst (v := nI 0) hx hb dX3_isReplica_16 (by decide) ?_
      exact gw_zret hx hb hr hlocks hG hT (by omega) (by omega) dX3_isReplica_17 (by decide) ⟨rfl, Or.inr ⟨rfl, fun q => Int32.not_le.mpr ((inN_iff (by omega)).mpr q).2 h2⟩⟩
    · refine lv_iconst (v := nI 1) hx hb dX3_isReplica_12 (by decide) ?_
      refine lv_goto (tgt := 17) hx hb dX3_isReplica_13 (by decide) ?_
      exact gw_zret hx hb hr hlocks hG hT (by omega) (by omega) dX3_isReplica_17 (by decide) ⟨rfl, Or.inl ⟨rfl, (inN_iff (by omega)).mp ⟨h1, Int32.not_le.mp h2⟩⟩⟩

set_option maxHeartbeats 4000000 in
set_option maxRecDepth 100000 in
/-- c_isMsg -/
theorem c_isMsg (l : Launch) (K : gw_C) (M : gw_M) (mo : Nat) (ad : Nat → Nat) (cd : Int32) (nn kk : Nat) (tb vb : Nat → Int32) (sb : Nat → Int64) (fm tq : Nat → Int32) (r9 : Int32) (hm : md K M mo ad cd nn kk tb vb sb fm tq)  : Met l yX3_isMessage wsX3_isMessage ({ frames := 0, cells := 0, slots := 0, locals := 0 } : Room) (va_Pc [.ref mo, .int r9] (gw_I K M)) (va_Qi (fun r M1 => M1 = M ∧ tst r (inN r9 kk)) (gw_I K) (gw_A K)) 0 0 (gw_A K) := by
  refine Met.ofW (cc := cX3_isMessage) (maxL := 2) (ret := (some .boolean)) (by decide) rfl ?_
  intro p e s m args below meth c s₁ B hml hv
  obtain ⟨hav, hI⟩ := hv
  have hx := B.exec
  have hb := B.bytes
  have hr := B.returns
  have hts := atoms_spec (ws := wsX3_isMessage) B.pre
  have hown : s.vm.findClass RX3 = some m.cls := findClass_of_methodNamed B.named
  have hlocks : meth.locks = false := B.notSynchronized
  have hT := hI.2.2
  have hK := hT.K
  have hG := hI.B
  have hf41 := hts (.fieldLink RX3 41 "DotGossipModel" "messages" "I") (by decide +kernel)
  have hinX3 : ∀ w ∈ wsX30, w ∈ wsX3_isMessage := by decide +kernel
  have hE : entryFrame m args 2 = entryFrame m ([.ref mo, .int r9] : List Value).toArray 2 := by rw [hav]
  rw [hE]
  have hl := lv_entry ([.ref mo, .int r9]) (n := 2) (Nat.le_of_ble_eq_true rfl)
  rw [lg_entry_eq]
  generalize (lg_sl ([.ref mo, .int r9]) ++ List.replicate (2 - (lg_sl ([.ref mo, .int r9])).length) Slot.unset).toArray = ls at hl ⊢
  have hl : lv_has ls 2 [(0, .ref mo), (1, .int r9)] := hl
  obtain ⟨p0_b, p0_o, p0_0, p0_1, p0_2, p0_3, p0_4, p0_ne⟩ := id hm
  have ne_o0 : mo ≠ ad 0 := gw_io p0_o p0_0
  have ne_o1 : mo ≠ ad 1 := gw_io p0_o p0_1
  have ne_o2 : mo ≠ ad 2 := gw_io p0_o p0_2
  have ne_o3 : mo ≠ ad 3 := gw_io p0_o p0_3
  have ne_o4 : mo ≠ ad 4 := gw_io p0_o p0_4
  refine lv_iload_n hx hb dX3_isMessage_0 rfl (lv_at hl 1 rfl) ?_
  refine lv_if_lt hx hb (tgt := 16) dX3_isMessage_1 (by decide) (fun h1 => ?_) (fun h1 => ?_)
  · refine lv_iconst (v := nI 0) hx hb dX3_isMessage_16 (by decide) ?_
    exact gw_zret hx hb hr hlocks hG hT (by omega) (by omega) dX3_isMessage_17 (by decide) ⟨rfl, Or.inr ⟨rfl, fun q => ((inN_iff (by omega)).mpr q).1 h1⟩⟩
  · refine lv_iload_n hx hb dX3_isMessage_4 rfl (lv_at hl 1 rfl) ?_
    refine lv_aload_n hx hb dX3_isMessage_5 rfl (lv_at hl 0 rfl) ?_
    refine gw_get (ci := 4) (C := RX3) (T := TX3) (N := 8) hx hb hts hinX3 hown hK hG p0_o rfl 2 (by decide) hf41 (fun _ h9 => h9) rfl dX3_isMessage_6 ?_
    refine lv_icmp_ge hx hb (tgt := 16) dX3_isMessage_9 (by decide) (fun h2 => ?_) (fun h2 => ?_)
    · refine lv_iconst (v := nI 0) hx hb dX3_isMessage_16 (by decide) ?_
      exact gw_zret hx hb hr hlocks hG hT (by omega) (by omega) dX3_isMessage_17 (by decide) ⟨rfl, Or.inr ⟨rfl, fun q => Int32.not_le.mpr ((inN_iff (by omega)).mpr q).2 h2⟩⟩
    · refine lv_iconst (v := nI 1) hx hb dX3_isMessage_12 (by decide) ?_
      refine lv_goto (tgt := 17) hx hb dX3_isMessage_13 (by decide) ?_
      exact gw_zret hx hb hr hlocks hG hT (by omega) (by omega) dX3_isMessage_17 (by decide) ⟨rfl, Or.inl ⟨rfl, (inN_iff (by omega)).mp ⟨h1, Int32.not_le.mp h2⟩⟩⟩

set_option maxHeartbeats 4000000 in
set_option maxRecDepth 100000 in
/-- c_isEl -/
theorem c_isEl (l : Launch) (K : gw_C) (M : gw_M) (mo : Nat) (ad : Nat → Nat) (cd : Int32) (nn kk : Nat) (tb vb : Nat → Int32) (sb : Nat → Int64) (fm tq : Nat → Int32) (r9 s9 e9 : Int32) (hm : md K M mo ad cd nn kk tb vb sb fm tq)  : Met l yX3_isElement wsX3_isElement ({ frames := 1, cells := 0, slots := 0, locals := 30 } : Room) (va_Pc [.ref mo, .int r9, .int s9, .int e9] (gw_I K M)) (va_Qi (fun r M1 => M1 = M ∧ tst r (inN r9 nn ∧ inN s9 4 ∧ inN e9 16)) (gw_I K) (gw_A K)) 0 0 (gw_A K) := by
  refine Met.ofW (cc := cX3_isElement) (maxL := 4) (ret := (some .boolean)) (by decide) rfl ?_
  intro p e s m args below meth c s₁ B hml hv
  obtain ⟨hav, hI⟩ := hv
  have hx := B.exec
  have hb := B.bytes
  have hr := B.returns
  have hts := atoms_spec (ws := wsX3_isElement) B.pre
  have hown : s.vm.findClass RX3 = some m.cls := findClass_of_methodNamed B.named
  have hlocks : meth.locks = false := B.notSynchronized
  have hT := hI.2.2
  have hK := hT.K
  have hG := hI.B
  have hf7 := hts (.fieldLink RX3 7 "DotGossipModel" "replicas" "I") (by decide +kernel)
  have hinX3 : ∀ w ∈ wsX30, w ∈ wsX3_isElement := by decide +kernel
  have hE : entryFrame m args 4 = entryFrame m ([.ref mo, .int r9, .int s9, .int e9] : List Value).toArray 4 := by rw [hav]
  rw [hE]
  have hl := lv_entry ([.ref mo, .int r9, .int s9, .int e9]) (n := 4) (Nat.le_of_ble_eq_true rfl)
  rw [lg_entry_eq]
  generalize (lg_sl ([.ref mo, .int r9, .int s9, .int e9]) ++ List.replicate (4 - (lg_sl ([.ref mo, .int r9, .int s9, .int e9])).length) Slot.unset).toArray = ls at hl ⊢
  have hl : lv_has ls 4 [(0, .ref mo), (1, .int r9), (2, .int s9), (3, .int e9)] := hl
  obtain ⟨p0_b, p0_o, p0_0, p0_1, p0_2, p0_3, p0_4, p0_ne⟩ := id hm
  have ne_o0 : mo ≠ ad 0 := gw_io p0_o p0_0
  have ne_o1 : mo ≠ ad 1 := gw_io p0_o p0_1
  have ne_o2 : mo ≠ ad 2 := gw_io p0_o p0_2
  have ne_o3 : mo ≠ ad 3 := gw_io p0_o p0_3
  have ne_o4 : mo ≠ ad 4 := gw_io p0_o p0_4
  refine lv_aload_n hx hb dX3_isElement_0 rfl (lv_at hl 0 rfl) ?_
  refine lv_iload_n hx hb dX3_isElement_1 rfl (lv_at hl 1 rfl) ?_
  refine gw_calli (va_runV (As := [.int r9]) (rest := []) ⟨hx, hb, hml, hown, hts⟩ (c_isRep l K M mo ad _ _ _ _ _ _ _ _ r9 hm) (cwV 1 hts gX3_isElement_X3_isReplica rfl rfl rfl (by decide +kernel) ⟨Nat.le_of_ble_eq_true rfl, Nat.le_of_ble_eq_true rfl⟩) (gw_preV hG hT p0_o rfl) rfl rfl hl.1 rfl (lv_room (Nat.le_of_ble_eq_true rfl)) dX3_isElement_2 ⟨Nat.le_of_ble_eq_true rfl, Nat.le_of_ble_eq_true rfl⟩) hG (fun r_33 M_34 H locs hw hG => ?_)
  have ht := hw.2
  rw [hw.1] at hG
  refine lv_if_eq hx hb (tgt := 31) dX3_isElement_5 (by decide) (fun hz => ?_) (fun hz => ?_)
  · refine lv_iconst (v := nI 0) hx hb dX3_isElement_31 (by decide) ?_
    exact gw_zret hx hb hr hlocks hG hT (by omega) (by omega) dX3_isElement_32 (by decide) ⟨rfl, Or.inr ⟨rfl, fun q => tst_z ht hz q.1⟩⟩
  · refine lv_iload_n hx hb dX3_isElement_8 rfl (lv_at hl 2 rfl) ?_
    refine lv_if_lt hx hb (tgt := 31) dX3_isElement_9 (by decide) (fun h1s9 => ?_) (fun h1s9 => ?_)
    · refine lv_iconst (v := nI 0) hx hb dX3_isElement_31 (by decide) ?_
      exact gw_zret hx hb hr hlocks hG hT (by omega) (by omega) dX3_isElement_32 (by decide) ⟨rfl, Or.inr ⟨rfl, fun q => ((inN_iff (n := 4) (by omega)).mpr q.2.1).1 h1s9⟩⟩
    · refine lv_iload_n hx hb dX3_isElement_12 rfl (lv_at hl 2 rfl) ?_
      refine lv_iconst (v := nI 4) hx hb dX3_isElement_13 (by decide) ?_
      refine lv_icmp_ge hx hb (tgt := 31) dX3_isElement_14 (by decide) (fun h2s9 => ?_) (fun h2s9 => ?_)
      · refine lv_iconst (v := nI 0) hx hb dX3_isElement_31 (by decide) ?_
        exact gw_zret hx hb hr hlocks hG hT (by omega) (by omega) dX3_isElement_32 (by decide) ⟨rfl, Or.inr ⟨rfl, fun q => Int32.not_le.mpr ((inN_iff (n := 4) (by omega)).mpr q.2.1).2 h2s9⟩⟩
      · refine lv_iload_n hx hb dX3_isElement_17 rfl (lv_at hl 3 rfl) ?_
        refine lv_if_lt hx hb (tgt := 31) dX3_isElement_18 (by decide) (fun h1e9 => ?_) (fun h1e9 => ?_)
        · refine lv_iconst (v := nI 0) hx hb dX3_isElement_31 (by decide) ?_
          exact gw_zret hx hb hr hlocks hG hT (by omega) (by omega) dX3_isElement_32 (by decide) ⟨rfl, Or.inr ⟨rfl, fun q => ((inN_iff (n := 16) (by omega)).mpr q.2.2).1 h1e9⟩⟩
        · refine lv_iload_n hx hb dX3_isElement_21 rfl (lv_at hl 3 rfl) ?_
          refine lv_bipush (v := nI 16) hx hb dX3_isElement_22 (by decide) ?_
          refine lv_icmp_ge hx hb (tgt := 31) dX3_isElement_24 (by decide) (fun h2e9 => ?_) (fun h2e9 => ?_)
          · refine lv_iconst (v := nI 0) hx hb dX3_isElement_31 (by decide) ?_
            exact gw_zret hx hb hr hlocks hG hT (by omega) (by omega) dX3_isElement_32 (by decide) ⟨rfl, Or.inr ⟨rfl, fun q => Int32.not_le.mpr ((inN_iff (n := 16) (by omega)).mpr q.2.2).2 h2e9⟩⟩
          · refine lv_iconst (v := nI 1) hx hb dX3_isElement_27 (by decide) ?_
            refine lv_goto (tgt := 32) hx hb dX3_isElement_28 (by decide) ?_
            exact gw_zret hx hb hr hlocks hG hT (by omega) (by omega) dX3_isElement_32 (by decide) ⟨rfl, Or.inl ⟨rfl, tst_o ht hz, (inN_iff (n := 4) (by omega)).mp ⟨h1s9, Int32.not_le.mp h2s9⟩, (inN_iff (n := 16) (by omega)).mp ⟨h1e9, Int32.not_le.mp h2e9⟩⟩⟩

set_option maxHeartbeats 4000000 in
set_option maxRecDepth 100000 in
/-- c_isReg -/
theorem c_isReg (l : Launch) (K : gw_C) (M : gw_M) (mo : Nat) (ad : Nat → Nat) (cd : Int32) (nn kk : Nat) (tb vb : Nat → Int32) (sb : Nat → Int64) (fm tq : Nat → Int32) (r9 s9 : Int32) (hm : md K M mo ad cd nn kk tb vb sb fm tq)  : Met l yX3_isRegister wsX3_isRegister ({ frames := 1, cells := 0, slots := 0, locals := 30 } : Room) (va_Pc [.ref mo, .int r9, .int s9] (gw_I K M)) (va_Qi (fun r M1 => M1 = M ∧ tst r (inN r9 nn ∧ inN s9 4)) (gw_I K) (gw_A K)) 0 0 (gw_A K) := by
  refine Met.ofW (cc := cX3_isRegister) (maxL := 3) (ret := (some .boolean)) (by decide) rfl ?_
  intro p e s m args below meth c s₁ B hml hv
  obtain ⟨hav, hI⟩ := hv
  have hx := B.exec
  have hb := B.bytes
  have hr := B.returns
  have hts := atoms_spec (ws := wsX3_isRegister) B.pre
  have hown : s.vm.findClass RX3 = some m.cls := findClass_of_methodNamed B.named
  have hlocks : meth.locks = false := B.notSynchronized
  have hT := hI.2.2
  have hK := hT.K
  have hG := hI.B
  have hf7 := hts (.fieldLink RX3 7 "DotGossipModel" "replicas" "I") (by decide +kernel)
  have hinX3 : ∀ w ∈ wsX30, w ∈ wsX3_isRegister := by decide +kernel
  have hE : entryFrame m args 3 = entryFrame m ([.ref mo, .int r9, .int s9] : List Value).toArray 3 := by rw [hav]
  rw [hE]
  have hl := lv_entry ([.ref mo, .int r9, .int s9]) (n := 3) (Nat.le_of_ble_eq_true rfl)
  rw [lg_entry_eq]
  generalize (lg_sl ([.ref mo, .int r9, .int s9]) ++ List.replicate (3 - (lg_sl ([.ref mo, .int r9, .int s9])).length) Slot.unset).toArray = ls at hl ⊢
  have hl : lv_has ls 3 [(0, .ref mo), (1, .int r9), (2, .int s9)] := hl
  obtain ⟨p0_b, p0_o, p0_0, p0_1, p0_2, p0_3, p0_4, p0_ne⟩ := id hm
  have ne_o0 : mo ≠ ad 0 := gw_io p0_o p0_0
  have ne_o1 : mo ≠ ad 1 := gw_io p0_o p0_1
  have ne_o2 : mo ≠ ad 2 := gw_io p0_o p0_2
  have ne_o3 : mo ≠ ad 3 := gw_io p0_o p0_3
  have ne_o4 : mo ≠ ad 4 := gw_io p0_o p0_4
  refine lv_aload_n hx hb dX3_isRegister_0 rfl (lv_at hl 0 rfl) ?_
  refine lv_iload_n hx hb dX3_isRegister_1 rfl (lv_at hl 1 rfl) ?_
  refine gw_calli (va_runV (As := [.int r9]) (rest := []) ⟨hx, hb, hml, hown, hts⟩ (c_isRep l K M mo ad _ _ _ _ _ _ _ _ r9 hm) (cwV 1 hts gX3_isRegister_X3_isReplica rfl rfl rfl (by decide +kernel) ⟨Nat.le_of_ble_eq_true rfl, Nat.le_of_ble_eq_true rfl⟩) (gw_preV hG hT p0_o rfl) rfl rfl hl.1 rfl (lv_room (Nat.le_of_ble_eq_true rfl)) dX3_isRegister_2 ⟨Nat.le_of_ble_eq_true rfl, Nat.le_of_ble_eq_true rfl⟩) hG (fun r_35 M_36 H locs hw hG => ?_)
  have ht := hw.2
  rw [hw.1] at hG
  refine lv_if_eq hx hb (tgt := 21) dX3_isRegister_5 (by decide) (fun hz => ?_) (fun hz => ?_)
  · refine lv_iconst (v := nI 0) hx hb dX3_isRegister_21 (by decide) ?_
    exact gw_zret hx hb hr hlocks hG hT (by omega) (by omega) dX3_isRegister_22 (by decide) ⟨rfl, Or.inr ⟨rfl, fun q => tst_z ht hz q.1⟩⟩
  · refine lv_iload_n hx hb dX3_isRegister_8 rfl (lv_at hl 2 rfl) ?_
    refine lv_if_lt hx hb (tgt := 21) dX3_isRegister_9 (by decide) (fun h1s9 => ?_) (fun h1s9 => ?_)
    · refine lv_iconst (v := nI 0) hx hb dX3_isRegister_21 (by decide) ?_
      exact gw_zret hx hb hr hlocks hG hT (by omega) (by omega) dX3_isRegister_22 (by decide) ⟨rfl, Or.inr ⟨rfl, fun q => ((inN_iff (n := 4) (by omega)).mpr q.2).1 h1s9⟩⟩
    · refine lv_iload_n hx hb dX3_isRegister_12 rfl (lv_at hl 2 rfl) ?_
      refine lv_iconst (v := nI 4) hx hb dX3_isRegister_13 (by decide) ?_
      refine lv_icmp_ge hx hb (tgt := 21) dX3_isRegister_14 (by decide) (fun h2s9 => ?_) (fun h2s9 => ?_)
      · refine lv_iconst (v := nI 0) hx hb dX3_isRegister_21 (by decide) ?_
        exact gw_zret hx hb hr hlocks hG hT (by omega) (by omega) dX3_isRegister_22 (by decide) ⟨rfl, Or.inr ⟨rfl, fun q => Int32.not_le.mpr ((inN_iff (n := 4) (by omega)).mpr q.2).2 h2s9⟩⟩
      · refine lv_iconst (v := nI 1) hx hb dX3_isRegister_17 (by decide) ?_
        refine lv_goto (tgt := 22) hx hb dX3_isRegister_18 (by decide) ?_
        exact gw_zret hx hb hr hlocks hG hT (by omega) (by omega) dX3_isRegister_22 (by decide) ⟨rfl, Or.inl ⟨rfl, tst_o ht hz, (inN_iff (n := 4) (by omega)).mp ⟨h1s9, Int32.not_le.mp h2s9⟩⟩⟩

set_option maxHeartbeats 4000000 in
set_option maxRecDepth 100000 in
/-- c_many -/
theorem c_many (l : Launch) (K : gw_C) (M : gw_M) (mo : Nat) (ad : Nat → Nat) (cd : Int32) (nn kk : Nat) (tb vb : Nat → Int32) (sb : Nat → Int64) (fm tq : Nat → Int32) (who row : Nat)  (hm : md K M mo ad cd nn kk tb vb sb fm tq) (hwho : who < 106) (hrow : row < 68) : Met l yX3_many wsX3_many ({ frames := 1, cells := 0, slots := 0, locals := 30 } : Room) (va_Pc [.ref mo, .int (nI who), .int (nI row)] (gw_I K M)) (va_Qi (fun r M1 => M1 = M ∧ r = nI (mny tb (414 * who + 6 + 6 * row) 6)) (gw_I K) (gw_A K)) 0 0 (gw_A K) := by
  refine Met.ofW (cc := cX3_many) (maxL := 5) (ret := (some .int)) (by decide) rfl ?_
  intro p e s m args below meth c s₁ B hml hv
  obtain ⟨hav, hI⟩ := hv
  have hx := B.exec
  have hb := B.bytes
  have hr := B.returns
  have hts := atoms_spec (ws := wsX3_many) B.pre
  have hown : s.vm.findClass RX3 = some m.cls := findClass_of_methodNamed B.named
  have hlocks : meth.locks = false := B.notSynchronized
  have hT := hI.2.2
  have hK := hT.K
  have hG := hI.B
  have hf14 := hts (.fieldLink RX3 14 "DotGossipModel" "table" "[I") (by decide +kernel)
  have hinX3 : ∀ w ∈ wsX30, w ∈ wsX3_many := by decide +kernel
  have hE : entryFrame m args 5 = entryFrame m ([.ref mo, .int (nI who), .int (nI row)] : List Value).toArray 5 := by rw [hav]
  rw [hE]
  have hl := lv_entry ([.ref mo, .int (nI who), .int (nI row)]) (n := 5) (Nat.le_of_ble_eq_true rfl)
  rw [lg_entry_eq]
  generalize (lg_sl ([.ref mo, .int (nI who), .int (nI row)]) ++ List.replicate (5 - (lg_sl ([.ref mo, .int (nI who), .int (nI row)])).length) Slot.unset).toArray = ls at hl ⊢
  have hl : lv_has ls 5 [(0, .ref mo), (1, .int (nI who)), (2, .int (nI row))] := hl
  obtain ⟨p0_b, p0_o, p0_0, p0_1, p0_2, p0_3, p0_4, p0_ne⟩ := id hm
  have ne_o0 : mo ≠ ad 0 := gw_io p0_o p0_0
  have ne_o1 : mo ≠ ad 1 := gw_io p0_o p0_1
  have ne_o2 : mo ≠ ad 2 := gw_io p0_o p0_2
  have ne_o3 : mo ≠ ad 3 := gw_io p0_o p0_3
  have ne_o4 : mo ≠ ad 4 := gw_io p0_o p0_4
  have hloop : ∀ (z9 : Nat) (i : Nat), i ≤ 6 → 6 + 1 ≤ i + z9 → ∀ (Mi : gw_M), Mi = M → ∀ (H : Heap) (locs : List Loc), gw_B K Mi s.heap H locs → ∀ (ls : Array Slot), lv_has ls 5 [(4, .int (nI i)), (3, .int (nI (mny tb (414 * who + 6 + 6 * row) i))), (0, .ref mo), (1, .int (nI who)), (2, .int (nI row))] → W p l e ({ frames := 1, cells := 0, slots := 0, locals := 30 } : Room) s m args below meth c H locs (0) (0) (MQ below (va_Qi (fun r M1 => M1 = M ∧ r = nI (mny tb (414 * who + 6 + 6 * row) 6)) (gw_I K) (gw_A K)) args s 0 0 (gw_A K)) (F0 m 5 ls []) := by
    intro z9
    induction z9 with
    | zero =>
      intro i hg0 hm
      exact absurd hm (by omega)
    | succ z9 ih =>
      intro i hg0 hm Mi hMi H locs hG ls hl
      rw [hMi] at hG
      have hd9 := mny_le tb (414 * who + 6 + 6 * row) i
      refine lv_iload hx hb dX3_many_5 (lv_at hl 0 rfl) ?_
      refine lv_bipush (v := nI 6) hx hb dX3_many_7 (by decide) ?_
      refine gw_icmp_ge hx hb (by omega) (by omega) (tgt := 42) dX3_many_9 (by decide) (fun hc => ?_) (fun hc => ?_)
      · have e6 : i = 6 := by omega
        rw [e6] at hl
        refine lv_iload_n hx hb dX3_many_42 rfl (lv_at hl 1 rfl) ?_
        exact gw_iret hx hb hr hlocks hG hT (by omega) (by omega) dX3_many_43 ⟨rfl, rfl⟩
      · refine lv_iload_n hx hb dX3_many_12 rfl (lv_at hl 1 rfl) ?_
        refine lv_aload_n hx hb dX3_many_13 rfl (lv_at hl 2 rfl) ?_
        refine gw_get (ci := 4) (C := RX3) (T := TX3) (N := 8) hx hb hts hinX3 hown hK hG p0_o rfl 3 (by decide) hf14 (fun _ h9 => h9) rfl dX3_many_14 ?_
        refine lv_iload_n hx hb dX3_many_17 rfl (lv_at hl 3 rfl) ?_
        refine lv_iload_n hx hb dX3_many_18 rfl (lv_at hl 4 rfl) ?_
        refine gw_calli (va_runS (As := [.int (nI who), .int (nI row)]) (rest := [.ref (ad 0), .int (nI (mny tb (414 * who + 6 + 6 * row) i))]) ⟨hx, hb, hml, hown, hts⟩ (c_dots l K M who row) (va_cwS 2 hts gX3_many_X3_dots rfl rfl rfl (by decide +kernel) ⟨Nat.le_of_ble_eq_true rfl, Nat.le_of_ble_eq_true rfl⟩) (gw_preS hG hT) rfl rfl hl.1 rfl (lv_room (Nat.le_of_ble_eq_true rfl)) dX3_many_19 ⟨Nat.le_of_ble_eq_true rfl, Nat.le_of_ble_eq_true rfl⟩) hG (fun r_37 M_38 H locs hw hG => ?_)
        rw [hw.1] at hG
        refine gw_as hw.2 ?_
        refine lv_iload hx hb dX3_many_22 (lv_at hl 0 rfl) ?_
        refine gw_iadd hx hb dX3_many_24 ?_
        refine gw_iald_n hx hb hK hG p0_0 0 rfl (by omega) (by omega) dX3_many_25 ?_
        refine lv_if_le hx hb (tgt := 33) dX3_many_26 (by decide) (fun hz => ?_) (fun hz => ?_)
        · have e9 : mny tb (414 * who + 6 + 6 * row) i + 0 = mny tb (414 * who + 6 + 6 * row) (i + 1) := by show _ = mny tb (414 * who + 6 + 6 * row) i + (if tb (414 * who + 6 + 6 * row + i) ≤ 0 then 0 else 1); rw [if_pos hz]
          refine lv_iconst (v := nI 0) hx hb dX3_many_33 (by decide) ?_
          refine gw_iadd hx hb dX3_many_34 ?_
          rw [e9]
          refine lv_istore_n (lv' := [(3, .int (nI (mny tb (414 * who + 6 + 6 * row) (i + 1)))), (4, .int (nI i)), (0, .ref mo), (1, .int (nI who)), (2, .int (nI row))]) hx hb dX3_many_35 rfl hl (by decide) rfl (fun ls hl => ?_)
          refine lv_iinc (v := nI (i + 1)) (lv' := [(4, .int (nI (i + 1))), (3, .int (nI (mny tb (414 * who + 6 + 6 * row) (i + 1)))), (0, .ref mo), (1, .int (nI who)), (2, .int (nI row))]) hx hb dX3_many_36 hl (k := 1) rfl (gw_inc _) (by decide) rfl (fun ls hl => ?_)
          refine lv_goto (tgt := 5) hx hb dX3_many_39 (by decide) ?_
          exact ih (i + 1) (by omega) (by omega) _ rfl _ _ hG ls (lv_sub hl [0, 1, 2, 3, 4] rfl)
        · have e9 : mny tb (414 * who + 6 + 6 * row) i + 1 = mny tb (414 * who + 6 + 6 * row) (i + 1) := by show _ = mny tb (414 * who + 6 + 6 * row) i + (if tb (414 * who + 6 + 6 * row + i) ≤ 0 then 0 else 1); rw [if_neg hz]
          refine lv_iconst (v := nI 1) hx hb dX3_many_29 (by decide) ?_
          refine lv_goto (tgt := 34) hx hb dX3_many_30 (by decide) ?_
          refine gw_iadd hx hb dX3_many_34 ?_
          rw [e9]
          refine lv_istore_n (lv' := [(3, .int (nI (mny tb (414 * who + 6 + 6 * row) (i + 1)))), (4, .int (nI i)), (0, .ref mo), (1, .int (nI who)), (2, .int (nI row))]) hx hb dX3_many_35 rfl hl (by decide) rfl (fun ls hl => ?_)
          refine lv_iinc (v := nI (i + 1)) (lv' := [(4, .int (nI (i + 1))), (3, .int (nI (mny tb (414 * who + 6 + 6 * row) (i + 1)))), (0, .ref mo), (1, .int (nI who)), (2, .int (nI row))]) hx hb dX3_many_36 hl (k := 1) rfl (gw_inc _) (by decide) rfl (fun ls hl => ?_)
          refine lv_goto (tgt := 5) hx hb dX3_many_39 (by decide) ?_
          exact ih (i + 1) (by omega) (by omega) _ rfl _ _ hG ls (lv_sub hl [0, 1, 2, 3, 4] rfl)
  refine lv_iconst (v := nI 0) hx hb dX3_many_0 (by decide) ?_
  refine lv_istore_n (lv' := [(3, .int (nI 0)), (0, .ref mo), (1, .int (nI who)), (2, .int (nI row))]) hx hb dX3_many_1 rfl hl (by decide) rfl (fun ls hl => ?_)
  refine lv_iconst (v := nI 0) hx hb dX3_many_2 (by decide) ?_
  refine lv_istore (lv' := [(4, .int (nI 0)), (3, .int (nI 0)), (0, .ref mo), (1, .int (nI who)), (2, .int (nI row))]) hx hb dX3_many_3 hl (by decide) rfl (fun ls hl => ?_)
  exact hloop 7 0 (by omega) (by omega) _ rfl _ _ hG ls (lv_sub hl [0, 1, 2, 3, 4] rfl)

set_option maxHeartbeats 4000000 in
set_option maxRecDepth 100000 in
/-- c_empties -/
theorem c_empties (l : Launch) (K : gw_C) (M : gw_M) (mo : Nat) (ad : Nat → Nat) (cd : Int32) (nn kk : Nat) (tb vb : Nat → Int32) (sb : Nat → Int64) (fm tq : Nat → Int32) (who row : Nat)  (hm : md K M mo ad cd nn kk tb vb sb fm tq) (hwho : who < 106) (hrow : row < 68) : Met l yX3_empties wsX3_empties ({ frames := 1, cells := 0, slots := 0, locals := 30 } : Room) (va_Pc [.ref mo, .int (nI who), .int (nI row)] (gw_I K M)) (va_Qv (fun M1 => md K M1 mo ad cd nn kk (mclr tb (414 * who + 6 + 6 * row) 6) vb sb fm tq ∧ mfr M M1 mo ad) (gw_I K) (gw_A K)) 0 0 (gw_A K) := by
  refine Met.ofW (cc := cX3_empties) (maxL := 4) (ret := none) (by decide) rfl ?_
  intro p e s m args below meth c s₁ B hml hv
  obtain ⟨hav, hI⟩ := hv
  have hx := B.exec
  have hb := B.bytes
  have hr := B.returns
  have hts := atoms_spec (ws := wsX3_empties) B.pre
  have hown : s.vm.findClass RX3 = some m.cls := findClass_of_methodNamed B.named
  have hlocks : meth.locks = false := B.notSynchronized
  have hT := hI.2.2
  have hK := hT.K
  have hG := hI.B
  have hf14 := hts (.fieldLink RX3 14 "DotGossipModel" "table" "[I") (by decide +kernel)
  have hinX3 : ∀ w ∈ wsX30, w ∈ wsX3_empties := by decide +kernel
  have hE : entryFrame m args 4 = entryFrame m ([.ref mo, .int (nI who), .int (nI row)] : List Value).toArray 4 := by rw [hav]
  rw [hE]
  have hl := lv_entry ([.ref mo, .int (nI who), .int (nI row)]) (n := 4) (Nat.le_of_ble_eq_true rfl)
  rw [lg_entry_eq]
  generalize (lg_sl ([.ref mo, .int (nI who), .int (nI row)]) ++ List.replicate (4 - (lg_sl ([.ref mo, .int (nI who), .int (nI row)])).length) Slot.unset).toArray = ls at hl ⊢
  have hl : lv_has ls 4 [(0, .ref mo), (1, .int (nI who)), (2, .int (nI row))] := hl
  obtain ⟨p0_b, p0_o, p0_0, p0_1, p0_2, p0_3, p0_4, p0_ne⟩ := id hm
  have ne_o0 : mo ≠ ad 0 := gw_io p0_o p0_0
  have ne_o1 : mo ≠ ad 1 := gw_io p0_o p0_1
  have ne_o2 : mo ≠ ad 2 := gw_io p0_o p0_2
  have ne_o3 : mo ≠ ad 3 := gw_io p0_o p0_3
  have ne_o4 : mo ≠ ad 4 := gw_io p0_o p0_4
  have hloop : ∀ (z9 : Nat) (i : Nat), i ≤ 6 → 6 + 1 ≤ i + z9 → ∀ (Mi : gw_M), (md K Mi mo ad cd nn kk (mclr tb (414 * who + 6 + 6 * row) i) vb sb fm tq ∧ mfr M Mi mo ad) → ∀ (H : Heap) (locs : List Loc), gw_B K Mi s.heap H locs → ∀ (ls : Array Slot), lv_has ls 4 [(3, .int (nI i)), (0, .ref mo), (1, .int (nI who)), (2, .int (nI row))] → W p l e ({ frames := 1, cells := 0, slots := 0, locals := 30 } : Room) s m args below meth c H locs (0) (0) (MQ below (va_Qv (fun M1 => md K M1 mo ad cd nn kk (mclr tb (414 * who + 6 + 6 * row) 6) vb sb fm tq ∧ mfr M M1 mo ad) (gw_I K) (gw_A K)) args s 0 0 (gw_A K)) (F0 m 2 ls []) := by
    intro z9
    induction z9 with
    | zero =>
      intro i hg0 hm
      exact absurd hm (by omega)
    | succ z9 ih =>
      intro i hg0 hm Mi hMi H locs hG ls hl
      obtain ⟨hmi, hfi⟩ := hMi
      obtain ⟨p_39_b, p_39_o, p_39_0, p_39_1, p_39_2, p_39_3, p_39_4, p_39_ne⟩ := id hmi
      refine lv_iload_n hx hb dX3_empties_2 rfl (lv_at hl 0 rfl) ?_
      refine lv_bipush (v := nI 6) hx hb dX3_empties_3 (by decide) ?_
      refine gw_icmp_ge hx hb (by omega) (by omega) (tgt := 27) dX3_empties_5 (by decide) (fun hc => ?_) (fun hc => ?_)
      · have e6 : i = 6 := by omega
        rw [e6] at hmi
        exact gw_vret hx hb hr hlocks hG hT (by omega) (by omega) dX3_empties_27 ⟨hmi, hfi⟩
      · refine lv_aload_n hx hb dX3_empties_8 rfl (lv_at hl 1 rfl) ?_
        refine gw_get (ci := 4) (C := RX3) (T := TX3) (N := 8) hx hb hts hinX3 hown hK hG p_39_o rfl 3 (by decide) hf14 (fun _ h9 => h9) rfl dX3_empties_9 ?_
        refine lv_iload_n hx hb dX3_empties_12 rfl (lv_at hl 2 rfl) ?_
        refine lv_iload_n hx hb dX3_empties_13 rfl (lv_at hl 3 rfl) ?_
        refine gw_calli (va_runS (As := [.int (nI who), .int (nI row)]) (rest := [.ref (ad 0)]) ⟨hx, hb, hml, hown, hts⟩ (c_dots l K Mi who row) (va_cwS 2 hts gX3_empties_X3_dots rfl rfl rfl (by decide +kernel) ⟨Nat.le_of_ble_eq_true rfl, Nat.le_of_ble_eq_true rfl⟩) (gw_preS hG hT) rfl rfl hl.1 rfl (lv_room (Nat.le_of_ble_eq_true rfl)) dX3_empties_14 ⟨Nat.le_of_ble_eq_true rfl, Nat.le_of_ble_eq_true rfl⟩) hG (fun r_40 M_41 H locs hw hG => ?_)
        rw [hw.1] at hG
        refine gw_as hw.2 ?_
        refine lv_iload_n hx hb dX3_empties_17 rfl (lv_at hl 0 rfl) ?_
        refine gw_iadd hx hb dX3_empties_18 ?_
        refine lv_iconst (v := nI 0) hx hb dX3_empties_19 (by decide) ?_
        refine gw_iast_n hx hb hK hG p_39_0 0 rfl (by omega) (by omega) dX3_empties_20 (fun H locs hG => ?_)
        obtain ⟨M_42, hM_43⟩ : ∃ M1 : gw_M, M1 = gw_up Mi (ad 0) (.inl (K.2.1 0, 43884, .inl (upd (mclr tb (414 * who + 6 + 6 * row) i) ((414 * who + 6 + 6 * row) + i) (nI 0)))) := ⟨_, rfl⟩
        have hG : gw_B K M_42 s.heap H locs := by rw [hM_43]; exact hG
        have hc_44 := (congrFun hM_43 mo).trans (gw_k ne_o0 p_39_o)
        have hc_45 : M_42 (ad 0) = some (.inl (K.2.1 0, 43884, .inl (upd (mclr tb (414 * who + 6 + 6 * row) i) ((414 * who + 6 + 6 * row) + i) (nI 0)))) := (congrFun hM_43 _).trans gw_s
        have hc_46 := (congrFun hM_43 (ad 1)).trans (gw_k (fun z => absurd (p0_ne 1 0 (by decide) (by decide) z) (by decide)) p_39_1)
        have hc_47 := (congrFun hM_43 (ad 2)).trans (gw_k (fun z => absurd (p0_ne 2 0 (by decide) (by decide) z) (by decide)) p_39_2)
        have hc_48 := (congrFun hM_43 (ad 3)).trans (gw_k (fun z => absurd (p0_ne 3 0 (by decide) (by decide) z) (by decide)) p_39_3)
        have hc_49 := (congrFun hM_43 (ad 4)).trans (gw_k (fun z => absurd (p0_ne 4 0 (by decide) (by decide) z) (by decide)) p_39_4)
        have fr_50 : mfr M M_42 mo ad := fun q h1 h2 => ((congrFun hM_43 q).trans (gw_n (h2 0 (by decide)))).trans (hfi q h1 h2)
        refine lv_iinc (v := nI (i + 1)) (lv' := [(3, .int (nI (i + 1))), (0, .ref mo), (1, .int (nI who)), (2, .int (nI row))]) hx hb dX3_empties_21 hl (k := 0) rfl (gw_inc _) (by decide) rfl (fun ls hl => ?_)
        refine lv_goto (tgt := 2) hx hb dX3_empties_24 (by decide) ?_
        have hm9 : md K M_42 mo ad cd nn kk (mclr tb (414 * who + 6 + 6 * row) (i + 1)) vb sb fm tq := by rw [← mclr_s]; exact ⟨p0_b, hc_44, hc_45, hc_46, hc_47, hc_48, hc_49, p0_ne⟩
        exact ih (i + 1) (by omega) (by omega) _ ⟨hm9, fr_50⟩ _ _ hG ls (lv_sub hl [0, 1, 2, 3] rfl)
  refine lv_iconst (v := nI 0) hx hb dX3_empties_0 (by decide) ?_
  refine lv_istore_n (lv' := [(3, .int (nI 0)), (0, .ref mo), (1, .int (nI who)), (2, .int (nI row))]) hx hb dX3_empties_1 rfl hl (by decide) rfl (fun ls hl => ?_)
  exact hloop 7 0 (by omega) (by omega) _ ⟨by rw [mclr_0]; exact hm, mfr.rf⟩ _ _ hG ls (lv_sub hl [0, 1, 2, 3] rfl)

set_option maxHeartbeats 4000000 in
set_option maxRecDepth 100000 in
/-- c_news -/
theorem c_news (l : Launch) (K : gw_C) (M : gw_M) (mo : Nat) (ad : Nat → Nat) (cd : Int32) (nn kk : Nat) (tb vb : Nat → Int32) (sb : Nat → Int64) (fm tq : Nat → Int32) (who row : Nat)  (hm : md K M mo ad cd nn kk tb vb sb fm tq) (hwho : who < 6) (hrow : row < 68) : Met l yX3_news wsX3_news ({ frames := 2, cells := 0, slots := 0, locals := 60 } : Room) (va_Pc [.ref mo, .int (nI who), .int (nI row)] (gw_I K M)) (va_Qi (fun r M1 => r = tb (414 * who + who) + nI 1 ∧ md K M1 mo ad cd nn kk (mnew tb who row) vb sb fm tq ∧ mfr M M1 mo ad) (gw_I K) (gw_A K)) 0 0 (gw_A K) := by
  refine Met.ofW (cc := cX3_news) (maxL := 4) (ret := (some .int)) (by decide) rfl ?_
  intro p e s m args below meth c s₁ B hml hv
  obtain ⟨hav, hI⟩ := hv
  have hx := B.exec
  have hb := B.bytes
  have hr := B.returns
  have hts := atoms_spec (ws := wsX3_news) B.pre
  have hown : s.vm.findClass RX3 = some m.cls := findClass_of_methodNamed B.named
  have hlocks : meth.locks = false := B.notSynchronized
  have hT := hI.2.2
  have hK := hT.K
  have hG := hI.B
  have hf14 := hts (.fieldLink RX3 14 "DotGossipModel" "table" "[I") (by decide +kernel)
  have hinX3 : ∀ w ∈ wsX30, w ∈ wsX3_news := by decide +kernel
  have hE : entryFrame m args 4 = entryFrame m ([.ref mo, .int (nI who), .int (nI row)] : List Value).toArray 4 := by rw [hav]
  rw [hE]
  have hl := lv_entry ([.ref mo, .int (nI who), .int (nI row)]) (n := 4) (Nat.le_of_ble_eq_true rfl)
  rw [lg_entry_eq]
  generalize (lg_sl ([.ref mo, .int (nI who), .int (nI row)]) ++ List.replicate (4 - (lg_sl ([.ref mo, .int (nI who), .int (nI row)])).length) Slot.unset).toArray = ls at hl ⊢
  have hl : lv_has ls 4 [(0, .ref mo), (1, .int (nI who)), (2, .int (nI row))] := hl
  obtain ⟨p0_b, p0_o, p0_0, p0_1, p0_2, p0_3, p0_4, p0_ne⟩ := id hm
  have ne_o0 : mo ≠ ad 0 := gw_io p0_o p0_0
  have ne_o1 : mo ≠ ad 1 := gw_io p0_o p0_1
  have ne_o2 : mo ≠ ad 2 := gw_io p0_o p0_2
  have ne_o3 : mo ≠ ad 3 := gw_io p0_o p0_3
  have ne_o4 : mo ≠ ad 4 := gw_io p0_o p0_4
  refine lv_aload_n hx hb dX3_news_0 rfl (lv_at hl 0 rfl) ?_
  refine gw_get (ci := 4) (C := RX3) (T := TX3) (N := 8) hx hb hts hinX3 hown hK hG p0_o rfl 3 (by decide) hf14 (fun _ h9 => h9) rfl dX3_news_1 ?_
  refine lv_iload_n hx hb dX3_news_4 rfl (lv_at hl 1 rfl) ?_
  refine lv_iload_n hx hb dX3_news_5 rfl (lv_at hl 1 rfl) ?_
  refine gw_calli (va_runS (As := [.int (nI who), .int (nI who)]) (rest := [.ref (ad 0)]) ⟨hx, hb, hml, hown, hts⟩ (c_vectorAt l K M who who) (va_cwS 2 hts gX3_news_X3_vectorAt rfl rfl rfl (by decide +kernel) ⟨Nat.le_of_ble_eq_true rfl, Nat.le_of_ble_eq_true rfl⟩) (gw_preS hG hT) rfl rfl hl.1 rfl (lv_room (Nat.le_of_ble_eq_true rfl)) dX3_news_6 ⟨Nat.le_of_ble_eq_true rfl, Nat.le_of_ble_eq_true rfl⟩) hG (fun r_51 M_52 H locs hw hG => ?_)
  rw [hw.1] at hG
  refine gw_as hw.2 ?_
  refine gw_iald_n hx hb hK hG p0_0 0 rfl (by omega) (by omega) dX3_news_9 ?_
  refine lv_iconst (v := nI 1) hx hb dX3_news_10 (by decide) ?_
  refine lv_iadd hx hb dX3_news_11 ?_
  refine lv_istore_n (lv' := [(3, .int ((tb (414 * who + who)) + (nI 1))), (0, .ref mo), (1, .int (nI who)), (2, .int (nI row))]) hx hb dX3_news_12 rfl hl (by decide) rfl (fun ls hl => ?_)
  refine lv_aload_n hx hb dX3_news_13 rfl (lv_at hl 1 rfl) ?_
  refine gw_get (ci := 4) (C := RX3) (T := TX3) (N := 8) hx hb hts hinX3 hown hK hG p0_o rfl 3 (by decide) hf14 (fun _ h9 => h9) rfl dX3_news_14 ?_
  refine lv_iload_n hx hb dX3_news_17 rfl (lv_at hl 2 rfl) ?_
  refine lv_iload_n hx hb dX3_news_18 rfl (lv_at hl 2 rfl) ?_
  refine gw_calli (va_runS (As := [.int (nI who), .int (nI who)]) (rest := [.ref (ad 0)]) ⟨hx, hb, hml, hown, hts⟩ (c_vectorAt l K M who who) (va_cwS 2 hts gX3_news_X3_vectorAt rfl rfl rfl (by decide +kernel) ⟨Nat.le_of_ble_eq_true rfl, Nat.le_of_ble_eq_true rfl⟩) (gw_preS hG hT) rfl rfl hl.1 rfl (lv_room (Nat.le_of_ble_eq_true rfl)) dX3_news_19 ⟨Nat.le_of_ble_eq_true rfl, Nat.le_of_ble_eq_true rfl⟩) hG (fun r_53 M_54 H locs hw hG => ?_)
  rw [hw.1] at hG
  refine gw_as hw.2 ?_
  refine lv_iload_n hx hb dX3_news_22 rfl (lv_at hl 0 rfl) ?_
  refine gw_iast_n hx hb hK hG p0_0 0 rfl (by omega) (by omega) dX3_news_23 (fun H locs hG => ?_)
  obtain ⟨M_55, hM_56⟩ : ∃ M1 : gw_M, M1 = gw_up M (ad 0) (.inl (K.2.1 0, 43884, .inl (upd tb (414 * who + who) ((tb (414 * who + who)) + (nI 1))))) := ⟨_, rfl⟩
  have hG : gw_B K M_55 s.heap H locs := by rw [hM_56]; exact hG
  have hc_57 := (congrFun hM_56 mo).trans (gw_k ne_o0 p0_o)
  have hc_58 : M_55 (ad 0) = some (.inl (K.2.1 0, 43884, .inl (upd tb (414 * who + who) ((tb (414 * who + who)) + (nI 1))))) := (congrFun hM_56 _).trans gw_s
  have hc_59 := (congrFun hM_56 (ad 1)).trans (gw_k (fun z => absurd (p0_ne 1 0 (by decide) (by decide) z) (by decide)) p0_1)
  have hc_60 := (congrFun hM_56 (ad 2)).trans (gw_k (fun z => absurd (p0_ne 2 0 (by decide) (by decide) z) (by decide)) p0_2)
  have hc_61 := (congrFun hM_56 (ad 3)).trans (gw_k (fun z => absurd (p0_ne 3 0 (by decide) (by decide) z) (by decide)) p0_3)
  have hc_62 := (congrFun hM_56 (ad 4)).trans (gw_k (fun z => absurd (p0_ne 4 0 (by decide) (by decide) z) (by decide)) p0_4)
  have fr_63 : mfr M M_55 mo ad := fun q h1 h2 => ((congrFun hM_56 q).trans (gw_n (h2 0 (by decide)))).trans (mfr.rf q h1 h2)
  refine lv_aload_n hx hb dX3_news_24 rfl (lv_at hl 1 rfl) ?_
  refine lv_iload_n hx hb dX3_news_25 rfl (lv_at hl 2 rfl) ?_
  refine lv_iload_n hx hb dX3_news_26 rfl (lv_at hl 3 rfl) ?_
  have hm_64 : md K M_55 mo ad cd nn kk (upd tb (414 * who + who) ((tb (414 * who + who)) + (nI 1))) vb sb fm tq := ⟨p0_b, hc_57, hc_58, hc_59, hc_60, hc_61, hc_62, p0_ne⟩
  refine gw_callv (va_runV (As := [.int (nI who), .int (nI row)]) (rest := []) ⟨hx, hb, hml, hown, hts⟩ (c_empties l K M_55 mo ad _ _ _ _ _ _ _ _ who row hm_64 (by omega) hrow) (cwV 2 hts gX3_news_X3_empties rfl rfl rfl (by decide +kernel) ⟨Nat.le_of_ble_eq_true rfl, Nat.le_of_ble_eq_true rfl⟩) (gw_preV hG hT hc_57 rfl) rfl rfl hl.1 rfl (lv_room (Nat.le_of_ble_eq_true rfl)) dX3_news_27 ⟨Nat.le_of_ble_eq_true rfl, Nat.le_of_ble_eq_true rfl⟩) hG (fun M_66 H locs hw hG => ?_)
  obtain ⟨hm_67, fr_68⟩ := hw
  have fr_69 : mfr M M_66 mo ad := mfr.tr fr_63 fr_68
  obtain ⟨p_70_b, p_70_o, p_70_0, p_70_1, p_70_2, p_70_3, p_70_4, p_70_ne⟩ := id hm_67
  refine lv_aload_n hx hb dX3_news_30 rfl (lv_at hl 1 rfl) ?_
  refine gw_get (ci := 4) (C := RX3) (T := TX3) (N := 8) hx hb hts hinX3 hown hK hG p_70_o rfl 3 (by decide) hf14 (fun _ h9 => h9) rfl dX3_news_31 ?_
  refine lv_iload_n hx hb dX3_news_34 rfl (lv_at hl 2 rfl) ?_
  refine lv_iload_n hx hb dX3_news_35 rfl (lv_at hl 3 rfl) ?_
  refine gw_calli (va_runS (As := [.int (nI who), .int (nI row)]) (rest := [.ref (ad 0)]) ⟨hx, hb, hml, hown, hts⟩ (c_dots l K M_66 who row) (va_cwS 2 hts gX3_news_X3_dots rfl rfl rfl (by decide +kernel) ⟨Nat.le_of_ble_eq_true rfl, Nat.le_of_ble_eq_true rfl⟩) (gw_preS hG hT) rfl rfl hl.1 rfl (lv_room (Nat.le_of_ble_eq_true rfl)) dX3_news_36 ⟨Nat.le_of_ble_eq_true rfl, Nat.le_of_ble_eq_true rfl⟩) hG (fun r_71 M_72 H locs hw hG => ?_)
  rw [hw.1] at hG
  refine gw_as hw.2 ?_
  refine lv_iload_n hx hb dX3_news_39 rfl (lv_at hl 2 rfl) ?_
  refine gw_iadd hx hb dX3_news_40 ?_
  refine lv_iload_n hx hb dX3_news_41 rfl (lv_at hl 0 rfl) ?_
  refine gw_iast_n hx hb hK hG p_70_0 0 rfl (by omega) (by omega) dX3_news_42 (fun H locs hG => ?_)
  obtain ⟨M_73, hM_74⟩ : ∃ M1 : gw_M, M1 = gw_up M_66 (ad 0) (.inl (K.2.1 0, 43884, .inl (upd (mclr (upd tb (414 * who + who) ((tb (414 * who + who)) + (nI 1))) (414 * who + 6 + 6 * row) 6) ((414 * who + 6 + 6 * row) + who) ((tb (414 * who + who)) + (nI 1))))) := ⟨_, rfl⟩
  have hG : gw_B K M_73 s.heap H locs := by rw [hM_74]; exact hG
  have hc_75 := (congrFun hM_74 mo).trans (gw_k ne_o0 p_70_o)
  have hc_76 : M_73 (ad 0) = some (.inl (K.2.1 0, 43884, .inl (upd (mclr (upd tb (414 * who + who) ((tb (414 * who + who)) + (nI 1))) (414 * who + 6 + 6 * row) 6) ((414 * who + 6 + 6 * row) + who) ((tb (414 * who + who)) + (nI 1))))) := (congrFun hM_74 _).trans gw_s
  have hc_77 := (congrFun hM_74 (ad 1)).trans (gw_k (fun z => absurd (p0_ne 1 0 (by decide) (by decide) z) (by decide)) p_70_1)
  have hc_78 := (congrFun hM_74 (ad 2)).trans (gw_k (fun z => absurd (p0_ne 2 0 (by decide) (by decide) z) (by decide)) p_70_2)
  have hc_79 := (congrFun hM_74 (ad 3)).trans (gw_k (fun z => absurd (p0_ne 3 0 (by decide) (by decide) z) (by decide)) p_70_3)
  have hc_80 := (congrFun hM_74 (ad 4)).trans (gw_k (fun z => absurd (p0_ne 4 0 (by decide) (by decide) z) (by decide)) p_70_4)
  have fr_81 : mfr M M_73 mo ad := fun q h1 h2 => ((congrFun hM_74 q).trans (gw_n (h2 0 (by decide)))).trans (fr_69 q h1 h2)
  refine lv_iload_n hx hb dX3_news_43 rfl (lv_at hl 0 rfl) ?_
  exact gw_iret hx hb hr hlocks hG hT (by omega) (by omega) dX3_news_44 ⟨rfl, ⟨p0_b, hc_75, hc_76, hc_77, hc_78, hc_79, hc_80, p0_ne⟩, fr_81⟩

set_option maxHeartbeats 4000000 in
set_option maxRecDepth 100000 in
/-- c_sum -/
theorem c_sum (l : Launch) (K : gw_C) (M : gw_M) (mo : Nat) (ad : Nat → Nat) (cd : Int32) (nn kk : Nat) (tb vb : Nat → Int32) (sb : Nat → Int64) (fm tq : Nat → Int32) (who ct : Nat)  (hm : md K M mo ad cd nn kk tb vb sb fm tq) (hwho : who < 106) (hct : ct < 4) : Met l yX3_sum wsX3_sum ({ frames := 1, cells := 0, slots := 0, locals := 30 } : Room) (va_Pc [.ref mo, .int (nI who), .int (nI ct)] (gw_I K M)) (va_Qi (fun r M1 => M1 = M ∧ r = (msum sb (48 * who + 6 * ct) 6).toInt32) (gw_I K) (gw_A K)) 0 0 (gw_A K) := by
  refine Met.ofW (cc := cX3_sum) (maxL := 7) (ret := (some .int)) (by decide) rfl ?_
  intro p e s m args below meth c s₁ B hml hv
  obtain ⟨hav, hI⟩ := hv
  have hx := B.exec
  have hb := B.bytes
  have hr := B.returns
  have hts := atoms_spec (ws := wsX3_sum) B.pre
  have hown : s.vm.findClass RX3 = some m.cls := findClass_of_methodNamed B.named
  have hlocks : meth.locks = false := B.notSynchronized
  have hT := hI.2.2
  have hK := hT.K
  have hG := hI.B
  have hf21 := hts (.fieldLink RX3 21 "DotGossipModel" "sums" "[J") (by decide +kernel)
  have hinX3 : ∀ w ∈ wsX30, w ∈ wsX3_sum := by decide +kernel
  have hE : entryFrame m args 7 = entryFrame m ([.ref mo, .int (nI who), .int (nI ct)] : List Value).toArray 7 := by rw [hav]
  rw [hE]
  have hl := lv_entry ([.ref mo, .int (nI who), .int (nI ct)]) (n := 7) (Nat.le_of_ble_eq_true rfl)
  rw [lg_entry_eq]
  generalize (lg_sl ([.ref mo, .int (nI who), .int (nI ct)]) ++ List.replicate (7 - (lg_sl ([.ref mo, .int (nI who), .int (nI ct)])).length) Slot.unset).toArray = ls at hl ⊢
  have hl : lv_has ls 7 [(0, .ref mo), (1, .int (nI who)), (2, .int (nI ct))] := hl
  obtain ⟨p0_b, p0_o, p0_0, p0_1, p0_2, p0_3, p0_4, p0_ne⟩ := id hm
  have ne_o0 : mo ≠ ad 0 := gw_io p0_o p0_0
  have ne_o1 : mo ≠ ad 1 := gw_io p0_o p0_1
  have ne_o2 : mo ≠ ad 2 := gw_io p0_o p0_2
  have ne_o3 : mo ≠ ad 3 := gw_io p0_o p0_3
  have ne_o4 : mo ≠ ad 4 := gw_io p0_o p0_4
  refine lv_lconst (v := 0) hx hb dX3_sum_0 (by decide) ?_
  refine lv_lstore_n (lv' := [(3, .long 0), (0, .ref mo), (1, .int (nI who)), (2, .int (nI ct))]) hx hb dX3_sum_1 rfl hl (by decide) rfl (fun ls hl => ?_)
  refine lv_iconst (v := nI 0) hx hb dX3_sum_2 (by decide) ?_
  refine lv_istore (lv' := [(5, .int (nI 0)), (3, .long 0), (0, .ref mo), (1, .int (nI who)), (2, .int (nI ct))]) hx hb dX3_sum_3 hl (by decide) rfl (fun ls hl => ?_)
  have hloop : ∀ (z9 : Nat) (i : Nat), i ≤ 6 → 6 + 1 ≤ i + z9 → ∀ (ls : Array Slot), lv_has ls 7 [(5, .int (nI i)), (3, .long (msum sb (48 * who + 6 * ct) i)), (0, .ref mo), (1, .int (nI who)), (2, .int (nI ct))] → W p l e ({ frames := 1, cells := 0, slots := 0, locals := 30 } : Room) s m args below meth c s.heap [] (0) (0) (MQ below (va_Qi (fun r M1 => M1 = M ∧ r = (msum sb (48 * who + 6 * ct) 6).toInt32) (gw_I K) (gw_A K)) args s 0 0 (gw_A K)) (F0 m 5 ls []) := by
    intro z9
    induction z9 with
    | zero =>
      intro i hg0 hm
      exact absurd hm (by omega)
    | succ z9 ih =>
      intro i hg0 hm ls hl
      refine lv_iload hx hb dX3_sum_5 (lv_at hl 0 rfl) ?_
      refine lv_bipush (v := nI 6) hx hb dX3_sum_7 (by decide) ?_
      refine gw_icmp_ge hx hb (by omega) (by omega) (tgt := 53) dX3_sum_9 (by decide) (fun hc => ?_) (fun hc => ?_)
      · have e6 : i = 6 := by omega
        rw [e6] at hl
        refine lv_lload_n hx hb dX3_sum_53 rfl (lv_at hl 1 rfl) ?_
        refine lv_l2i hx hb dX3_sum_54 rfl ?_
        exact gw_iret hx hb hr hlocks hG hT (by omega) (by omega) dX3_sum_55 ⟨rfl, rfl⟩
      · refine lv_bipush (v := nI 48) hx hb dX3_sum_12 (by decide) ?_
        refine lv_iload_n hx hb dX3_sum_14 rfl (lv_at hl 3 rfl) ?_
        refine gw_imul hx hb dX3_sum_15 ?_
        refine lv_bipush (v := nI 6) hx hb dX3_sum_16 (by decide) ?_
        refine lv_iload_n hx hb dX3_sum_18 rfl (lv_at hl 4 rfl) ?_
        refine gw_imul hx hb dX3_sum_19 ?_
        refine gw_iadd hx hb dX3_sum_20 ?_
        refine lv_iload hx hb dX3_sum_21 (lv_at hl 0 rfl) ?_
        refine gw_iadd hx hb dX3_sum_23 ?_
        refine lv_istore (lv' := [(6, .int (nI (((48 * who) + (6 * ct)) + i))), (5, .int (nI i)), (3, .long (msum sb (48 * who + 6 * ct) i)), (0, .ref mo), (1, .int (nI who)), (2, .int (nI ct))]) hx hb dX3_sum_24 hl (by decide) rfl (fun ls hl => ?_)
        refine lv_lload_n hx hb dX3_sum_26 rfl (lv_at hl 2 rfl) ?_
        refine lv_aload_n hx hb dX3_sum_27 rfl (lv_at hl 3 rfl) ?_
        refine gw_get (ci := 4) (C := RX3) (T := TX3) (N := 8) hx hb hts hinX3 hown hK hG p0_o rfl 5 (by decide) hf21 (fun _ h9 => h9) rfl dX3_sum_28 ?_
        refine lv_iload hx hb dX3_sum_31 (lv_at hl 0 rfl) ?_
        refine gw_lald_n hx hb hK hG p0_2 1 rfl (by omega) (by omega) dX3_sum_33 ?_
        refine lv_aload_n hx hb dX3_sum_34 rfl (lv_at hl 3 rfl) ?_
        refine gw_get (ci := 4) (C := RX3) (T := TX3) (N := 8) hx hb hts hinX3 hown hK hG p0_o rfl 5 (by decide) hf21 (fun _ h9 => h9) rfl dX3_sum_35 ?_
        refine lv_iload hx hb dX3_sum_38 (lv_at hl 0 rfl) ?_
        refine lv_bipush (v := nI 24) hx hb dX3_sum_40 (by decide) ?_
        refine gw_iadd hx hb dX3_sum_42 ?_
        refine gw_lald_n hx hb hK hG p0_2 1 rfl (by omega) (by omega) dX3_sum_43 ?_
        refine lv_lsub hx hb dX3_sum_44 ?_
        refine lv_ladd hx hb dX3_sum_45 ?_
        refine lv_lstore_n (lv' := [(3, .long ((msum sb (48 * who + 6 * ct) i) + ((sb (((48 * who) + (6 * ct)) + i)) - (sb ((((48 * who) + (6 * ct)) + i) + 24))))), (6, .int (nI (((48 * who) + (6 * ct)) + i))), (5, .int (nI i)), (0, .ref mo), (1, .int (nI who)), (2, .int (nI ct))]) hx hb dX3_sum_46 rfl hl (by decide) rfl (fun ls hl => ?_)
        refine lv_iinc (v := nI (i + 1)) (lv' := [(5, .int (nI (i + 1))), (3, .long ((msum sb (48 * who + 6 * ct) i) + ((sb (((48 * who) + (6 * ct)) + i)) - (sb ((((48 * who) + (6 * ct)) + i) + 24))))), (6, .int (nI (((48 * who) + (6 * ct)) + i))), (0, .ref mo), (1, .int (nI who)), (2, .int (nI ct))]) hx hb dX3_sum_47 hl (k := 2) rfl (gw_inc _) (by decide) rfl (fun ls hl => ?_)
        refine lv_goto (tgt := 5) hx hb dX3_sum_50 (by decide) ?_
        exact ih (i + 1) (by omega) (by omega) ls (lv_sub hl [0, 1, 3, 4, 5] rfl)
  exact hloop 7 0 (by omega) (by omega) ls (lv_sub hl [0, 1, 2, 3, 4] rfl)
