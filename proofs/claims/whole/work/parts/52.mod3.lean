/-- one dot merged -/
def mms (he th row r : Nat) (T V : Nat → Int32) (c : Nat) : (Nat → Int32) × (Nat → Int32) × Nat :=
  if T (414 * he + 6 + 6 * row + r) = T (414 * th + 6 + 6 * row + r) then (T, V, c) else
  if T (414 * th + 6 + 6 * row + r) ≤ T (414 * he + r) then (upd T (414 * he + 6 + 6 * row + r) (if T (414 * he + 6 + 6 * row + r) ≤ T (414 * th + r) then nI 0 else T (414 * he + 6 + 6 * row + r)), V, c)
  else (upd T (414 * he + 6 + 6 * row + r) (T (414 * th + 6 + 6 * row + r)), (if row ≤ 63 then V else upd V (24 * he + 6 * (row - 64) + r) (V (24 * th + 6 * (row - 64) + r))), c + 1)
/-- the greater of each two: i entries from pa on, against those from pb on; cp says that the second is no greater -/
def mvx {α : Type} (cp : α → α → Prop) [∀ a b, Decidable (cp a b)] (f : Nat → α) (pa pb i : Nat) : Nat → α := fun j => if pa ≤ j ∧ j < pa + i then (if cp (f (pb + (j - pa))) (f j) then f j else f (pb + (j - pa))) else f j
theorem mvx_0 {α : Type} (cp : α → α → Prop) [∀ a b, Decidable (cp a b)] (f : Nat → α) (pa pb : Nat) : mvx cp f pa pb 0 = f := by
  funext j
  unfold mvx
  rw [if_neg (by omega)]
theorem mvx_st {α : Type} (cp : α → α → Prop) [∀ a b, Decidable (cp a b)] (f g : Nat → α) (pa pb i : Nat) (h : ¬ (pa ≤ pb + i ∧ pb + i < pa + i)) (hg : g = fun j => if j = pa + i then (if cp (mvx cp f pa pb i (pb + i)) (mvx cp f pa pb i (pa + i)) then mvx cp f pa pb i (pa + i) else mvx cp f pa pb i (pb + i)) else mvx cp f pa pb i j) : g = mvx cp f pa pb (i + 1) := by
  have e1 : mvx cp f pa pb i (pb + i) = f (pb + i) := by unfold mvx; rw [if_neg h]
  have e2 : mvx cp f pa pb i (pa + i) = f (pa + i) := by unfold mvx; rw [if_neg (by omega)]
  rw [hg, e1, e2]
  funext j
  show (if j = pa + i then _ else mvx cp f pa pb i j) = mvx cp f pa pb (i + 1) j
  unfold mvx
  by_cases hj : j = pa + i
  · rw [if_pos hj, if_pos (show pa ≤ j ∧ j < pa + (i + 1) by omega), hj, Nat.add_sub_cancel_left]
  · rw [if_neg hj]
    by_cases h2 : pa ≤ j ∧ j < pa + i
    · rw [if_pos h2, if_pos (show pa ≤ j ∧ j < pa + (i + 1) by omega)]
    · rw [if_neg h2, if_neg (show ¬ (pa ≤ j ∧ j < pa + (i + 1)) by omega)]
abbrev icp : Int32 → Int32 → Prop := fun a b => a ≤ b
abbrev lcp : Int64 → Int64 → Prop := fun a b => lg_cmp a b ≤ 0
theorem mvx_s (f : Nat → Int32) (pa pb i : Nat) (h : ¬ (pa ≤ pb + i ∧ pb + i < pa + i)) : upd (mvx icp f pa pb i) (pa + i) (if mvx icp f pa pb i (pb + i) ≤ mvx icp f pa pb i (pa + i) then mvx icp f pa pb i (pa + i) else mvx icp f pa pb i (pb + i)) = mvx icp f pa pb (i + 1) := mvx_st icp f _ pa pb i h rfl
theorem mvx_sl (f : Nat → Int64) (pa pb i : Nat) (h : ¬ (pa ≤ pb + i ∧ pb + i < pa + i)) : vp_updL (mvx lcp f pa pb i) (pa + i) (if lg_cmp (mvx lcp f pa pb i (pb + i)) (mvx lcp f pa pb i (pa + i)) ≤ 0 then mvx lcp f pa pb i (pa + i) else mvx lcp f pa pb i (pb + i)) = mvx lcp f pa pb (i + 1) := mvx_st lcp f _ pa pb i h rfl
set_option maxHeartbeats 4000000 in
set_option maxRecDepth 100000 in
/-- c_mergesF -/
theorem c_mergesF (l : Launch) (K : gw_C) (M : gw_M) (mo : Nat) (ad : Nat → Nat) (cd : Int32) (nn kk : Nat) (tb vb : Nat → Int32) (sb : Nat → Int64) (fm tq : Nat → Int32) (he th : Nat) (F : Nat → (Nat → Int32) × (Nat → Int32) × Nat)  (hm : md K M mo ad cd nn kk tb vb sb fm tq) (hF0 : F 0 = (tb, vb, 0)) (hFs : ∀ row r, r < 6 → F (row * 6 + r + 1) = mms he th row r (F (row * 6 + r)).1 (F (row * 6 + r)).2.1 (F (row * 6 + r)).2.2) (hhe : he < 106) (hth : th < 106) (hne : he ≠ th) : Met l yX3_merges wsX3_merges ({ frames := 1, cells := 0, slots := 0, locals := 40 } : Room) (va_Pc [.ref mo, .int (nI he), .int (nI th)] (gw_I K M)) (va_Qi (fun r M1 => r = nI (F 408).2.2 ∧ md K M1 mo ad cd nn kk (mvx icp (F 408).1 (414 * he) (414 * th) 6) ((F 408).2.1) (mvx lcp sb (48 * he) (48 * th) 48) fm tq ∧ mfr M M1 mo ad) (gw_I K) (gw_A K)) 0 0 (gw_A K) := by
  refine Met.ofW (cc := cX3_merges) (maxL := 9) (ret := (some .int)) (by decide) rfl ?_
  intro p e s m args below meth c s₁ B hml hv
  obtain ⟨hav, hI⟩ := hv
  have hx := B.exec
  have hb := B.bytes
  have hr := B.returns
  have hts := atoms_spec (ws := wsX3_merges) B.pre
  have hown : s.vm.findClass RX3 = some m.cls := findClass_of_methodNamed B.named
  have hlocks : meth.locks = false := B.notSynchronized
  have hT := hI.2.2
  have hK := hT.K
  have hG := hI.B
  have hf14 := hts (.fieldLink RX3 14 "DotGossipModel" "table" "[I") (by decide +kernel)
  have hf18 := hts (.fieldLink RX3 18 "DotGossipModel" "values" "[I") (by decide +kernel)
  have hf21 := hts (.fieldLink RX3 21 "DotGossipModel" "sums" "[J") (by decide +kernel)
  have hinX3 : ∀ w ∈ wsX30, w ∈ wsX3_merges := by decide +kernel
  have hE : entryFrame m args 9 = entryFrame m ([.ref mo, .int (nI he), .int (nI th)] : List Value).toArray 9 := by rw [hav]
  rw [hE]
  have hl := lv_entry ([.ref mo, .int (nI he), .int (nI th)]) (n := 9) (Nat.le_of_ble_eq_true rfl)
  rw [lg_entry_eq]
  generalize (lg_sl ([.ref mo, .int (nI he), .int (nI th)]) ++ List.replicate (9 - (lg_sl ([.ref mo, .int (nI he), .int (nI th)])).length) Slot.unset).toArray = ls at hl ⊢
  have hl : lv_has ls 9 [(0, .ref mo), (1, .int (nI he)), (2, .int (nI th))] := hl
  obtain ⟨p0_b, p0_o, p0_0, p0_1, p0_2, p0_3, p0_4, p0_ne⟩ := id hm
  have ne_o0 : mo ≠ ad 0 := gw_io p0_o p0_0
  have ne_o1 : mo ≠ ad 1 := gw_io p0_o p0_1
  have ne_o2 : mo ≠ ad 2 := gw_io p0_o p0_2
  have ne_o3 : mo ≠ ad 3 := gw_io p0_o p0_3
  have ne_o4 : mo ≠ ad 4 := gw_io p0_o p0_4
  obtain ⟨T0, V0, c0, hF8⟩ : ∃ T V c, F 408 = (T, V, c) := ⟨_, _, _, rfl⟩
  have hl3 : ∀ (z9 : Nat) (i : Nat), i ≤ 48 → 48 + 1 ≤ i + z9 → ∀ (Mi : gw_M), (md K Mi mo ad cd nn kk (mvx icp T0 (414 * he) (414 * th) 6) V0 (mvx lcp sb (48 * he) (48 * th) i) fm tq ∧ mfr M Mi mo ad) → ∀ (H : Heap) (locs : List Loc), gw_B K Mi s.heap H locs → ∀ (ls : Array Slot), lv_has ls 9 [(4, .int (nI i)), (3, .int (nI c0)), (0, .ref mo), (1, .int (nI he)), (2, .int (nI th))] → W p l e ({ frames := 1, cells := 0, slots := 0, locals := 40 } : Room) s m args below meth c H locs (0) (0) (MQ below (va_Qi (fun r M1 => r = nI (F 408).2.2 ∧ md K M1 mo ad cd nn kk (mvx icp (F 408).1 (414 * he) (414 * th) 6) ((F 408).2.1) (mvx lcp sb (48 * he) (48 * th) 48) fm tq ∧ mfr M M1 mo ad) (gw_I K) (gw_A K)) args s 0 0 (gw_A K)) (F0 m 263 ls []) := by
    intro z9
    induction z9 with
    | zero =>
      intro i hg0 hm
      exact absurd hm (by omega)
    | succ z9 ih =>
      intro i hg0 hm Mi hMi H locs hG ls hl
      obtain ⟨hmi, hfi⟩ := hMi
      generalize hS9 : mvx lcp sb (48 * he) (48 * th) i = S9 at hmi
      obtain ⟨p_15_b, p_15_o, p_15_0, p_15_1, p_15_2, p_15_3, p_15_4, p_15_ne⟩ := id hmi
      refine lv_iload hx hb dX3_merges_263 (lv_at hl 0 rfl) ?_
      refine lv_bipush (v := nI 48) hx hb dX3_merges_265 (by decide) ?_
      refine gw_icmp_ge hx hb (by omega) (by omega) (tgt := 337) dX3_merges_267 (by decide) (fun hc => ?_) (fun hc => ?_)
      · have e6 : i = 48 := by omega
        rw [e6] at hS9
        refine lv_iload_n hx hb dX3_merges_337 rfl (lv_at hl 1 rfl) ?_
        exact gw_iret hx hb hr hlocks hG hT (by omega) (by omega) dX3_merges_338 ⟨by rw [hF8], by rw [hF8, hS9]; exact hmi, hfi⟩
      · refine lv_aload_n hx hb dX3_merges_270 rfl (lv_at hl 2 rfl) ?_
        refine gw_get (ci := 4) (C := RX3) (T := TX3) (N := 8) hx hb hts hinX3 hown hK hG p_15_o rfl 5 (by decide) hf21 (fun _ h9 => h9) rfl dX3_merges_271 ?_
        refine lv_bipush (v := nI 48) hx hb dX3_merges_274 (by decide) ?_
        refine lv_iload_n hx hb dX3_merges_276 rfl (lv_at hl 4 rfl) ?_
        refine gw_imul hx hb dX3_merges_277 ?_
        refine lv_iload hx hb dX3_merges_278 (lv_at hl 0 rfl) ?_
        refine gw_iadd hx hb dX3_merges_280 ?_
        refine gw_lald_n hx hb hK hG p_15_2 1 rfl (by omega) (by omega) dX3_merges_281 ?_
        refine lv_lstore (lv' := [(5, .long (S9 ((48 * th) + i))), (4, .int (nI i)), (3, .int (nI c0)), (0, .ref mo), (1, .int (nI he)), (2, .int (nI th))]) hx hb dX3_merges_282 hl (by decide) rfl (fun ls hl => ?_)
        refine lv_aload_n hx hb dX3_merges_284 rfl (lv_at hl 3 rfl) ?_
        refine gw_get (ci := 4) (C := RX3) (T := TX3) (N := 8) hx hb hts hinX3 hown hK hG p_15_o rfl 5 (by decide) hf21 (fun _ h9 => h9) rfl dX3_merges_285 ?_
        refine lv_bipush (v := nI 48) hx hb dX3_merges_288 (by decide) ?_
        refine lv_iload_n hx hb dX3_merges_290 rfl (lv_at hl 4 rfl) ?_
        refine gw_imul hx hb dX3_merges_291 ?_
        refine lv_iload hx hb dX3_merges_292 (lv_at hl 1 rfl) ?_
        refine gw_iadd hx hb dX3_merges_294 ?_
        refine lv_lload hx hb dX3_merges_295 (lv_at hl 0 rfl) ?_
        refine lv_aload_n hx hb dX3_merges_297 rfl (lv_at hl 3 rfl) ?_
        refine gw_get (ci := 4) (C := RX3) (T := TX3) (N := 8) hx hb hts hinX3 hown hK hG p_15_o rfl 5 (by decide) hf21 (fun _ h9 => h9) rfl dX3_merges_298 ?_
        refine lv_bipush (v := nI 48) hx hb dX3_merges_301 (by decide) ?_
        refine lv_iload_n hx hb dX3_merges_303 rfl (lv_at hl 4 rfl) ?_
        refine gw_imul hx hb dX3_merges_304 ?_
        refine lv_iload hx hb dX3_merges_305 (lv_at hl 1 rfl) ?_
        refine gw_iadd hx hb dX3_merges_307 ?_
        refine gw_lald_n hx hb hK hG p_15_2 1 rfl (by omega) (by omega) dX3_merges_308 ?_
        refine W.lcmp hx hb dX3_merges_309 ?_
        refine lv_if_le hx hb (tgt := 318) dX3_merges_310 (by decide) (fun hv => ?_) (fun hv => ?_)
        · refine lv_aload_n hx hb dX3_merges_318 rfl (lv_at hl 3 rfl) ?_
          refine gw_get (ci := 4) (C := RX3) (T := TX3) (N := 8) hx hb hts hinX3 hown hK hG p_15_o rfl 5 (by decide) hf21 (fun _ h9 => h9) rfl dX3_merges_319 ?_
          refine lv_bipush (v := nI 48) hx hb dX3_merges_322 (by decide) ?_
          refine lv_iload_n hx hb dX3_merges_324 rfl (lv_at hl 4 rfl) ?_
          refine gw_imul hx hb dX3_merges_325 ?_
          refine lv_iload hx hb dX3_merges_326 (lv_at hl 1 rfl) ?_
          refine gw_iadd hx hb dX3_merges_328 ?_
          refine gw_lald_n hx hb hK hG p_15_2 1 rfl (by omega) (by omega) dX3_merges_329 ?_
          refine gw_last_n hx hb hK hG p_15_2 1 rfl (by omega) (by omega) dX3_merges_330 (fun H locs hG => ?_)
          obtain ⟨M_16, hM_17⟩ : ∃ M1 : gw_M, M1 = gw_up Mi (ad 2) (.inl (K.2.1 1, 5088, .inr (.inl (vp_updL S9 ((48 * he) + i) (S9 ((48 * he) + i)))))) := ⟨_, rfl⟩
          have hG : gw_B K M_16 s.heap H locs := by rw [hM_17]; exact hG
          have hc_18 := (congrFun hM_17 mo).trans (gw_k ne_o2 p_15_o)
          have hc_19 := (congrFun hM_17 (ad 0)).trans (gw_k (fun z => absurd (p0_ne 0 2 (by decide) (by decide) z) (by decide)) p_15_0)
          have hc_20 := (congrFun hM_17 (ad 1)).trans (gw_k (fun z => absurd (p0_ne 1 2 (by decide) (by decide) z) (by decide)) p_15_1)
          have hc_21 : M_16 (ad 2) = some (.inl (K.2.1 1, 5088, .inr (.inl (vp_updL S9 ((48 * he) + i) (S9 ((48 * he) + i)))))) := (congrFun hM_17 _).trans gw_s
          have hc_22 := (congrFun hM_17 (ad 3)).trans (gw_k (fun z => absurd (p0_ne 3 2 (by decide) (by decide) z) (by decide)) p_15_3)
          have hc_23 := (congrFun hM_17 (ad 4)).trans (gw_k (fun z => absurd (p0_ne 4 2 (by decide) (by decide) z) (by decide)) p_15_4)
          have fr_24 : mfr M M_16 mo ad := fun q h1 h2 => ((congrFun hM_17 q).trans (gw_n (h2 2 (by decide)))).trans (hfi q h1 h2)
          refine lv_iinc (v := nI (i + 1)) (lv' := [(4, .int (nI (i + 1))), (5, .long (S9 ((48 * th) + i))), (3, .int (nI c0)), (0, .ref mo), (1, .int (nI he)), (2, .int (nI th))]) hx hb dX3_merges_331 hl (k := 1) rfl (gw_inc _) (by decide) rfl (fun ls hl => ?_)
          refine lv_goto (tgt := 263) hx hb dX3_merges_334 (by decide) ?_
          have hm9 : md K M_16 mo ad cd nn kk (mvx icp T0 (414 * he) (414 * th) 6) V0 (mvx lcp sb (48 * he) (48 * th) (i + 1)) fm tq := by rw [← mvx_sl sb _ _ i (by omega), hS9, if_pos hv]; exact ⟨p0_b, hc_18, hc_19, hc_20, hc_21, hc_22, hc_23, p0_ne⟩
          exact ih (i + 1) (by omega) (by omega) _ ⟨hm9, fr_24⟩ _ _ hG ls (lv_sub hl [0, 2, 3, 4, 5] rfl)
        · refine lv_lload hx hb dX3_merges_313 (lv_at hl 0 rfl) ?_
          refine lv_goto (tgt := 330) hx hb dX3_merges_315 (by decide) ?_
          refine gw_last_n hx hb hK hG p_15_2 1 rfl (by omega) (by omega) dX3_merges_330 (fun H locs hG => ?_)
          obtain ⟨M_25, hM_26⟩ : ∃ M1 : gw_M, M1 = gw_up Mi (ad 2) (.inl (K.2.1 1, 5088, .inr (.inl (vp_updL S9 ((48 * he) + i) (S9 ((48 * th) + i)))))) := ⟨_, rfl⟩
          have hG : gw_B K M_25 s.heap H locs := by rw [hM_26]; exact hG
          have hc_27 := (congrFun hM_26 mo).trans (gw_k ne_o2 p_15_o)
          have hc_28 := (congrFun hM_26 (ad 0)).trans (gw_k (fun z => absurd (p0_ne 0 2 (by decide) (by decide) z) (by decide)) p_15_0)
          have hc_29 := (congrFun hM_26 (ad 1)).trans (gw_k (fun z => absurd (p0_ne 1 2 (by decide) (by decide) z) (by decide)) p_15_1)
          have hc_30 : M_25 (ad 2) = some (.inl (K.2.1 1, 5088, .inr (.inl (vp_updL S9 ((48 * he) + i) (S9 ((48 * th) + i)))))) := (congrFun hM_26 _).trans gw_s
          have hc_31 := (congrFun hM_26 (ad 3)).trans (gw_k (fun z => absurd (p0_ne 3 2 (by decide) (by decide) z) (by decide)) p_15_3)
          have hc_32 := (congrFun hM_26 (ad 4)).trans (gw_k (fun z => absurd (p0_ne 4 2 (by decide) (by decide) z) (by decide)) p_15_4)
          have fr_33 : mfr M M_25 mo ad := fun q h1 h2 => ((congrFun hM_26 q).trans (gw_n (h2 2 (by decide)))).trans (hfi q h1 h2)
          refine lv_iinc (v := nI (i + 1)) (lv' := [(4, .int (nI (i + 1))), (5, .long (S9 ((48 * th) + i))), (3, .int (nI c0)), (0, .ref mo), (1, .int (nI he)), (2, .int (nI th))]) hx hb dX3_merges_331 hl (k := 1) rfl (gw_inc _) (by decide) rfl (fun ls hl => ?_)
          refine lv_goto (tgt := 263) hx hb dX3_merges_334 (by decide) ?_
          have hm9 : md K M_25 mo ad cd nn kk (mvx icp T0 (414 * he) (414 * th) 6) V0 (mvx lcp sb (48 * he) (48 * th) (i + 1)) fm tq := by rw [← mvx_sl sb _ _ i (by omega), hS9, if_neg hv]; exact ⟨p0_b, hc_27, hc_28, hc_29, hc_30, hc_31, hc_32, p0_ne⟩
          exact ih (i + 1) (by omega) (by omega) _ ⟨hm9, fr_33⟩ _ _ hG ls (lv_sub hl [0, 2, 3, 4, 5] rfl)
  have hl2 : ∀ (z9 : Nat) (i : Nat), i ≤ 6 → 6 + 1 ≤ i + z9 → ∀ (Mi : gw_M), (md K Mi mo ad cd nn kk (mvx icp T0 (414 * he) (414 * th) i) V0 sb fm tq ∧ mfr M Mi mo ad) → ∀ (H : Heap) (locs : List Loc), gw_B K Mi s.heap H locs → ∀ (ls : Array Slot), lv_has ls 9 [(4, .int (nI i)), (3, .int (nI c0)), (0, .ref mo), (1, .int (nI he)), (2, .int (nI th))] → W p l e ({ frames := 1, cells := 0, slots := 0, locals := 40 } : Room) s m args below meth c H locs (0) (0) (MQ below (va_Qi (fun r M1 => r = nI (F 408).2.2 ∧ md K M1 mo ad cd nn kk (mvx icp (F 408).1 (414 * he) (414 * th) 6) ((F 408).2.1) (mvx lcp sb (48 * he) (48 * th) 48) fm tq ∧ mfr M M1 mo ad) (gw_I K) (gw_A K)) args s 0 0 (gw_A K)) (F0 m 191 ls []) := by
    intro z9
    induction z9 with
    | zero =>
      intro i hg0 hm
      exact absurd hm (by omega)
    | succ z9 ih =>
      intro i hg0 hm Mi hMi H locs hG ls hl
      obtain ⟨hmi, hfi⟩ := hMi
      generalize hT9 : mvx icp T0 (414 * he) (414 * th) i = T9 at hmi
      obtain ⟨p_34_b, p_34_o, p_34_0, p_34_1, p_34_2, p_34_3, p_34_4, p_34_ne⟩ := id hmi
      refine lv_iload hx hb dX3_merges_191 (lv_at hl 0 rfl) ?_
      refine lv_bipush (v := nI 6) hx hb dX3_merges_193 (by decide) ?_
      refine gw_icmp_ge hx hb (by omega) (by omega) (tgt := 260) dX3_merges_195 (by decide) (fun hc => ?_) (fun hc => ?_)
      · have e6 : i = 6 := by omega
        rw [e6] at hT9
        refine lv_iconst (v := nI 0) hx hb dX3_merges_260 (by decide) ?_
        refine lv_istore (lv' := [(4, .int (nI 0)), (3, .int (nI c0)), (0, .ref mo), (1, .int (nI he)), (2, .int (nI th))]) hx hb dX3_merges_261 hl (by decide) rfl (fun ls hl => ?_)
        exact hl3 49 0 (by omega) (by omega) _ ⟨by rw [mvx_0, hT9]; exact hmi, hfi⟩ _ _ hG ls (lv_sub hl [0, 1, 2, 3, 4] rfl)
      · refine lv_aload_n hx hb dX3_merges_198 rfl (lv_at hl 2 rfl) ?_
        refine gw_get (ci := 4) (C := RX3) (T := TX3) (N := 8) hx hb hts hinX3 hown hK hG p_34_o rfl 3 (by decide) hf14 (fun _ h9 => h9) rfl dX3_merges_199 ?_
        refine lv_iload_n hx hb dX3_merges_202 rfl (lv_at hl 4 rfl) ?_
        refine lv_iload hx hb dX3_merges_203 (lv_at hl 0 rfl) ?_
        refine gw_calli (va_runS (As := [.int (nI th), .int (nI i)]) (rest := [.ref (ad 0)]) ⟨hx, hb, hml, hown, hts⟩ (c_vectorAt l K Mi th i) (va_cwS 2 hts gX3_merges_X3_vectorAt rfl rfl rfl (by decide +kernel) ⟨Nat.le_of_ble_eq_true rfl, Nat.le_of_ble_eq_true rfl⟩) (gw_preS hG hT) rfl rfl hl.1 rfl (lv_room (Nat.le_of_ble_eq_true rfl)) dX3_merges_205 ⟨Nat.le_of_ble_eq_true rfl, Nat.le_of_ble_eq_true rfl⟩) hG (fun r_35 M_36 H locs hw hG => ?_)
        rw [hw.1] at hG
        refine gw_as hw.2 ?_
        refine gw_iald_n hx hb hK hG p_34_0 0 rfl (by omega) (by omega) dX3_merges_208 ?_
        refine lv_istore (lv' := [(5, .int (T9 (414 * th + i))), (4, .int (nI i)), (3, .int (nI c0)), (0, .ref mo), (1, .int (nI he)), (2, .int (nI th))]) hx hb dX3_merges_209 hl (by decide) rfl (fun ls hl => ?_)
        refine lv_aload_n hx hb dX3_merges_211 rfl (lv_at hl 3 rfl) ?_
        refine gw_get (ci := 4) (C := RX3) (T := TX3) (N := 8) hx hb hts hinX3 hown hK hG p_34_o rfl 3 (by decide) hf14 (fun _ h9 => h9) rfl dX3_merges_212 ?_
        refine lv_iload_n hx hb dX3_merges_215 rfl (lv_at hl 4 rfl) ?_
        refine lv_iload hx hb dX3_merges_216 (lv_at hl 1 rfl) ?_
        refine gw_calli (va_runS (As := [.int (nI he), .int (nI i)]) (rest := [.ref (ad 0)]) ⟨hx, hb, hml, hown, hts⟩ (c_vectorAt l K Mi he i) (va_cwS 2 hts gX3_merges_X3_vectorAt rfl rfl rfl (by decide +kernel) ⟨Nat.le_of_ble_eq_true rfl, Nat.le_of_ble_eq_true rfl⟩) (gw_preS hG hT) rfl rfl hl.1 rfl (lv_room (Nat.le_of_ble_eq_true rfl)) dX3_merges_218 ⟨Nat.le_of_ble_eq_true rfl, Nat.le_of_ble_eq_true rfl⟩) hG (fun r_37 M_38 H locs hw hG => ?_)
        rw [hw.1] at hG
        refine gw_as hw.2 ?_
        refine lv_iload hx hb dX3_merges_221 (lv_at hl 0 rfl) ?_
        refine lv_aload_n hx hb dX3_merges_223 rfl (lv_at hl 3 rfl) ?_
        refine gw_get (ci := 4) (C := RX3) (T := TX3) (N := 8) hx hb hts hinX3 hown hK hG p_34_o rfl 3 (by decide) hf14 (fun _ h9 => h9) rfl dX3_merges_224 ?_
        refine lv_iload_n hx hb dX3_merges_227 rfl (lv_at hl 4 rfl) ?_
        refine lv_iload hx hb dX3_merges_228 (lv_at hl 1 rfl) ?_
        refine gw_calli (va_runS (As := [.int (nI he), .int (nI i)]) (rest := [.ref (ad 0), .int (T9 (414 * th + i)), .int (nI (414 * he + i)), .ref (ad 0)]) ⟨hx, hb, hml, hown, hts⟩ (c_vectorAt l K Mi he i) (va_cwS 2 hts gX3_merges_X3_vectorAt rfl rfl rfl (by decide +kernel) ⟨Nat.le_of_ble_eq_true rfl, Nat.le_of_ble_eq_true rfl⟩) (gw_preS hG hT) rfl rfl hl.1 rfl (lv_room (Nat.le_of_ble_eq_true rfl)) dX3_merges_230 ⟨Nat.le_of_ble_eq_true rfl, Nat.le_of_ble_eq_true rfl⟩) hG (fun r_39 M_40 H locs hw hG => ?_)
        rw [hw.1] at hG
        refine gw_as hw.2 ?_
        refine gw_iald_n hx hb hK hG p_34_0 0 rfl (by omega) (by omega) dX3_merges_233 ?_
        refine lv_icmp_le hx hb (tgt := 242) dX3_merges_234 (by decide) (fun hv => ?_) (fun hv => ?_)
        · refine lv_aload_n hx hb dX3_merges_242 rfl (lv_at hl 3 rfl) ?_
          refine gw_get (ci := 4) (C := RX3) (T := TX3) (N := 8) hx hb hts hinX3 hown hK hG p_34_o rfl 3 (by decide) hf14 (fun _ h9 => h9) rfl dX3_merges_243 ?_
          refine lv_iload_n hx hb dX3_merges_246 rfl (lv_at hl 4 rfl) ?_
          refine lv_iload hx hb dX3_merges_247 (lv_at hl 1 rfl) ?_
          refine gw_calli (va_runS (As := [.int (nI he), .int (nI i)]) (rest := [.ref (ad 0), .int (nI (414 * he + i)), .ref (ad 0)]) ⟨hx, hb, hml, hown, hts⟩ (c_vectorAt l K Mi he i) (va_cwS 2 hts gX3_merges_X3_vectorAt rfl rfl rfl (by decide +kernel) ⟨Nat.le_of_ble_eq_true rfl, Nat.le_of_ble_eq_true rfl⟩) (gw_preS hG hT) rfl rfl hl.1 rfl (lv_room (Nat.le_of_ble_eq_true rfl)) dX3_merges_249 ⟨Nat.le_of_ble_eq_true rfl, Nat.le_of_ble_eq_true rfl⟩) hG (fun r_41 M_42 H locs hw hG => ?_)
          rw [hw.1] at hG
          refine gw_as hw.2 ?_
          refine gw_iald_n hx hb hK hG p_34_0 0 rfl (by omega) (by omega) dX3_merges_252 ?_
          refine gw_iast_n hx hb hK hG p_34_0 0 rfl (by omega) (by omega) dX3_merges_253 (fun H locs hG => ?_)
          obtain ⟨M_43, hM_44⟩ : ∃ M1 : gw_M, M1 = gw_up Mi (ad 0) (.inl (K.2.1 0, 43884, .inl (upd T9 (414 * he + i) (T9 (414 * he + i))))) := ⟨_, rfl⟩
          have hG : gw_B K M_43 s.heap H locs := by rw [hM_44]; exact hG
          have hc_45 := (congrFun hM_44 mo).trans (gw_k ne_o0 p_34_o)
          have hc_46 : M_43 (ad 0) = some (.inl (K.2.1 0, 43884, .inl (upd T9 (414 * he + i) (T9 (414 * he + i))))) := (congrFun hM_44 _).trans gw_s
          have hc_47 := (congrFun hM_44 (ad 1)).trans (gw_k (fun z => absurd (p0_ne 1 0 (by decide) (by decide) z) (by decide)) p_34_1)
          have hc_48 := (congrFun hM_44 (ad 2)).trans (gw_k (fun z => absurd (p0_ne 2 0 (by decide) (by decide) z) (by decide)) p_34_2)
          have hc_49 := (congrFun hM_44 (ad 3)).trans (gw_k (fun z => absurd (p0_ne 3 0 (by decide) (by decide) z) (by decide)) p_34_3)
          have hc_50 := (congrFun hM_44 (ad 4)).trans (gw_k (fun z => absurd (p0_ne 4 0 (by decide) (by decide) z) (by decide)) p_34_4)
          have fr_51 : mfr M M_43 mo ad := fun q h1 h2 => ((congrFun hM_44 q).trans (gw_n (h2 0 (by decide)))).trans (hfi q h1 h2)
          refine lv_iinc (v := nI (i + 1)) (lv' := [(4, .int (nI (i + 1))), (5, .int (T9 (414 * th + i))), (3, .int (nI c0)), (0, .ref mo), (1, .int (nI he)), (2, .int (nI th))]) hx hb dX3_merges_254 hl (k := 1) rfl (gw_inc _) (by decide) rfl (fun ls hl => ?_)
          refine lv_goto (tgt := 191) hx hb dX3_merges_257 (by decide) ?_
          have hm9 : md K M_43 mo ad cd nn kk (mvx icp T0 (414 * he) (414 * th) (i + 1)) V0 sb fm tq := by rw [← mvx_s T0 _ _ i (by omega), hT9, if_pos hv]; exact ⟨p0_b, hc_45, hc_46, hc_47, hc_48, hc_49, hc_50, p0_ne⟩
          exact ih (i + 1) (by omega) (by omega) _ ⟨hm9, fr_51⟩ _ _ hG ls (lv_sub hl [0, 2, 3, 4, 5] rfl)
        · refine lv_iload hx hb dX3_merges_237 (lv_at hl 0 rfl) ?_
          refine lv_goto (tgt := 253) hx hb dX3_merges_239 (by decide) ?_
          refine gw_iast_n hx hb hK hG p_34_0 0 rfl (by omega) (by omega) dX3_merges_253 (fun H locs hG => ?_)
          obtain ⟨M_52, hM_53⟩ : ∃ M1 : gw_M, M1 = gw_up Mi (ad 0) (.inl (K.2.1 0, 43884, .inl (upd T9 (414 * he + i) (T9 (414 * th + i))))) := ⟨_, rfl⟩
          have hG : gw_B K M_52 s.heap H locs := by rw [hM_53]; exact hG
          have hc_54 := (congrFun hM_53 mo).trans (gw_k ne_o0 p_34_o)
          have hc_55 : M_52 (ad 0) = some (.inl (K.2.1 0, 43884, .inl (upd T9 (414 * he + i) (T9 (414 * th + i))))) := (congrFun hM_53 _).trans gw_s
          have hc_56 := (congrFun hM_53 (ad 1)).trans (gw_k (fun z => absurd (p0_ne 1 0 (by decide) (by decide) z) (by decide)) p_34_1)
          have hc_57 := (congrFun hM_53 (ad 2)).trans (gw_k (fun z => absurd (p0_ne 2 0 (by decide) (by decide) z) (by decide)) p_34_2)
          have hc_58 := (congrFun hM_53 (ad 3)).trans (gw_k (fun z => absurd (p0_ne 3 0 (by decide) (by decide) z) (by decide)) p_34_3)
          have hc_59 := (congrFun hM_53 (ad 4)).trans (gw_k (fun z => absurd (p0_ne 4 0 (by decide) (by decide) z) (by decide)) p_34_4)
          have fr_60 : mfr M M_52 mo ad := fun q h1 h2 => ((congrFun hM_53 q).trans (gw_n (h2 0 (by decide)))).trans (hfi q h1 h2)
          refine lv_iinc (v := nI (i + 1)) (lv' := [(4, .int (nI (i + 1))), (5, .int (T9 (414 * th + i))), (3, .int (nI c0)), (0, .ref mo), (1, .int (nI he)), (2, .int (nI th))]) hx hb dX3_merges_254 hl (k := 1) rfl (gw_inc _) (by decide) rfl (fun ls hl => ?_)
          refine lv_goto (tgt := 191) hx hb dX3_merges_257 (by decide) ?_
          have hm9 : md K M_52 mo ad cd nn kk (mvx icp T0 (414 * he) (414 * th) (i + 1)) V0 sb fm tq := by rw [← mvx_s T0 _ _ i (by omega), hT9, if_neg hv]; exact ⟨p0_b, hc_54, hc_55, hc_56, hc_57, hc_58, hc_59, p0_ne⟩
          exact ih (i + 1) (by omega) (by omega) _ ⟨hm9, fr_60⟩ _ _ hG ls (lv_sub hl [0, 2, 3, 4, 5] rfl)
  have hl1 : ∀ (z9 : Nat) (row : Nat), row ≤ 68 → 68 + 1 ≤ row + z9 → ∀ (Mi : gw_M), (md K Mi mo ad cd nn kk ((F (row * 6)).1) ((F (row * 6)).2.1) sb fm tq ∧ mfr M Mi mo ad) → ∀ (H : Heap) (locs : List Loc), gw_B K Mi s.heap H locs → ∀ (ls : Array Slot), lv_has ls 9 [(4, .int (nI row)), (3, .int (nI ((F (row * 6)).2.2))), (0, .ref mo), (1, .int (nI he)), (2, .int (nI th))] → W p l e ({ frames := 1, cells := 0, slots := 0, locals := 40 } : Room) s m args below meth c H locs (0) (0) (MQ below (va_Qi (fun r M1 => r = nI (F 408).2.2 ∧ md K M1 mo ad cd nn kk (mvx icp (F 408).1 (414 * he) (414 * th) 6) ((F 408).2.1) (mvx lcp sb (48 * he) (48 * th) 48) fm tq ∧ mfr M M1 mo ad) (gw_I K) (gw_A K)) args s 0 0 (gw_A K)) (F0 m 5 ls []) := by
    intro z9
    induction z9 with
    | zero =>
      intro row hg0 hm
      exact absurd hm (by omega)
    | succ z9 ih =>
      intro row hg0 hm Mi hMi H locs hG ls hl
      refine lv_iload hx hb dX3_merges_5 (lv_at hl 0 rfl) ?_
      refine lv_bipush (v := nI 68) hx hb dX3_merges_7 (by decide) ?_
      refine gw_icmp_ge hx hb (by omega) (by omega) (tgt := 188) dX3_merges_9 (by decide) (fun hc => ?_) (fun hc => ?_)
      · have e68 : row * 6 = 408 := by omega
        rw [e68, hF8] at hMi
        rw [e68, hF8] at hl
        have hl : lv_has ls 9 [(4, .int (nI row)), (3, .int (nI c0)), (0, .ref mo), (1, .int (nI he)), (2, .int (nI th))] := hl
        refine lv_iconst (v := nI 0) hx hb dX3_merges_188 (by decide) ?_
        refine lv_istore (lv' := [(4, .int (nI 0)), (3, .int (nI c0)), (0, .ref mo), (1, .int (nI he)), (2, .int (nI th))]) hx hb dX3_merges_189 hl (by decide) rfl (fun ls hl => ?_)
        exact hl2 7 0 (by omega) (by omega) _ ⟨by rw [mvx_0]; exact hMi.1, hMi.2⟩ _ _ hG ls (lv_sub hl [0, 1, 2, 3, 4] rfl)
      · have hl0 : ∀ (z8 : Nat) (r : Nat), r ≤ 6 → 6 + 1 ≤ r + z8 → ∀ (Mj : gw_M), (md K Mj mo ad cd nn kk ((F (row * 6 + r)).1) ((F (row * 6 + r)).2.1) sb fm tq ∧ mfr M Mj mo ad) → ∀ (H : Heap) (locs : List Loc), gw_B K Mj s.heap H locs → ∀ (ls : Array Slot), lv_has ls 9 [(5, .int (nI r)), (4, .int (nI row)), (3, .int (nI ((F (row * 6 + r)).2.2))), (0, .ref mo), (1, .int (nI he)), (2, .int (nI th))] → W p l e ({ frames := 1, cells := 0, slots := 0, locals := 40 } : Room) s m args below meth c H locs (0) (0) (MQ below (va_Qi (fun r M1 => r = nI (F 408).2.2 ∧ md K M1 mo ad cd nn kk (mvx icp (F 408).1 (414 * he) (414 * th) 6) ((F 408).2.1) (mvx lcp sb (48 * he) (48 * th) 48) fm tq ∧ mfr M M1 mo ad) (gw_I K) (gw_A K)) args s 0 0 (gw_A K)) (F0 m 15 ls []) := by
          intro z8
          induction z8 with
          | zero =>
            intro r hg0 hm
            exact absurd hm (by omega)
          | succ z8 ih2 =>
            intro r hg0 hm Mj hMj H locs hG ls hl
            obtain ⟨T9, V9, c9, hF9⟩ : ∃ T V c, F (row * 6 + r) = (T, V, c) := ⟨_, _, _, rfl⟩
            obtain ⟨hmj, hfj⟩ := hMj
            have hmi : md K Mj mo ad cd nn kk T9 V9 sb fm tq := by rw [hF9] at hmj; exact hmj
            have hl : lv_has ls 9 [(5, .int (nI r)), (4, .int (nI row)), (3, .int (nI c9)), (0, .ref mo), (1, .int (nI he)), (2, .int (nI th))] := by rw [hF9] at hl; exact hl
            obtain ⟨p_61_b, p_61_o, p_61_0, p_61_1, p_61_2, p_61_3, p_61_4, p_61_ne⟩ := id hmi
            refine lv_iload hx hb dX3_merges_15 (lv_at hl 0 rfl) ?_
            refine lv_bipush (v := nI 6) hx hb dX3_merges_17 (by decide) ?_
            refine gw_icmp_ge hx hb (by omega) (by omega) (tgt := 182) dX3_merges_19 (by decide) (fun hc2 => ?_) (fun hc2 => ?_)
            · have e6 : row * 6 + r = (row + 1) * 6 := by omega
              rw [e6] at hF9
              refine lv_iinc (v := nI (row + 1)) (lv' := [(4, .int (nI (row + 1))), (5, .int (nI r)), (3, .int (nI c9)), (0, .ref mo), (1, .int (nI he)), (2, .int (nI th))]) hx hb dX3_merges_182 hl (k := 1) rfl (gw_inc _) (by decide) rfl (fun ls hl => ?_)
              refine lv_goto (tgt := 5) hx hb dX3_merges_185 (by decide) ?_
              exact ih (row + 1) (by omega) (by omega) _ ⟨by rw [hF9]; exact hmi, hfj⟩ _ _ hG ls (by rw [hF9]; exact lv_sub hl [0, 2, 3, 4, 5] rfl)
            · have hs9 : F (row * 6 + (r + 1)) = mms he th row r T9 V9 c9 := by rw [show row * 6 + (r + 1) = row * 6 + r + 1 by omega, hFs row r (by omega), hF9]
              unfold mms at hs9
              refine lv_aload_n hx hb dX3_merges_22 rfl (lv_at hl 3 rfl) ?_
              refine gw_get (ci := 4) (C := RX3) (T := TX3) (N := 8) hx hb hts hinX3 hown hK hG p_61_o rfl 3 (by decide) hf14 (fun _ h9 => h9) rfl dX3_merges_23 ?_
              refine lv_iload_n hx hb dX3_merges_26 rfl (lv_at hl 4 rfl) ?_
              refine lv_iload hx hb dX3_merges_27 (lv_at hl 1 rfl) ?_
              refine gw_calli (va_runS (As := [.int (nI he), .int (nI row)]) (rest := [.ref (ad 0)]) ⟨hx, hb, hml, hown, hts⟩ (c_dots l K Mj he row) (va_cwS 2 hts gX3_merges_X3_dots rfl rfl rfl (by decide +kernel) ⟨Nat.le_of_ble_eq_true rfl, Nat.le_of_ble_eq_true rfl⟩) (gw_preS hG hT) rfl rfl hl.1 rfl (lv_room (Nat.le_of_ble_eq_true rfl)) dX3_merges_29 ⟨Nat.le_of_ble_eq_true rfl, Nat.le_of_ble_eq_true rfl⟩) hG (fun r_62 M_63 H locs hw hG => ?_)
              rw [hw.1] at hG
              refine gw_as hw.2 ?_
              refine lv_iload hx hb dX3_merges_32 (lv_at hl 0 rfl) ?_
              refine gw_iadd hx hb dX3_merges_34 ?_
              refine gw_iald_n hx hb hK hG p_61_0 0 rfl (by omega) (by omega) dX3_merges_35 ?_
              refine lv_istore (lv' := [(6, .int (T9 ((414 * he + 6 + 6 * row) + r))), (5, .int (nI r)), (4, .int (nI row)), (3, .int (nI c9)), (0, .ref mo), (1, .int (nI he)), (2, .int (nI th))]) hx hb dX3_merges_36 hl (by decide) rfl (fun ls hl => ?_)
              refine lv_aload_n hx hb dX3_merges_38 rfl (lv_at hl 4 rfl) ?_
              refine gw_get (ci := 4) (C := RX3) (T := TX3) (N := 8) hx hb hts hinX3 hown hK hG p_61_o rfl 3 (by decide) hf14 (fun _ h9 => h9) rfl dX3_merges_39 ?_
              refine lv_iload_n hx hb dX3_merges_42 rfl (lv_at hl 6 rfl) ?_
              refine lv_iload hx hb dX3_merges_43 (lv_at hl 2 rfl) ?_
              refine gw_calli (va_runS (As := [.int (nI th), .int (nI row)]) (rest := [.ref (ad 0)]) ⟨hx, hb, hml, hown, hts⟩ (c_dots l K Mj th row) (va_cwS 2 hts gX3_merges_X3_dots rfl rfl rfl (by decide +kernel) ⟨Nat.le_of_ble_eq_true rfl, Nat.le_of_ble_eq_true rfl⟩) (gw_preS hG hT) rfl rfl hl.1 rfl (lv_room (Nat.le_of_ble_eq_true rfl)) dX3_merges_45 ⟨Nat.le_of_ble_eq_true rfl, Nat.le_of_ble_eq_true rfl⟩) hG (fun r_64 M_65 H locs hw hG => ?_)
              rw [hw.1] at hG
              refine gw_as hw.2 ?_
              refine lv_iload hx hb dX3_merges_48 (lv_at hl 1 rfl) ?_
              refine gw_iadd hx hb dX3_merges_50 ?_
              refine gw_iald_n hx hb hK hG p_61_0 0 rfl (by omega) (by omega) dX3_merges_51 ?_
              refine lv_istore (lv' := [(7, .int (T9 ((414 * th + 6 + 6 * row) + r))), (6, .int (T9 ((414 * he + 6 + 6 * row) + r))), (5, .int (nI r)), (4, .int (nI row)), (3, .int (nI c9)), (0, .ref mo), (1, .int (nI he)), (2, .int (nI th))]) hx hb dX3_merges_52 hl (by decide) rfl (fun ls hl => ?_)
              refine lv_iload hx hb dX3_merges_54 (lv_at hl 1 rfl) ?_
              refine lv_iload hx hb dX3_merges_56 (lv_at hl 0 rfl) ?_
              refine lv_icmp_ne hx hb (tgt := 64) dX3_merges_58 (by decide) (fun hq => ?_) (fun hq => ?_)
              · refine lv_iload hx hb dX3_merges_64 (lv_at hl 1 rfl) ?_
                refine lv_aload_n hx hb dX3_merges_66 rfl (lv_at hl 5 rfl) ?_
                refine gw_get (ci := 4) (C := RX3) (T := TX3) (N := 8) hx hb hts hinX3 hown hK hG p_61_o rfl 3 (by decide) hf14 (fun _ h9 => h9) rfl dX3_merges_67 ?_
                refine lv_iload_n hx hb dX3_merges_70 rfl (lv_at hl 7 rfl) ?_
                refine lv_iload hx hb dX3_merges_71 (lv_at hl 2 rfl) ?_
                refine gw_calli (va_runS (As := [.int (nI th), .int (nI r)]) (rest := [.ref (ad 0), .int (T9 ((414 * he + 6 + 6 * row) + r))]) ⟨hx, hb, hml, hown, hts⟩ (c_vectorAt l K Mj th r) (va_cwS 2 hts gX3_merges_X3_vectorAt rfl rfl rfl (by decide +kernel) ⟨Nat.le_of_ble_eq_true rfl, Nat.le_of_ble_eq_true rfl⟩) (gw_preS hG hT) rfl rfl hl.1 rfl (lv_room (Nat.le_of_ble_eq_true rfl)) dX3_merges_73 ⟨Nat.le_of_ble_eq_true rfl, Nat.le_of_ble_eq_true rfl⟩) hG (fun r_66 M_67 H locs hw hG => ?_)
                rw [hw.1] at hG
                refine gw_as hw.2 ?_
                refine gw_iald_n hx hb hK hG p_61_0 0 rfl (by omega) (by omega) dX3_merges_76 ?_
                refine lv_icmp_le hx hb (tgt := 85) dX3_merges_77 (by decide) (fun h1 => ?_) (fun h1 => ?_)
                · refine lv_iconst (v := nI 0) hx hb dX3_merges_85 (by decide) ?_
                  refine lv_istore (lv' := [(8, .int (nI 0)), (7, .int (T9 ((414 * th + 6 + 6 * row) + r))), (6, .int (T9 ((414 * he + 6 + 6 * row) + r))), (5, .int (nI r)), (4, .int (nI row)), (3, .int (nI c9)), (0, .ref mo), (1, .int (nI he)), (2, .int (nI th))]) hx hb dX3_merges_86 hl (by decide) rfl (fun ls hl => ?_)
                  refine lv_iload hx hb dX3_merges_88 (lv_at hl 1 rfl) ?_
                  refine lv_aload_n hx hb dX3_merges_90 rfl (lv_at hl 6 rfl) ?_
                  refine gw_get (ci := 4) (C := RX3) (T := TX3) (N := 8) hx hb hts hinX3 hown hK hG p_61_o rfl 3 (by decide) hf14 (fun _ h9 => h9) rfl dX3_merges_91 ?_
                  refine lv_iload_n hx hb dX3_merges_94 rfl (lv_at hl 7 rfl) ?_
                  refine lv_iload hx hb dX3_merges_95 (lv_at hl 3 rfl) ?_
                  refine gw_calli (va_runS (As := [.int (nI he), .int (nI r)]) (rest := [.ref (ad 0), .int (T9 ((414 * th + 6 + 6 * row) + r))]) ⟨hx, hb, hml, hown, hts⟩ (c_vectorAt l K Mj he r) (va_cwS 2 hts gX3_merges_X3_vectorAt rfl rfl rfl (by decide +kernel) ⟨Nat.le_of_ble_eq_true rfl, Nat.le_of_ble_eq_true rfl⟩) (gw_preS hG hT) rfl rfl hl.1 rfl (lv_room (Nat.le_of_ble_eq_true rfl)) dX3_merges_97 ⟨Nat.le_of_ble_eq_true rfl, Nat.le_of_ble_eq_true rfl⟩) hG (fun r_68 M_69 H locs hw hG => ?_)
                  rw [hw.1] at hG
                  refine gw_as hw.2 ?_
                  refine gw_iald_n hx hb hK hG p_61_0 0 rfl (by omega) (by omega) dX3_merges_100 ?_
                  refine lv_icmp_le hx hb (tgt := 160) dX3_merges_101 (by decide) (fun h2 => ?_) (fun h2 => ?_)
                  · refine lv_aload_n hx hb dX3_merges_160 rfl (lv_at hl 6 rfl) ?_
                    refine gw_get (ci := 4) (C := RX3) (T := TX3) (N := 8) hx hb hts hinX3 hown hK hG p_61_o rfl 3 (by decide) hf14 (fun _ h9 => h9) rfl dX3_merges_161 ?_
                    refine lv_iload_n hx hb dX3_merges_164 rfl (lv_at hl 7 rfl) ?_
                    refine lv_iload hx hb dX3_merges_165 (lv_at hl 4 rfl) ?_
                    refine gw_calli (va_runS (As := [.int (nI he), .int (nI row)]) (rest := [.ref (ad 0)]) ⟨hx, hb, hml, hown, hts⟩ (c_dots l K Mj he row) (va_cwS 2 hts gX3_merges_X3_dots rfl rfl rfl (by decide +kernel) ⟨Nat.le_of_ble_eq_true rfl, Nat.le_of_ble_eq_true rfl⟩) (gw_preS hG hT) rfl rfl hl.1 rfl (lv_room (Nat.le_of_ble_eq_true rfl)) dX3_merges_167 ⟨Nat.le_of_ble_eq_true rfl, Nat.le_of_ble_eq_true rfl⟩) hG (fun r_70 M_71 H locs hw hG => ?_)
                    rw [hw.1] at hG
                    refine gw_as hw.2 ?_
                    rw [if_neg hq, if_pos h2, if_pos h1] at hs9
                    refine lv_iload hx hb dX3_merges_170 (lv_at hl 3 rfl) ?_
                    refine gw_iadd hx hb dX3_merges_172 ?_
                    refine lv_iload hx hb dX3_merges_173 (lv_at hl 0 rfl) ?_
                    refine gw_iast_n hx hb hK hG p_61_0 0 rfl (by omega) (by omega) dX3_merges_175 (fun H locs hG => ?_)
                    obtain ⟨M_72, hM_73⟩ : ∃ M1 : gw_M, M1 = gw_up Mj (ad 0) (.inl (K.2.1 0, 43884, .inl (upd T9 ((414 * he + 6 + 6 * row) + r) (nI 0)))) := ⟨_, rfl⟩
                    have hG : gw_B K M_72 s.heap H locs := by rw [hM_73]; exact hG
                    have hc_74 := (congrFun hM_73 mo).trans (gw_k ne_o0 p_61_o)
                    have hc_75 : M_72 (ad 0) = some (.inl (K.2.1 0, 43884, .inl (upd T9 ((414 * he + 6 + 6 * row) + r) (nI 0)))) := (congrFun hM_73 _).trans gw_s
                    have hc_76 := (congrFun hM_73 (ad 1)).trans (gw_k (fun z => absurd (p0_ne 1 0 (by decide) (by decide) z) (by decide)) p_61_1)
                    have hc_77 := (congrFun hM_73 (ad 2)).trans (gw_k (fun z => absurd (p0_ne 2 0 (by decide) (by decide) z) (by decide)) p_61_2)
                    have hc_78 := (congrFun hM_73 (ad 3)).trans (gw_k (fun z => absurd (p0_ne 3 0 (by decide) (by decide) z) (by decide)) p_61_3)
                    have hc_79 := (congrFun hM_73 (ad 4)).trans (gw_k (fun z => absurd (p0_ne 4 0 (by decide) (by decide) z) (by decide)) p_61_4)
                    have fr_80 : mfr M M_72 mo ad := fun q h1 h2 => ((congrFun hM_73 q).trans (gw_n (h2 0 (by decide)))).trans (hfj q h1 h2)
                    refine lv_iinc (v := nI (r + 1)) (lv' := [(5, .int (nI (r + 1))), (8, .int (nI 0)), (7, .int (T9 ((414 * th + 6 + 6 * row) + r))), (6, .int (T9 ((414 * he + 6 + 6 * row) + r))), (4, .int (nI row)), (3, .int (nI c9)), (0, .ref mo), (1, .int (nI he)), (2, .int (nI th))]) hx hb dX3_merges_176 hl (k := 3) rfl (gw_inc _) (by decide) rfl (fun ls hl => ?_)
                    refine lv_goto (tgt := 15) hx hb dX3_merges_179 (by decide) ?_
                    exact ih2 (r + 1) (by omega) (by omega) _ ⟨by rw [hs9]; exact ⟨p0_b, hc_74, hc_75, hc_76, hc_77, hc_78, hc_79, p0_ne⟩, fr_80⟩ _ _ hG ls (by rw [hs9]; exact lv_sub hl [0, 4, 5, 6, 7, 8] rfl)
                  · refine lv_iinc (v := nI (c9 + 1)) (lv' := [(3, .int (nI (c9 + 1))), (8, .int (nI 0)), (7, .int (T9 ((414 * th + 6 + 6 * row) + r))), (6, .int (T9 ((414 * he + 6 + 6 * row) + r))), (5, .int (nI r)), (4, .int (nI row)), (0, .ref mo), (1, .int (nI he)), (2, .int (nI th))]) hx hb dX3_merges_104 hl (k := 5) rfl (gw_inc _) (by decide) rfl (fun ls hl => ?_)
                    refine lv_iload hx hb dX3_merges_107 (lv_at hl 2 rfl) ?_
                    refine lv_istore (lv' := [(8, .int (T9 ((414 * th + 6 + 6 * row) + r))), (3, .int (nI (c9 + 1))), (7, .int (T9 ((414 * th + 6 + 6 * row) + r))), (6, .int (T9 ((414 * he + 6 + 6 * row) + r))), (5, .int (nI r)), (4, .int (nI row)), (0, .ref mo), (1, .int (nI he)), (2, .int (nI th))]) hx hb dX3_merges_109 hl (by decide) rfl (fun ls hl => ?_)
                    refine lv_iload hx hb dX3_merges_111 (lv_at hl 5 rfl) ?_
                    refine lv_bipush (v := nI 63) hx hb dX3_merges_113 (by decide) ?_
                    refine gw_icmp_le hx hb (by omega) (by omega) (tgt := 160) dX3_merges_115 (by decide) (fun h3 => ?_) (fun h3 => ?_)
                    · refine lv_aload_n hx hb dX3_merges_160 rfl (lv_at hl 6 rfl) ?_
                      refine gw_get (ci := 4) (C := RX3) (T := TX3) (N := 8) hx hb hts hinX3 hown hK hG p_61_o rfl 3 (by decide) hf14 (fun _ h9 => h9) rfl dX3_merges_161 ?_
                      refine lv_iload_n hx hb dX3_merges_164 rfl (lv_at hl 7 rfl) ?_
                      refine lv_iload hx hb dX3_merges_165 (lv_at hl 5 rfl) ?_
                      refine gw_calli (va_runS (As := [.int (nI he), .int (nI row)]) (rest := [.ref (ad 0)]) ⟨hx, hb, hml, hown, hts⟩ (c_dots l K Mj he row) (va_cwS 2 hts gX3_merges_X3_dots rfl rfl rfl (by decide +kernel) ⟨Nat.le_of_ble_eq_true rfl, Nat.le_of_ble_eq_true rfl⟩) (gw_preS hG hT) rfl rfl hl.1 rfl (lv_room (Nat.le_of_ble_eq_true rfl)) dX3_merges_167 ⟨Nat.le_of_ble_eq_true rfl, Nat.le_of_ble_eq_true rfl⟩) hG (fun r_81 M_82 H locs hw hG => ?_)
                      rw [hw.1] at hG
                      refine gw_as hw.2 ?_
                      rw [if_neg hq, if_neg h2, if_pos h3] at hs9
                      refine lv_iload hx hb dX3_merges_170 (lv_at hl 4 rfl) ?_
                      refine gw_iadd hx hb dX3_merges_172 ?_
                      refine lv_iload hx hb dX3_merges_173 (lv_at hl 0 rfl) ?_
                      refine gw_iast_n hx hb hK hG p_61_0 0 rfl (by omega) (by omega) dX3_merges_175 (fun H locs hG => ?_)
                      obtain ⟨M_83, hM_84⟩ : ∃ M1 : gw_M, M1 = gw_up Mj (ad 0) (.inl (K.2.1 0, 43884, .inl (upd T9 ((414 * he + 6 + 6 * row) + r) (T9 ((414 * th + 6 + 6 * row) + r))))) := ⟨_, rfl⟩
                      have hG : gw_B K M_83 s.heap H locs := by rw [hM_84]; exact hG
                      have hc_85 := (congrFun hM_84 mo).trans (gw_k ne_o0 p_61_o)
                      have hc_86 : M_83 (ad 0) = some (.inl (K.2.1 0, 43884, .inl (upd T9 ((414 * he + 6 + 6 * row) + r) (T9 ((414 * th + 6 + 6 * row) + r))))) := (congrFun hM_84 _).trans gw_s
                      have hc_87 := (congrFun hM_84 (ad 1)).trans (gw_k (fun z => absurd (p0_ne 1 0 (by decide) (by decide) z) (by decide)) p_61_1)
                      have hc_88 := (congrFun hM_84 (ad 2)).trans (gw_k (fun z => absurd (p0_ne 2 0 (by decide) (by decide) z) (by decide)) p_61_2)
                      have hc_89 := (congrFun hM_84 (ad 3)).trans (gw_k (fun z => absurd (p0_ne 3 0 (by decide) (by decide) z) (by decide)) p_61_3)
                      have hc_90 := (congrFun hM_84 (ad 4)).trans (gw_k (fun z => absurd (p0_ne 4 0 (by decide) (by decide) z) (by decide)) p_61_4)
                      have fr_91 : mfr M M_83 mo ad := fun q h1 h2 => ((congrFun hM_84 q).trans (gw_n (h2 0 (by decide)))).trans (hfj q h1 h2)
                      refine lv_iinc (v := nI (r + 1)) (lv' := [(5, .int (nI (r + 1))), (8, .int (T9 ((414 * th + 6 + 6 * row) + r))), (3, .int (nI (c9 + 1))), (7, .int (T9 ((414 * th + 6 + 6 * row) + r))), (6, .int (T9 ((414 * he + 6 + 6 * row) + r))), (4, .int (nI row)), (0, .ref mo), (1, .int (nI he)), (2, .int (nI th))]) hx hb dX3_merges_176 hl (k := 4) rfl (gw_inc _) (by decide) rfl (fun ls hl => ?_)
                      refine lv_goto (tgt := 15) hx hb dX3_merges_179 (by decide) ?_
                      exact ih2 (r + 1) (by omega) (by omega) _ ⟨by rw [hs9]; exact ⟨p0_b, hc_85, hc_86, hc_87, hc_88, hc_89, hc_90, p0_ne⟩, fr_91⟩ _ _ hG ls (by rw [hs9]; exact lv_sub hl [0, 5, 2, 6, 7, 8] rfl)
                    · refine lv_aload_n hx hb dX3_merges_118 rfl (lv_at hl 6 rfl) ?_
                      refine gw_get (ci := 4) (C := RX3) (T := TX3) (N := 8) hx hb hts hinX3 hown hK hG p_61_o rfl 4 (by decide) hf18 (fun _ h9 => h9) rfl dX3_merges_119 ?_
                      refine lv_bipush (v := nI 24) hx hb dX3_merges_122 (by decide) ?_
                      refine lv_iload_n hx hb dX3_merges_124 rfl (lv_at hl 7 rfl) ?_
                      refine gw_imul hx hb dX3_merges_125 ?_
                      refine lv_bipush (v := nI 6) hx hb dX3_merges_126 (by decide) ?_
                      refine lv_iload hx hb dX3_merges_128 (lv_at hl 5 rfl) ?_
                      refine lv_bipush (v := nI 64) hx hb dX3_merges_130 (by decide) ?_
                      refine gw_isub hx hb (by omega) dX3_merges_132 ?_
                      refine gw_imul hx hb dX3_merges_133 ?_
                      refine gw_iadd hx hb dX3_merges_134 ?_
                      refine lv_iload hx hb dX3_merges_135 (lv_at hl 4 rfl) ?_
                      refine gw_iadd hx hb dX3_merges_137 ?_
                      refine lv_aload_n hx hb dX3_merges_138 rfl (lv_at hl 6 rfl) ?_
                      refine gw_get (ci := 4) (C := RX3) (T := TX3) (N := 8) hx hb hts hinX3 hown hK hG p_61_o rfl 4 (by decide) hf18 (fun _ h9 => h9) rfl dX3_merges_139 ?_
                      refine lv_bipush (v := nI 24) hx hb dX3_merges_142 (by decide) ?_
                      refine lv_iload_n hx hb dX3_merges_144 rfl (lv_at hl 8 rfl) ?_
                      refine gw_imul hx hb dX3_merges_145 ?_
                      refine lv_bipush (v := nI 6) hx hb dX3_merges_146 (by decide) ?_
                      refine lv_iload hx hb dX3_merges_148 (lv_at hl 5 rfl) ?_
                      refine lv_bipush (v := nI 64) hx hb dX3_merges_150 (by decide) ?_
                      refine gw_isub hx hb (by omega) dX3_merges_152 ?_
                      refine gw_imul hx hb dX3_merges_153 ?_
                      refine gw_iadd hx hb dX3_merges_154 ?_
                      refine lv_iload hx hb dX3_merges_155 (lv_at hl 4 rfl) ?_
                      refine gw_iadd hx hb dX3_merges_157 ?_
                      refine gw_iald_n hx hb hK hG p_61_1 0 rfl (by omega) (by omega) dX3_merges_158 ?_
                      refine gw_iast_n hx hb hK hG p_61_1 0 rfl (by omega) (by omega) dX3_merges_159 (fun H locs hG => ?_)
                      obtain ⟨M_92, hM_93⟩ : ∃ M1 : gw_M, M1 = gw_up Mj (ad 1) (.inl (K.2.1 0, 2544, .inl (upd V9 (((24 * he) + (6 * (row - 64))) + r) (V9 (((24 * th) + (6 * (row - 64))) + r))))) := ⟨_, rfl⟩
                      have hG : gw_B K M_92 s.heap H locs := by rw [hM_93]; exact hG
                      have hc_94 := (congrFun hM_93 mo).trans (gw_k ne_o1 p_61_o)
                      have hc_95 := (congrFun hM_93 (ad 0)).trans (gw_k (fun z => absurd (p0_ne 0 1 (by decide) (by decide) z) (by decide)) p_61_0)
                      have hc_96 : M_92 (ad 1) = some (.inl (K.2.1 0, 2544, .inl (upd V9 (((24 * he) + (6 * (row - 64))) + r) (V9 (((24 * th) + (6 * (row - 64))) + r))))) := (congrFun hM_93 _).trans gw_s
                      have hc_97 := (congrFun hM_93 (ad 2)).trans (gw_k (fun z => absurd (p0_ne 2 1 (by decide) (by decide) z) (by decide)) p_61_2)
                      have hc_98 := (congrFun hM_93 (ad 3)).trans (gw_k (fun z => absurd (p0_ne 3 1 (by decide) (by decide) z) (by decide)) p_61_3)
                      have hc_99 := (congrFun hM_93 (ad 4)).trans (gw_k (fun z => absurd (p0_ne 4 1 (by decide) (by decide) z) (by decide)) p_61_4)
                      have fr_100 : mfr M M_92 mo ad := fun q h1 h2 => ((congrFun hM_93 q).trans (gw_n (h2 1 (by decide)))).trans (hfj q h1 h2)
                      refine lv_aload_n hx hb dX3_merges_160 rfl (lv_at hl 6 rfl) ?_
                      refine gw_get (ci := 4) (C := RX3) (T := TX3) (N := 8) hx hb hts hinX3 hown hK hG hc_94 rfl 3 (by decide) hf14 (fun _ h9 => h9) rfl dX3_merges_161 ?_
                      refine lv_iload_n hx hb dX3_merges_164 rfl (lv_at hl 7 rfl) ?_
                      refine lv_iload hx hb dX3_merges_165 (lv_at hl 5 rfl) ?_
                      refine gw_calli (va_runS (As := [.int (nI he), .int (nI row)]) (rest := [.ref (ad 0)]) ⟨hx, hb, hml, hown, hts⟩ (c_dots l K M_92 he row) (va_cwS 2 hts gX3_merges_X3_dots rfl rfl rfl (by decide +kernel) ⟨Nat.le_of_ble_eq_true rfl, Nat.le_of_ble_eq_true rfl⟩) (gw_preS hG hT) rfl rfl hl.1 rfl (lv_room (Nat.le_of_ble_eq_true rfl)) dX3_merges_167 ⟨Nat.le_of_ble_eq_true rfl, Nat.le_of_ble_eq_true rfl⟩) hG (fun r_101 M_102 H locs hw hG => ?_)
                      rw [hw.1] at hG
                      refine gw_as hw.2 ?_
                      rw [if_neg hq, if_neg h2, if_neg (Nat.not_le.mpr h3)] at hs9
                      refine lv_iload hx hb dX3_merges_170 (lv_at hl 4 rfl) ?_
                      refine gw_iadd hx hb dX3_merges_172 ?_
                      refine lv_iload hx hb dX3_merges_173 (lv_at hl 0 rfl) ?_
                      refine gw_iast_n hx hb hK hG hc_95 0 rfl (by omega) (by omega) dX3_merges_175 (fun H locs hG => ?_)
                      obtain ⟨M_103, hM_104⟩ : ∃ M1 : gw_M, M1 = gw_up M_92 (ad 0) (.inl (K.2.1 0, 43884, .inl (upd T9 ((414 * he + 6 + 6 * row) + r) (T9 ((414 * th + 6 + 6 * row) + r))))) := ⟨_, rfl⟩
                      have hG : gw_B K M_103 s.heap H locs := by rw [hM_104]; exact hG
                      have hc_105 := (congrFun hM_104 mo).trans (gw_k ne_o0 hc_94)
                      have hc_106 : M_103 (ad 0) = some (.inl (K.2.1 0, 43884, .inl (upd T9 ((414 * he + 6 + 6 * row) + r) (T9 ((414 * th + 6 + 6 * row) + r))))) := (congrFun hM_104 _).trans gw_s
                      have hc_107 := (congrFun hM_104 (ad 1)).trans (gw_k (fun z => absurd (p0_ne 1 0 (by decide) (by decide) z) (by decide)) hc_96)
                      have hc_108 := (congrFun hM_104 (ad 2)).trans (gw_k (fun z => absurd (p0_ne 2 0 (by decide) (by decide) z) (by decide)) hc_97)
                      have hc_109 := (congrFun hM_104 (ad 3)).trans (gw_k (fun z => absurd (p0_ne 3 0 (by decide) (by decide) z) (by decide)) hc_98)
                      have hc_110 := (congrFun hM_104 (ad 4)).trans (gw_k (fun z => absurd (p0_ne 4 0 (by decide) (by decide) z) (by decide)) hc_99)
                      have fr_111 : mfr M M_103 mo ad := fun q h1 h2 => ((congrFun hM_104 q).trans (gw_n (h2 0 (by decide)))).trans (fr_100 q h1 h2)
                      refine lv_iinc (v := nI (r + 1)) (lv' := [(5, .int (nI (r + 1))), (8, .int (T9 ((414 * th + 6 + 6 * row) + r))), (3, .int (nI (c9 + 1))), (7, .int (T9 ((414 * th + 6 + 6 * row) + r))), (6, .int (T9 ((414 * he + 6 + 6 * row) + r))), (4, .int (nI row)), (0, .ref mo), (1, .int (nI he)), (2, .int (nI th))]) hx hb dX3_merges_176 hl (k := 4) rfl (gw_inc _) (by decide) rfl (fun ls hl => ?_)
                      refine lv_goto (tgt := 15) hx hb dX3_merges_179 (by decide) ?_
                      exact ih2 (r + 1) (by omega) (by omega) _ ⟨by rw [hs9]; exact ⟨p0_b, hc_105, hc_106, hc_107, hc_108, hc_109, hc_110, p0_ne⟩, fr_111⟩ _ _ hG ls (by rw [hs9]; exact lv_sub hl [0, 5, 2, 6, 7, 8] rfl)
                · refine lv_iload hx hb dX3_merges_80 (lv_at hl 1 rfl) ?_
                  refine lv_goto (tgt := 86) hx hb dX3_merges_82 (by decide) ?_
                  refine lv_istore (lv' := [(8, .int (T9 ((414 * he + 6 + 6 * row) + r))), (7, .int (T9 ((414 * th + 6 + 6 * row) + r))), (6, .int (T9 ((414 * he + 6 + 6 * row) + r))), (5, .int (nI r)), (4, .int (nI row)), (3, .int (nI c9)), (0, .ref mo), (1, .int (nI he)), (2, .int (nI th))]) hx hb dX3_merges_86 hl (by decide) rfl (fun ls hl => ?_)
                  refine lv_iload hx hb dX3_merges_88 (lv_at hl 1 rfl) ?_
                  refine lv_aload_n hx hb dX3_merges_90 rfl (lv_at hl 6 rfl) ?_
                  refine gw_get (ci := 4) (C := RX3) (T := TX3) (N := 8) hx hb hts hinX3 hown hK hG p_61_o rfl 3 (by decide) hf14 (fun _ h9 => h9) rfl dX3_merges_91 ?_
                  refine lv_iload_n hx hb dX3_merges_94 rfl (lv_at hl 7 rfl) ?_
                  refine lv_iload hx hb dX3_merges_95 (lv_at hl 3 rfl) ?_
                  refine gw_calli (va_runS (As := [.int (nI he), .int (nI r)]) (rest := [.ref (ad 0), .int (T9 ((414 * th + 6 + 6 * row) + r))]) ⟨hx, hb, hml, hown, hts⟩ (c_vectorAt l K Mj he r) (va_cwS 2 hts gX3_merges_X3_vectorAt rfl rfl rfl (by decide +kernel) ⟨Nat.le_of_ble_eq_true rfl, Nat.le_of_ble_eq_true rfl⟩) (gw_preS hG hT) rfl rfl hl.1 rfl (lv_room (Nat.le_of_ble_eq_true rfl)) dX3_merges_97 ⟨Nat.le_of_ble_eq_true rfl, Nat.le_of_ble_eq_true rfl⟩) hG (fun r_112 M_113 H locs hw hG => ?_)
                  rw [hw.1] at hG
                  refine gw_as hw.2 ?_
                  refine gw_iald_n hx hb hK hG p_61_0 0 rfl (by omega) (by omega) dX3_merges_100 ?_
                  refine lv_icmp_le hx hb (tgt := 160) dX3_merges_101 (by decide) (fun h2 => ?_) (fun h2 => ?_)
                  · refine lv_aload_n hx hb dX3_merges_160 rfl (lv_at hl 6 rfl) ?_
                    refine gw_get (ci := 4) (C := RX3) (T := TX3) (N := 8) hx hb hts hinX3 hown hK hG p_61_o rfl 3 (by decide) hf14 (fun _ h9 => h9) rfl dX3_merges_161 ?_
                    refine lv_iload_n hx hb dX3_merges_164 rfl (lv_at hl 7 rfl) ?_
                    refine lv_iload hx hb dX3_merges_165 (lv_at hl 4 rfl) ?_
                    refine gw_calli (va_runS (As := [.int (nI he), .int (nI row)]) (rest := [.ref (ad 0)]) ⟨hx, hb, hml, hown, hts⟩ (c_dots l K Mj he row) (va_cwS 2 hts gX3_merges_X3_dots rfl rfl rfl (by decide +kernel) ⟨Nat.le_of_ble_eq_true rfl, Nat.le_of_ble_eq_true rfl⟩) (gw_preS hG hT) rfl rfl hl.1 rfl (lv_room (Nat.le_of_ble_eq_true rfl)) dX3_merges_167 ⟨Nat.le_of_ble_eq_true rfl, Nat.le_of_ble_eq_true rfl⟩) hG (fun r_114 M_115 H locs hw hG => ?_)
                    rw [hw.1] at hG
                    refine gw_as hw.2 ?_
                    rw [if_neg hq, if_pos h2, if_neg h1] at hs9
                    refine lv_iload hx hb dX3_merges_170 (lv_at hl 3 rfl) ?_
                    refine gw_iadd hx hb dX3_merges_172 ?_
                    refine lv_iload hx hb dX3_merges_173 (lv_at hl 0 rfl) ?_
                    refine gw_iast_n hx hb hK hG p_61_0 0 rfl (by omega) (by omega) dX3_merges_175 (fun H locs hG => ?_)
                    obtain ⟨M_116, hM_117⟩ : ∃ M1 : gw_M, M1 = gw_up Mj (ad 0) (.inl (K.2.1 0, 43884, .inl (upd T9 ((414 * he + 6 + 6 * row) + r) (T9 ((414 * he + 6 + 6 * row) + r))))) := ⟨_, rfl⟩
                    have hG : gw_B K M_116 s.heap H locs := by rw [hM_117]; exact hG
                    have hc_118 := (congrFun hM_117 mo).trans (gw_k ne_o0 p_61_o)
                    have hc_119 : M_116 (ad 0) = some (.inl (K.2.1 0, 43884, .inl (upd T9 ((414 * he + 6 + 6 * row) + r) (T9 ((414 * he + 6 + 6 * row) + r))))) := (congrFun hM_117 _).trans gw_s
                    have hc_120 := (congrFun hM_117 (ad 1)).trans (gw_k (fun z => absurd (p0_ne 1 0 (by decide) (by decide) z) (by decide)) p_61_1)
                    have hc_121 := (congrFun hM_117 (ad 2)).trans (gw_k (fun z => absurd (p0_ne 2 0 (by decide) (by decide) z) (by decide)) p_61_2)
                    have hc_122 := (congrFun hM_117 (ad 3)).trans (gw_k (fun z => absurd (p0_ne 3 0 (by decide) (by decide) z) (by decide)) p_61_3)
                    have hc_123 := (congrFun hM_117 (ad 4)).trans (gw_k (fun z => absurd (p0_ne 4 0 (by decide) (by decide) z) (by decide)) p_61_4)
                    have fr_124 : mfr M M_116 mo ad := fun q h1 h2 => ((congrFun hM_117 q).trans (gw_n (h2 0 (by decide)))).trans (hfj q h1 h2)
                    refine lv_iinc (v := nI (r + 1)) (lv' := [(5, .int (nI (r + 1))), (8, .int (T9 ((414 * he + 6 + 6 * row) + r))), (7, .int (T9 ((414 * th + 6 + 6 * row) + r))), (6, .int (T9 ((414 * he + 6 + 6 * row) + r))), (4, .int (nI row)), (3, .int (nI c9)), (0, .ref mo), (1, .int (nI he)), (2, .int (nI th))]) hx hb dX3_merges_176 hl (k := 3) rfl (gw_inc _) (by decide) rfl (fun ls hl => ?_)
                    refine lv_goto (tgt := 15) hx hb dX3_merges_179 (by decide) ?_
                    exact ih2 (r + 1) (by omega) (by omega) _ ⟨by rw [hs9]; exact ⟨p0_b, hc_118, hc_119, hc_120, hc_121, hc_122, hc_123, p0_ne⟩, fr_124⟩ _ _ hG ls (by rw [hs9]; exact lv_sub hl [0, 4, 5, 6, 7, 8] rfl)
                  · refine lv_iinc (v := nI (c9 + 1)) (lv' := [(3, .int (nI (c9 + 1))), (8, .int (T9 ((414 * he + 6 + 6 * row) + r))), (7, .int (T9 ((414 * th + 6 + 6 * row) + r))), (6, .int (T9 ((414 * he + 6 + 6 * row) + r))), (5, .int (nI r)), (4, .int (nI row)), (0, .ref mo), (1, .int (nI he)), (2, .int (nI th))]) hx hb dX3_merges_104 hl (k := 5) rfl (gw_inc _) (by decide) rfl (fun ls hl => ?_)
                    refine lv_iload hx hb dX3_merges_107 (lv_at hl 2 rfl) ?_
                    refine lv_istore (lv' := [(8, .int (T9 ((414 * th + 6 + 6 * row) + r))), (3, .int (nI (c9 + 1))), (7, .int (T9 ((414 * th + 6 + 6 * row) + r))), (6, .int (T9 ((414 * he + 6 + 6 * row) + r))), (5, .int (nI r)), (4, .int (nI row)), (0, .ref mo), (1, .int (nI he)), (2, .int (nI th))]) hx hb dX3_merges_109 hl (by decide) rfl (fun ls hl => ?_)
                    refine lv_iload hx hb dX3_merges_111 (lv_at hl 5 rfl) ?_
                    refine lv_bipush (v := nI 63) hx hb dX3_merges_113 (by decide) ?_
                    refine gw_icmp_le hx hb (by omega) (by omega) (tgt := 160) dX3_merges_115 (by decide) (fun h3 => ?_) (fun h3 => ?_)
                    · refine lv_aload_n hx hb dX3_merges_160 rfl (lv_at hl 6 rfl) ?_
                      refine gw_get (ci := 4) (C := RX3) (T := TX3) (N := 8) hx hb hts hinX3 hown hK hG p_61_o rfl 3 (by decide) hf14 (fun _ h9 => h9) rfl dX3_merges_161 ?_
                      refine lv_iload_n hx hb dX3_merges_164 rfl (lv_at hl 7 rfl) ?_
                      refine lv_iload hx hb dX3_merges_165 (lv_at hl 5 rfl) ?_
                      refine gw_calli (va_runS (As := [.int (nI he), .int (nI row)]) (rest := [.ref (ad 0)]) ⟨hx, hb, hml, hown, hts⟩ (c_dots l K Mj he row) (va_cwS 2 hts gX3_merges_X3_dots rfl rfl rfl (by decide +kernel) ⟨Nat.le_of_ble_eq_true rfl, Nat.le_of_ble_eq_true rfl⟩) (gw_preS hG hT) rfl rfl hl.1 rfl (lv_room (Nat.le_of_ble_eq_true rfl)) dX3_merges_167 ⟨Nat.le_of_ble_eq_true rfl, Nat.le_of_ble_eq_true rfl⟩) hG (fun r_125 M_126 H locs hw hG => ?_)
                      rw [hw.1] at hG
                      refine gw_as hw.2 ?_
                      rw [if_neg hq, if_neg h2, if_pos h3] at hs9
                      refine lv_iload hx hb dX3_merges_170 (lv_at hl 4 rfl) ?_
                      refine gw_iadd hx hb dX3_merges_172 ?_
                      refine lv_iload hx hb dX3_merges_173 (lv_at hl 0 rfl) ?_
                      refine gw_iast_n hx hb hK hG p_61_0 0 rfl (by omega) (by omega) dX3_merges_175 (fun H locs hG => ?_)
                      obtain ⟨M_127, hM_128⟩ : ∃ M1 : gw_M, M1 = gw_up Mj (ad 0) (.inl (K.2.1 0, 43884, .inl (upd T9 ((414 * he + 6 + 6 * row) + r) (T9 ((414 * th + 6 + 6 * row) + r))))) := ⟨_, rfl⟩
                      have hG : gw_B K M_127 s.heap H locs := by rw [hM_128]; exact hG
                      have hc_129 := (congrFun hM_128 mo).trans (gw_k ne_o0 p_61_o)
                      have hc_130 : M_127 (ad 0) = some (.inl (K.2.1 0, 43884, .inl (upd T9 ((414 * he + 6 + 6 * row) + r) (T9 ((414 * th + 6 + 6 * row) + r))))) := (congrFun hM_128 _).trans gw_s
                      have hc_131 := (congrFun hM_128 (ad 1)).trans (gw_k (fun z => absurd (p0_ne 1 0 (by decide) (by decide) z) (by decide)) p_61_1)
                      have hc_132 := (congrFun hM_128 (ad 2)).trans (gw_k (fun z => absurd (p0_ne 2 0 (by decide) (by decide) z) (by decide)) p_61_2)
                      have hc_133 := (congrFun hM_128 (ad 3)).trans (gw_k (fun z => absurd (p0_ne 3 0 (by decide) (by decide) z) (by decide)) p_61_3)
                      have hc_134 := (congrFun hM_128 (ad 4)).trans (gw_k (fun z => absurd (p0_ne 4 0 (by decide) (by decide) z) (by decide)) p_61_4)
                      have fr_135 : mfr M M_127 mo ad := fun q h1 h2 => ((congrFun hM_128 q).trans (gw_n (h2 0 (by decide)))).trans (hfj q h1 h2)
                      refine lv_iinc (v := nI (r + 1)) (lv' := [(5, .int (nI (r + 1))), (8, .int (T9 ((414 * th + 6 + 6 * row) + r))), (3, .int (nI (c9 + 1))), (7, .int (T9 ((414 * th + 6 + 6 * row) + r))), (6, .int (T9 ((414 * he + 6 + 6 * row) + r))), (4, .int (nI row)), (0, .ref mo), (1, .int (nI he)), (2, .int (nI th))]) hx hb dX3_merges_176 hl (k := 4) rfl (gw_inc _) (by decide) rfl (fun ls hl => ?_)
                      refine lv_goto (tgt := 15) hx hb dX3_merges_179 (by decide) ?_
                      exact ih2 (r + 1) (by omega) (by omega) _ ⟨by rw [hs9]; exact ⟨p0_b, hc_129, hc_130, hc_131, hc_132, hc_133, hc_134, p0_ne⟩, fr_135⟩ _ _ hG ls (by rw [hs9]; exact lv_sub hl [0, 5, 2, 6, 7, 8] rfl)
                    · refine lv_aload_n hx hb dX3_merges_118 rfl (lv_at hl 6 rfl) ?_
                      refine gw_get (ci := 4) (C := RX3) (T := TX3) (N := 8) hx hb hts hinX3 hown hK hG p_61_o rfl 4 (by decide) hf18 (fun _ h9 => h9) rfl dX3_merges_119 ?_
                      refine lv_bipush (v := nI 24) hx hb dX3_merges_122 (by decide) ?_
                      refine lv_iload_n hx hb dX3_merges_124 rfl (lv_at hl 7 rfl) ?_
                      refine gw_imul hx hb dX3_merges_125 ?_
                      refine lv_bipush (v := nI 6) hx hb dX3_merges_126 (by decide) ?_
                      refine lv_iload hx hb dX3_merges_128 (lv_at hl 5 rfl) ?_
                      refine lv_bipush (v := nI 64) hx hb dX3_merges_130 (by decide) ?_
                      refine gw_isub hx hb (by omega) dX3_merges_132 ?_
                      refine gw_imul hx hb dX3_merges_133 ?_
                      refine gw_iadd hx hb dX3_merges_134 ?_
                      refine lv_iload hx hb dX3_merges_135 (lv_at hl 4 rfl) ?_
                      refine gw_iadd hx hb dX3_merges_137 ?_
                      refine lv_aload_n hx hb dX3_merges_138 rfl (lv_at hl 6 rfl) ?_
                      refine gw_get (ci := 4) (C := RX3) (T := TX3) (N := 8) hx hb hts hinX3 hown hK hG p_61_o rfl 4 (by decide) hf18 (fun _ h9 => h9) rfl dX3_merges_139 ?_
                      refine lv_bipush (v := nI 24) hx hb dX3_merges_142 (by decide) ?_
                      refine lv_iload_n hx hb dX3_merges_144 rfl (lv_at hl 8 rfl) ?_
                      refine gw_imul hx hb dX3_merges_145 ?_
                      refine lv_bipush (v := nI 6) hx hb dX3_merges_146 (by decide) ?_
                      refine lv_iload hx hb dX3_merges_148 (lv_at hl 5 rfl) ?_
                      refine lv_bipush (v := nI 64) hx hb dX3_merges_150 (by decide) ?_
                      refine gw_isub hx hb (by omega) dX3_merges_152 ?_
                      refine gw_imul hx hb dX3_merges_153 ?_
                      refine gw_iadd hx hb dX3_merges_154 ?_
                      refine lv_iload hx hb dX3_merges_155 (lv_at hl 4 rfl) ?_
                      refine gw_iadd hx hb dX3_merges_157 ?_
                      refine gw_iald_n hx hb hK hG p_61_1 0 rfl (by omega) (by omega) dX3_merges_158 ?_
                      refine gw_iast_n hx hb hK hG p_61_1 0 rfl (by omega) (by omega) dX3_merges_159 (fun H locs hG => ?_)
                      obtain ⟨M_136, hM_137⟩ : ∃ M1 : gw_M, M1 = gw_up Mj (ad 1) (.inl (K.2.1 0, 2544, .inl (upd V9 (((24 * he) + (6 * (row - 64))) + r) (V9 (((24 * th) + (6 * (row - 64))) + r))))) := ⟨_, rfl⟩
                      have hG : gw_B K M_136 s.heap H locs := by rw [hM_137]; exact hG
                      have hc_138 := (congrFun hM_137 mo).trans (gw_k ne_o1 p_61_o)
                      have hc_139 := (congrFun hM_137 (ad 0)).trans (gw_k (fun z => absurd (p0_ne 0 1 (by decide) (by decide) z) (by decide)) p_61_0)
                      have hc_140 : M_136 (ad 1) = some (.inl (K.2.1 0, 2544, .inl (upd V9 (((24 * he) + (6 * (row - 64))) + r) (V9 (((24 * th) + (6 * (row - 64))) + r))))) := (congrFun hM_137 _).trans gw_s
                      have hc_141 := (congrFun hM_137 (ad 2)).trans (gw_k (fun z => absurd (p0_ne 2 1 (by decide) (by decide) z) (by decide)) p_61_2)
                      have hc_142 := (congrFun hM_137 (ad 3)).trans (gw_k (fun z => absurd (p0_ne 3 1 (by decide) (by decide) z) (by decide)) p_61_3)
                      have hc_143 := (congrFun hM_137 (ad 4)).trans (gw_k (fun z => absurd (p0_ne 4 1 (by decide) (by decide) z) (by decide)) p_61_4)
                      have fr_144 : mfr M M_136 mo ad := fun q h1 h2 => ((congrFun hM_137 q).trans (gw_n (h2 1 (by decide)))).trans (hfj q h1 h2)
                      refine lv_aload_n hx hb dX3_merges_160 rfl (lv_at hl 6 rfl) ?_
                      refine gw_get (ci := 4) (C := RX3) (T := TX3) (N := 8) hx hb hts hinX3 hown hK hG hc_138 rfl 3 (by decide) hf14 (fun _ h9 => h9) rfl dX3_merges_161 ?_
                      refine lv_iload_n hx hb dX3_merges_164 rfl (lv_at hl 7 rfl) ?_
                      refine lv_iload hx hb dX3_merges_165 (lv_at hl 5 rfl) ?_
                      refine gw_calli (va_runS (As := [.int (nI he), .int (nI row)]) (rest := [.ref (ad 0)]) ⟨hx, hb, hml, hown, hts⟩ (c_dots l K M_136 he row) (va_cwS 2 hts gX3_merges_X3_dots rfl rfl rfl (by decide +kernel) ⟨Nat.le_of_ble_eq_true rfl, Nat.le_of_ble_eq_true rfl⟩) (gw_preS hG hT) rfl rfl hl.1 rfl (lv_room (Nat.le_of_ble_eq_true rfl)) dX3_merges_167 ⟨Nat.le_of_ble_eq_true rfl, Nat.le_of_ble_eq_true rfl⟩) hG (fun r_145 M_146 H locs hw hG => ?_)
                      rw [hw.1] at hG
                      refine gw_as hw.2 ?_
                      rw [if_neg hq, if_neg h2, if_neg (Nat.not_le.mpr h3)] at hs9
                      refine lv_iload hx hb dX3_merges_170 (lv_at hl 4 rfl) ?_
                      refine gw_iadd hx hb dX3_merges_172 ?_
                      refine lv_iload hx hb dX3_merges_173 (lv_at hl 0 rfl) ?_
                      refine gw_iast_n hx hb hK hG hc_139 0 rfl (by omega) (by omega) dX3_merges_175 (fun H locs hG => ?_)
                      obtain ⟨M_147, hM_148⟩ : ∃ M1 : gw_M, M1 = gw_up M_136 (ad 0) (.inl (K.2.1 0, 43884, .inl (upd T9 ((414 * he + 6 + 6 * row) + r) (T9 ((414 * th + 6 + 6 * row) + r))))) := ⟨_, rfl⟩
                      have hG : gw_B K M_147 s.heap H locs := by rw [hM_148]; exact hG
                      have hc_149 := (congrFun hM_148 mo).trans (gw_k ne_o0 hc_138)
                      have hc_150 : M_147 (ad 0) = some (.inl (K.2.1 0, 43884, .inl (upd T9 ((414 * he + 6 + 6 * row) + r) (T9 ((414 * th + 6 + 6 * row) + r))))) := (congrFun hM_148 _).trans gw_s
                      have hc_151 := (congrFun hM_148 (ad 1)).trans (gw_k (fun z => absurd (p0_ne 1 0 (by decide) (by decide) z) (by decide)) hc_140)
                      have hc_152 := (congrFun hM_148 (ad 2)).trans (gw_k (fun z => absurd (p0_ne 2 0 (by decide) (by decide) z) (by decide)) hc_141)
                      have hc_153 := (congrFun hM_148 (ad 3)).trans (gw_k (fun z => absurd (p0_ne 3 0 (by decide) (by decide) z) (by decide)) hc_142)
                      have hc_154 := (congrFun hM_148 (ad 4)).trans (gw_k (fun z => absurd (p0_ne 4 0 (by decide) (by decide) z) (by decide)) hc_143)
                      have fr_155 : mfr M M_147 mo ad := fun q h1 h2 => ((congrFun hM_148 q).trans (gw_n (h2 0 (by decide)))).trans (fr_144 q h1 h2)
                      refine lv_iinc (v := nI (r + 1)) (lv' := [(5, .int (nI (r + 1))), (8, .int (T9 ((414 * th + 6 + 6 * row) + r))), (3, .int (nI (c9 + 1))), (7, .int (T9 ((414 * th + 6 + 6 * row) + r))), (6, .int (T9 ((414 * he + 6 + 6 * row) + r))), (4, .int (nI row)), (0, .ref mo), (1, .int (nI he)), (2, .int (nI th))]) hx hb dX3_merges_176 hl (k := 4) rfl (gw_inc _) (by decide) rfl (fun ls hl => ?_)
                      refine lv_goto (tgt := 15) hx hb dX3_merges_179 (by decide) ?_
                      exact ih2 (r + 1) (by omega) (by omega) _ ⟨by rw [hs9]; exact ⟨p0_b, hc_149, hc_150, hc_151, hc_152, hc_153, hc_154, p0_ne⟩, fr_155⟩ _ _ hG ls (by rw [hs9]; exact lv_sub hl [0, 5, 2, 6, 7, 8] rfl)
              · rw [if_pos hq] at hs9
                refine lv_goto (tgt := 176) hx hb dX3_merges_61 (by decide) ?_
                refine lv_iinc (v := nI (r + 1)) (lv' := [(5, .int (nI (r + 1))), (7, .int (T9 ((414 * th + 6 + 6 * row) + r))), (6, .int (T9 ((414 * he + 6 + 6 * row) + r))), (4, .int (nI row)), (3, .int (nI c9)), (0, .ref mo), (1, .int (nI he)), (2, .int (nI th))]) hx hb dX3_merges_176 hl (k := 2) rfl (gw_inc _) (by decide) rfl (fun ls hl => ?_)
                refine lv_goto (tgt := 15) hx hb dX3_merges_179 (by decide) ?_
                exact ih2 (r + 1) (by omega) (by omega) _ ⟨by rw [hs9]; exact ⟨p0_b, p_61_o, p_61_0, p_61_1, p_61_2, p_61_3, p_61_4, p0_ne⟩, hfj⟩ _ _ hG ls (by rw [hs9]; exact lv_sub hl [0, 3, 4, 5, 6, 7] rfl)
        refine lv_iconst (v := nI 0) hx hb dX3_merges_12 (by decide) ?_
        refine lv_istore (lv' := [(5, .int (nI 0)), (4, .int (nI row)), (3, .int (nI ((F (row * 6)).2.2))), (0, .ref mo), (1, .int (nI he)), (2, .int (nI th))]) hx hb dX3_merges_13 hl (by decide) rfl (fun ls hl => ?_)
        exact hl0 7 0 (by omega) (by omega) _ (by rw [Nat.add_zero]; exact hMi) _ _ hG ls (by rw [Nat.add_zero]; exact lv_sub hl [0, 1, 2, 3, 4, 5] rfl)
  refine lv_iconst (v := nI 0) hx hb dX3_merges_0 (by decide) ?_
  refine lv_istore_n (lv' := [(3, .int (nI 0)), (0, .ref mo), (1, .int (nI he)), (2, .int (nI th))]) hx hb dX3_merges_1 rfl hl (by decide) rfl (fun ls hl => ?_)
  refine lv_iconst (v := nI 0) hx hb dX3_merges_2 (by decide) ?_
  refine lv_istore (lv' := [(4, .int (nI 0)), (3, .int (nI 0)), (0, .ref mo), (1, .int (nI he)), (2, .int (nI th))]) hx hb dX3_merges_3 hl (by decide) rfl (fun ls hl => ?_)
  exact hl1 69 0 (by omega) (by omega) _ ⟨by rw [Nat.zero_mul, hF0]; exact hm, mfr.rf⟩ _ _ hG ls (by rw [Nat.zero_mul, hF0]; exact lv_sub hl [0, 1, 2, 3, 4] rfl)

/-- all dots merged, the first i -/
def mmf (tb vb : Nat → Int32) (he th : Nat) : Nat → (Nat → Int32) × (Nat → Int32) × Nat
  | 0 => (tb, vb, 0)
  | i + 1 => mms he th (i / 6) (i % 6) (mmf tb vb he th i).1 (mmf tb vb he th i).2.1 (mmf tb vb he th i).2.2
theorem mmf_s (tb vb : Nat → Int32) (he th row r : Nat) (h : r < 6) : mmf tb vb he th (row * 6 + r + 1) = mms he th row r (mmf tb vb he th (row * 6 + r)).1 (mmf tb vb he th (row * 6 + r)).2.1 (mmf tb vb he th (row * 6 + r)).2.2 := by
  show mms he th ((row * 6 + r) / 6) ((row * 6 + r) % 6) _ _ _ = _
  rw [show (row * 6 + r) / 6 = row by omega, show (row * 6 + r) % 6 = r by omega]
