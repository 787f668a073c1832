theorem nI_ne2 {k : Nat} (h : k < 2 ^ 31) : nI k ≠ -2 := fun q => by
  have := nI_toInt h
  rw [q] at this
  have e : (-2 : Int32).toInt = -2 := by decide
  omega
theorem mgo_form (f : Nat → Int32) (b : Nat) (ii : Int32) : ∀ k, mgo f b ii k = -1 ∨ ∃ mk, mk < k ∧ mgo f b ii k = nI mk := by
  intro k
  induction k with
  | zero => exact Or.inl rfl
  | succ k ih =>
    by_cases h : mgo f b ii k = -1
    · show (if mgo f b ii k = -1 then _ else _) = -1 ∨ ∃ mk, mk < k + 1 ∧ (if mgo f b ii k = -1 then _ else _) = nI mk
      rw [if_pos h]
      split
      · exact Or.inl rfl
      · split
        · exact Or.inr ⟨k, by omega, rfl⟩
        · exact Or.inl rfl
    · obtain ⟨mk, h1, h2⟩ := ih.resolve_left h
      refine Or.inr ⟨mk, by omega, ?_⟩
      show (if mgo f b ii k = -1 then _ else _) = nI mk
      rw [if_neg h]
      exact h2
set_option maxHeartbeats 4000000 in
set_option maxRecDepth 100000 in
/-- m_gossip -/
theorem m_gossip (l : Launch) (K : gw_C) (M : gw_M) (mo : Nat) (ad : Nat → Nat) (cd : Int32) (nn kk : Nat) (tb vb : Nat → Int32) (sb : Nat → Int64) (fm tq : Nat → Int32) (ra rb : Nat)  (hm : md K M mo ad cd nn kk tb vb sb fm tq) (hra : ra < nn) (hrb : rb < nn) (hne : ra ≠ rb) (hk : kk < 100) : Met l yX3_gossip wsX3_gossip ({ frames := 6, cells := 0, slots := 0, locals := 160 } : Room) (va_Pc [.ref mo, .int (nI ra), .int (nI rb)] (gw_I K M)) (va_Qi (fun r M1 => r = nI (kk + 1) ∧ md K M1 mo ad (nI 0) nn (kk + 1) (mcp tb (414 * ra) (414 * (6 + kk)) 414) (mcp vb (24 * ra) (24 * (6 + kk)) 24) (mcp sb (48 * ra) (48 * (6 + kk)) 48) (upd fm kk (nI ra)) (upd tq kk (nI rb)) ∧ mfr M M1 mo ad) (gw_I K) (gw_A K)) 0 0 (gw_A K) := by
  refine Met.ofW (cc := cX3_gossip) (maxL := 3) (ret := (some .int)) (by decide) rfl ?_
  intro p e s m args below meth c s₁ B hml hv
  obtain ⟨hav, hI⟩ := hv
  have hx := B.exec
  have hb := B.bytes
  have hr := B.returns
  have hts := atoms_spec (ws := wsX3_gossip) B.pre
  have hown : s.vm.findClass RX3 = some m.cls := findClass_of_methodNamed B.named
  have hlocks : meth.locks = false := B.notSynchronized
  have hT := hI.2.2
  have hK := hT.K
  have hG := hI.B
  have hf7 := hts (.fieldLink RX3 7 "DotGossipModel" "replicas" "I") (by decide +kernel)
  have hf14 := hts (.fieldLink RX3 14 "DotGossipModel" "table" "[I") (by decide +kernel)
  have hf18 := hts (.fieldLink RX3 18 "DotGossipModel" "values" "[I") (by decide +kernel)
  have hf21 := hts (.fieldLink RX3 21 "DotGossipModel" "sums" "[J") (by decide +kernel)
  have hf25 := hts (.fieldLink RX3 25 "DotGossipModel" "from" "[I") (by decide +kernel)
  have hf28 := hts (.fieldLink RX3 28 "DotGossipModel" "to" "[I") (by decide +kernel)
  have hf31 := hts (.fieldLink RX3 31 "DotGossipModel" "code" "I") (by decide +kernel)
  have hf41 := hts (.fieldLink RX3 41 "DotGossipModel" "messages" "I") (by decide +kernel)
  have hinX3 : ∀ w ∈ wsX30, w ∈ wsX3_gossip := by decide +kernel
  have hE : entryFrame m args 3 = entryFrame m ([.ref mo, .int (nI ra), .int (nI rb)] : List Value).toArray 3 := by rw [hav]
  rw [hE]
  have hl := lv_entry ([.ref mo, .int (nI ra), .int (nI rb)]) (n := 3) (Nat.le_of_ble_eq_true rfl)
  rw [lg_entry_eq]
  generalize (lg_sl ([.ref mo, .int (nI ra), .int (nI rb)]) ++ List.replicate (3 - (lg_sl ([.ref mo, .int (nI ra), .int (nI rb)])).length) Slot.unset).toArray = ls at hl ⊢
  have hl : lv_has ls 3 [(0, .ref mo), (1, .int (nI ra)), (2, .int (nI rb))] := hl
  obtain ⟨p0_b, p0_o, p0_0, p0_1, p0_2, p0_3, p0_4, p0_ne⟩ := id hm
  have ne_o0 : mo ≠ ad 0 := gw_io p0_o p0_0
  have ne_o1 : mo ≠ ad 1 := gw_io p0_o p0_1
  have ne_o2 : mo ≠ ad 2 := gw_io p0_o p0_2
  have ne_o3 : mo ≠ ad 3 := gw_io p0_o p0_3
  have ne_o4 : mo ≠ ad 4 := gw_io p0_o p0_4
  have hn6 := p0_b.1
  refine lv_aload_n hx hb dX3_gossip_0 rfl (lv_at hl 0 rfl) ?_
  refine lv_aload_n hx hb dX3_gossip_1 rfl (lv_at hl 0 rfl) ?_
  refine lv_iload_n hx hb dX3_gossip_2 rfl (lv_at hl 1 rfl) ?_
  refine gw_calli (va_runV (As := [.int (nI ra)]) (rest := [.ref mo]) ⟨hx, hb, hml, hown, hts⟩ (c_isRep l K M mo ad _ _ _ _ _ _ _ _ (nI ra) hm) (cwV 1 hts gX3_gossip_X3_isReplica rfl rfl rfl (by decide +kernel) ⟨Nat.le_of_ble_eq_true rfl, Nat.le_of_ble_eq_true rfl⟩) (gw_preV hG hT p0_o rfl) rfl rfl hl.1 rfl (lv_room (Nat.le_of_ble_eq_true rfl)) dX3_gossip_3 ⟨Nat.le_of_ble_eq_true rfl, Nat.le_of_ble_eq_true rfl⟩) hG (fun r_275 M_276 H locs hw hG => ?_)
  rw [hw.1] at hG
  refine gw_as (tst_y hw.2 ⟨ra, hra, rfl⟩) ?_
  refine lv_if_eq hx hb (tgt := 22) dX3_gossip_6 (by decide) (fun hc => absurd hc (by decide)) (fun hc => ?_)
  refine lv_aload_n hx hb dX3_gossip_9 rfl (lv_at hl 0 rfl) ?_
  refine lv_iload_n hx hb dX3_gossip_10 rfl (lv_at hl 2 rfl) ?_
  refine gw_calli (va_runV (As := [.int (nI rb)]) (rest := [.ref mo]) ⟨hx, hb, hml, hown, hts⟩ (c_isRep l K M mo ad _ _ _ _ _ _ _ _ (nI rb) hm) (cwV 1 hts gX3_gossip_X3_isReplica rfl rfl rfl (by decide +kernel) ⟨Nat.le_of_ble_eq_true rfl, Nat.le_of_ble_eq_true rfl⟩) (gw_preV hG hT p0_o rfl) rfl rfl hl.1 rfl (lv_room (Nat.le_of_ble_eq_true rfl)) dX3_gossip_11 ⟨Nat.le_of_ble_eq_true rfl, Nat.le_of_ble_eq_true rfl⟩) hG (fun r_277 M_278 H locs hw hG => ?_)
  rw [hw.1] at hG
  refine gw_as (tst_y hw.2 ⟨rb, hrb, rfl⟩) ?_
  refine lv_if_eq hx hb (tgt := 22) dX3_gossip_14 (by decide) (fun hc => absurd hc (by decide)) (fun hc => ?_)
  refine lv_iload_n hx hb dX3_gossip_17 rfl (lv_at hl 1 rfl) ?_
  refine lv_iload_n hx hb dX3_gossip_18 rfl (lv_at hl 2 rfl) ?_
  refine gw_icmp_ne hx hb (by omega) (by omega) (tgt := 26) dX3_gossip_19 (by decide) (fun hc => ?_) (fun hc => absurd hc hne)
  refine lv_aload_n hx hb dX3_gossip_26 rfl (lv_at hl 0 rfl) ?_
  refine gw_get (ci := 4) (C := RX3) (T := TX3) (N := 8) hx hb hts hinX3 hown hK hG p0_o rfl 2 (by decide) hf41 (fun _ h9 => h9) rfl dX3_gossip_27 ?_
  refine lv_bipush (v := nI 100) hx hb dX3_gossip_30 (by decide) ?_
  refine gw_icmp_ne hx hb (by omega) (by omega) (tgt := 39) dX3_gossip_32 (by decide) (fun hc => ?_) (fun hc => absurd hc (by omega))
  refine lv_iconst (v := nI 0) hx hb dX3_gossip_39 (by decide) ?_
  refine gw_calli (va_runV (As := [.int (nI 0)]) (rest := []) ⟨hx, hb, hml, hown, hts⟩ (c_ref0 l K M mo ad _ _ _ _ _ _ _ _ 0 hm) (cwV 1 hts gX3_gossip_X3_refuses rfl rfl rfl (by decide +kernel) ⟨Nat.le_of_ble_eq_true rfl, Nat.le_of_ble_eq_true rfl⟩) (gw_preV hG hT p0_o rfl) rfl rfl hl.1 rfl (lv_room (Nat.le_of_ble_eq_true rfl)) dX3_gossip_40 ⟨Nat.le_of_ble_eq_true rfl, Nat.le_of_ble_eq_true rfl⟩) hG (fun r_279 M_280 H locs hw hG => ?_)
  rw [hw.1]
  obtain ⟨hm_281, fr_282⟩ := hw.2
  have fr_283 : mfr M M_280 mo ad := mfr.tr mfr.rf fr_282
  obtain ⟨p_284_b, p_284_o, p_284_0, p_284_1, p_284_2, p_284_3, p_284_4, p_284_ne⟩ := id hm_281
  refine lv_if_eq hx hb (tgt := 48) dX3_gossip_43 (by decide) (fun hc => ?_) (fun hc => absurd (by decide) hc)
  refine lv_aload_n hx hb dX3_gossip_48 rfl (lv_at hl 0 rfl) ?_
  refine lv_iload_n hx hb dX3_gossip_49 rfl (lv_at hl 1 rfl) ?_
  refine lv_bipush (v := nI 6) hx hb dX3_gossip_50 (by decide) ?_
  refine lv_aload_n hx hb dX3_gossip_52 rfl (lv_at hl 0 rfl) ?_
  refine gw_get (ci := 4) (C := RX3) (T := TX3) (N := 8) hx hb hts hinX3 hown hK hG p_284_o rfl 2 (by decide) hf41 (fun _ h9 => h9) rfl dX3_gossip_53 ?_
  refine gw_iadd hx hb dX3_gossip_56 ?_
  have hm_285 : md K M_280 mo ad (nI 0) nn kk tb vb sb fm tq := ⟨p0_b, p_284_o, p_284_0, p_284_1, p_284_2, p_284_3, p_284_4, p0_ne⟩
  refine gw_callv (va_runV (As := [.int (nI ra), .int (nI (6 + kk))]) (rest := []) ⟨hx, hb, hml, hown, hts⟩ (c_copies l K M_280 mo ad _ _ _ _ _ _ _ _ ra (6 + kk) hm_285 (by omega) (by omega) (by omega)) (cwV 2 hts gX3_gossip_X3_copies rfl rfl rfl (by decide +kernel) ⟨Nat.le_of_ble_eq_true rfl, Nat.le_of_ble_eq_true rfl⟩) (gw_preV hG hT p_284_o rfl) rfl rfl hl.1 rfl (lv_room (Nat.le_of_ble_eq_true rfl)) dX3_gossip_57 ⟨Nat.le_of_ble_eq_true rfl, Nat.le_of_ble_eq_true rfl⟩) hG (fun M_287 H locs hw hG => ?_)
  obtain ⟨hm_288, fr_289⟩ := hw
  have fr_290 : mfr M M_287 mo ad := mfr.tr fr_283 fr_289
  obtain ⟨p_291_b, p_291_o, p_291_0, p_291_1, p_291_2, p_291_3, p_291_4, p_291_ne⟩ := id hm_288
  refine lv_aload_n hx hb dX3_gossip_60 rfl (lv_at hl 0 rfl) ?_
  refine gw_get (ci := 4) (C := RX3) (T := TX3) (N := 8) hx hb hts hinX3 hown hK hG p_291_o rfl 6 (by decide) hf25 (fun _ h9 => h9) rfl dX3_gossip_61 ?_
  refine lv_aload_n hx hb dX3_gossip_64 rfl (lv_at hl 0 rfl) ?_
  refine gw_get (ci := 4) (C := RX3) (T := TX3) (N := 8) hx hb hts hinX3 hown hK hG p_291_o rfl 2 (by decide) hf41 (fun _ h9 => h9) rfl dX3_gossip_65 ?_
  refine lv_iload_n hx hb dX3_gossip_68 rfl (lv_at hl 1 rfl) ?_
  refine gw_iast_n hx hb hK hG p_291_3 0 rfl (by omega) (by omega) dX3_gossip_69 (fun H locs hG => ?_)
  obtain ⟨M_292, hM_293⟩ : ∃ M1 : gw_M, M1 = gw_up M_287 (ad 3) (.inl (K.2.1 0, 100, .inl (upd fm kk (nI ra)))) := ⟨_, rfl⟩
  have hG : gw_B K M_292 s.heap H locs := by rw [hM_293]; exact hG
  have hc_294 := (congrFun hM_293 mo).trans (gw_k ne_o3 p_291_o)
  have hc_295 := (congrFun hM_293 (ad 0)).trans (gw_k (fun z => absurd (p0_ne 0 3 (by decide) (by decide) z) (by decide)) p_291_0)
  have hc_296 := (congrFun hM_293 (ad 1)).trans (gw_k (fun z => absurd (p0_ne 1 3 (by decide) (by decide) z) (by decide)) p_291_1)
  have hc_297 := (congrFun hM_293 (ad 2)).trans (gw_k (fun z => absurd (p0_ne 2 3 (by decide) (by decide) z) (by decide)) p_291_2)
  have hc_298 : M_292 (ad 3) = some (.inl (K.2.1 0, 100, .inl (upd fm kk (nI ra)))) := (congrFun hM_293 _).trans gw_s
  have hc_299 := (congrFun hM_293 (ad 4)).trans (gw_k (fun z => absurd (p0_ne 4 3 (by decide) (by decide) z) (by decide)) p_291_4)
  have fr_300 : mfr M M_292 mo ad := fun q h1 h2 => ((congrFun hM_293 q).trans (gw_n (h2 3 (by decide)))).trans (fr_290 q h1 h2)
  refine lv_aload_n hx hb dX3_gossip_70 rfl (lv_at hl 0 rfl) ?_
  refine gw_get (ci := 4) (C := RX3) (T := TX3) (N := 8) hx hb hts hinX3 hown hK hG hc_294 rfl 7 (by decide) hf28 (fun _ h9 => h9) rfl dX3_gossip_71 ?_
  refine lv_aload_n hx hb dX3_gossip_74 rfl (lv_at hl 0 rfl) ?_
  refine gw_get (ci := 4) (C := RX3) (T := TX3) (N := 8) hx hb hts hinX3 hown hK hG hc_294 rfl 2 (by decide) hf41 (fun _ h9 => h9) rfl dX3_gossip_75 ?_
  refine lv_iload_n hx hb dX3_gossip_78 rfl (lv_at hl 2 rfl) ?_
  refine gw_iast_n hx hb hK hG hc_299 0 rfl (by omega) (by omega) dX3_gossip_79 (fun H locs hG => ?_)
  obtain ⟨M_301, hM_302⟩ : ∃ M1 : gw_M, M1 = gw_up M_292 (ad 4) (.inl (K.2.1 0, 100, .inl (upd tq kk (nI rb)))) := ⟨_, rfl⟩
  have hG : gw_B K M_301 s.heap H locs := by rw [hM_302]; exact hG
  have hc_303 := (congrFun hM_302 mo).trans (gw_k ne_o4 hc_294)
  have hc_304 := (congrFun hM_302 (ad 0)).trans (gw_k (fun z => absurd (p0_ne 0 4 (by decide) (by decide) z) (by decide)) hc_295)
  have hc_305 := (congrFun hM_302 (ad 1)).trans (gw_k (fun z => absurd (p0_ne 1 4 (by decide) (by decide) z) (by decide)) hc_296)
  have hc_306 := (congrFun hM_302 (ad 2)).trans (gw_k (fun z => absurd (p0_ne 2 4 (by decide) (by decide) z) (by decide)) hc_297)
  have hc_307 := (congrFun hM_302 (ad 3)).trans (gw_k (fun z => absurd (p0_ne 3 4 (by decide) (by decide) z) (by decide)) hc_298)
  have hc_308 : M_301 (ad 4) = some (.inl (K.2.1 0, 100, .inl (upd tq kk (nI rb)))) := (congrFun hM_302 _).trans gw_s
  have fr_309 : mfr M M_301 mo ad := fun q h1 h2 => ((congrFun hM_302 q).trans (gw_n (h2 4 (by decide)))).trans (fr_300 q h1 h2)
  refine lv_aload_n hx hb dX3_gossip_80 rfl (lv_at hl 0 rfl) ?_
  refine lv_dup hx hb dX3_gossip_81 rfl ?_
  refine gw_get (ci := 4) (C := RX3) (T := TX3) (N := 8) hx hb hts hinX3 hown hK hG hc_303 rfl 2 (by decide) hf41 (fun _ h9 => h9) rfl dX3_gossip_82 ?_
  refine lv_iconst (v := nI 1) hx hb dX3_gossip_85 (by decide) ?_
  refine gw_iadd hx hb dX3_gossip_86 ?_
  refine gw_put (ci := 4) (v := .int (nI (kk + 1))) (ty := .int) (C := RX3) (T := TX3) (N := 8) hx hb hts hinX3 tyX3 tyX3_ok nmX3 hown hK hG hc_303 rfl 2 (by decide) hf41 (fun _ h9 => h9) rfl (by decide +kernel) rfl rfl (Nat.le_of_ble_eq_true rfl) dX3_gossip_87 (fun H locs hG => ?_)
  obtain ⟨M_310, hM_311⟩ : ∃ M1 : gw_M, M1 = gw_up M_301 mo (.inr (4, [.int (nI 0), .int (nI nn), .int (nI (kk + 1)), .ref (ad 0), .ref (ad 1), .ref (ad 2), .ref (ad 3), .ref (ad 4)])) := ⟨_, rfl⟩
  have hG : gw_B K M_310 s.heap H locs := by rw [hM_311]; exact hG
  have hc_312 : M_310 mo = some (.inr (4, [.int (nI 0), .int (nI nn), .int (nI (kk + 1)), .ref (ad 0), .ref (ad 1), .ref (ad 2), .ref (ad 3), .ref (ad 4)])) := (congrFun hM_311 _).trans gw_s
  have hc_313 := (congrFun hM_311 (ad 0)).trans (gw_k (Ne.symm ne_o0) hc_304)
  have hc_314 := (congrFun hM_311 (ad 1)).trans (gw_k (Ne.symm ne_o1) hc_305)
  have hc_315 := (congrFun hM_311 (ad 2)).trans (gw_k (Ne.symm ne_o2) hc_306)
  have hc_316 := (congrFun hM_311 (ad 3)).trans (gw_k (Ne.symm ne_o3) hc_307)
  have hc_317 := (congrFun hM_311 (ad 4)).trans (gw_k (Ne.symm ne_o4) hc_308)
  have fr_318 : mfr M M_310 mo ad := fun q h1 h2 => ((congrFun hM_311 q).trans (gw_n h1)).trans (fr_309 q h1 h2)
  refine lv_aload_n hx hb dX3_gossip_90 rfl (lv_at hl 0 rfl) ?_
  refine gw_get (ci := 4) (C := RX3) (T := TX3) (N := 8) hx hb hts hinX3 hown hK hG hc_312 rfl 2 (by decide) hf41 (fun _ h9 => h9) rfl dX3_gossip_91 ?_
  exact gw_iret hx hb hr hlocks hG hT (by omega) (by omega) dX3_gossip_94 ⟨rfl, ⟨⟨p0_b.1, by omega⟩, hc_312, hc_313, hc_314, hc_315, hc_316, hc_317, p0_ne⟩, fr_318⟩

set_option maxHeartbeats 4000000 in
set_option maxRecDepth 100000 in
/-- m_gossip_full -/
theorem m_gossip_full (l : Launch) (K : gw_C) (M : gw_M) (mo : Nat) (ad : Nat → Nat) (cd : Int32) (nn kk : Nat) (tb vb : Nat → Int32) (sb : Nat → Int64) (fm tq : Nat → Int32) (ra rb : Nat)  (hm : md K M mo ad cd nn kk tb vb sb fm tq) (hra : ra < nn) (hrb : rb < nn) (hne : ra ≠ rb) (hk : kk = 100) : Met l yX3_gossip wsX3_gossip ({ frames := 6, cells := 0, slots := 0, locals := 160 } : Room) (va_Pc [.ref mo, .int (nI ra), .int (nI rb)] (gw_I K M)) (va_Qi (fun r M1 => md K M1 mo ad (nI 2) nn kk tb vb sb fm tq ∧ mfr M M1 mo ad) (gw_I K) (gw_A K)) 0 0 (gw_A K) := by
  refine Met.ofW (cc := cX3_gossip) (maxL := 3) (ret := (some .int)) (by decide) rfl ?_
  intro p e s m args below meth c s₁ B hml hv
  obtain ⟨hav, hI⟩ := hv
  have hx := B.exec
  have hb := B.bytes
  have hr := B.returns
  have hts := atoms_spec (ws := wsX3_gossip) B.pre
  have hown : s.vm.findClass RX3 = some m.cls := findClass_of_methodNamed B.named
  have hlocks : meth.locks = false := B.notSynchronized
  have hT := hI.2.2
  have hK := hT.K
  have hG := hI.B
  have hf7 := hts (.fieldLink RX3 7 "DotGossipModel" "replicas" "I") (by decide +kernel)
  have hf14 := hts (.fieldLink RX3 14 "DotGossipModel" "table" "[I") (by decide +kernel)
  have hf18 := hts (.fieldLink RX3 18 "DotGossipModel" "values" "[I") (by decide +kernel)
  have hf21 := hts (.fieldLink RX3 21 "DotGossipModel" "sums" "[J") (by decide +kernel)
  have hf25 := hts (.fieldLink RX3 25 "DotGossipModel" "from" "[I") (by decide +kernel)
  have hf28 := hts (.fieldLink RX3 28 "DotGossipModel" "to" "[I") (by decide +kernel)
  have hf31 := hts (.fieldLink RX3 31 "DotGossipModel" "code" "I") (by decide +kernel)
  have hf41 := hts (.fieldLink RX3 41 "DotGossipModel" "messages" "I") (by decide +kernel)
  have hinX3 : ∀ w ∈ wsX30, w ∈ wsX3_gossip := by decide +kernel
  have hE : entryFrame m args 3 = entryFrame m ([.ref mo, .int (nI ra), .int (nI rb)] : List Value).toArray 3 := by rw [hav]
  rw [hE]
  have hl := lv_entry ([.ref mo, .int (nI ra), .int (nI rb)]) (n := 3) (Nat.le_of_ble_eq_true rfl)
  rw [lg_entry_eq]
  generalize (lg_sl ([.ref mo, .int (nI ra), .int (nI rb)]) ++ List.replicate (3 - (lg_sl ([.ref mo, .int (nI ra), .int (nI rb)])).length) Slot.unset).toArray = ls at hl ⊢
  have hl : lv_has ls 3 [(0, .ref mo), (1, .int (nI ra)), (2, .int (nI rb))] := hl
  obtain ⟨p0_b, p0_o, p0_0, p0_1, p0_2, p0_3, p0_4, p0_ne⟩ := id hm
  have ne_o0 : mo ≠ ad 0 := gw_io p0_o p0_0
  have ne_o1 : mo ≠ ad 1 := gw_io p0_o p0_1
  have ne_o2 : mo ≠ ad 2 := gw_io p0_o p0_2
  have ne_o3 : mo ≠ ad 3 := gw_io p0_o p0_3
  have ne_o4 : mo ≠ ad 4 := gw_io p0_o p0_4
  have hn6 := p0_b.1
  refine lv_aload_n hx hb dX3_gossip_0 rfl (lv_at hl 0 rfl) ?_
  refine lv_aload_n hx hb dX3_gossip_1 rfl (lv_at hl 0 rfl) ?_
  refine lv_iload_n hx hb dX3_gossip_2 rfl (lv_at hl 1 rfl) ?_
  refine gw_calli (va_runV (As := [.int (nI ra)]) (rest := [.ref mo]) ⟨hx, hb, hml, hown, hts⟩ (c_isRep l K M mo ad _ _ _ _ _ _ _ _ (nI ra) hm) (cwV 1 hts gX3_gossip_X3_isReplica rfl rfl rfl (by decide +kernel) ⟨Nat.le_of_ble_eq_true rfl, Nat.le_of_ble_eq_true rfl⟩) (gw_preV hG hT p0_o rfl) rfl rfl hl.1 rfl (lv_room (Nat.le_of_ble_eq_true rfl)) dX3_gossip_3 ⟨Nat.le_of_ble_eq_true rfl, Nat.le_of_ble_eq_true rfl⟩) hG (fun r_319 M_320 H locs hw hG => ?_)
  rw [hw.1] at hG
  refine gw_as (tst_y hw.2 ⟨ra, hra, rfl⟩) ?_
  refine lv_if_eq hx hb (tgt := 22) dX3_gossip_6 (by decide) (fun hc => absurd hc (by decide)) (fun hc => ?_)
  refine lv_aload_n hx hb dX3_gossip_9 rfl (lv_at hl 0 rfl) ?_
  refine lv_iload_n hx hb dX3_gossip_10 rfl (lv_at hl 2 rfl) ?_
  refine gw_calli (va_runV (As := [.int (nI rb)]) (rest := [.ref mo]) ⟨hx, hb, hml, hown, hts⟩ (c_isRep l K M mo ad _ _ _ _ _ _ _ _ (nI rb) hm) (cwV 1 hts gX3_gossip_X3_isReplica rfl rfl rfl (by decide +kernel) ⟨Nat.le_of_ble_eq_true rfl, Nat.le_of_ble_eq_true rfl⟩) (gw_preV hG hT p0_o rfl) rfl rfl hl.1 rfl (lv_room (Nat.le_of_ble_eq_true rfl)) dX3_gossip_11 ⟨Nat.le_of_ble_eq_true rfl, Nat.le_of_ble_eq_true rfl⟩) hG (fun r_321 M_322 H locs hw hG => ?_)
  rw [hw.1] at hG
  refine gw_as (tst_y hw.2 ⟨rb, hrb, rfl⟩) ?_
  refine lv_if_eq hx hb (tgt := 22) dX3_gossip_14 (by decide) (fun hc => absurd hc (by decide)) (fun hc => ?_)
  refine lv_iload_n hx hb dX3_gossip_17 rfl (lv_at hl 1 rfl) ?_
  refine lv_iload_n hx hb dX3_gossip_18 rfl (lv_at hl 2 rfl) ?_
  refine gw_icmp_ne hx hb (by omega) (by omega) (tgt := 26) dX3_gossip_19 (by decide) (fun hc => ?_) (fun hc => absurd hc hne)
  refine lv_aload_n hx hb dX3_gossip_26 rfl (lv_at hl 0 rfl) ?_
  refine gw_get (ci := 4) (C := RX3) (T := TX3) (N := 8) hx hb hts hinX3 hown hK hG p0_o rfl 2 (by decide) hf41 (fun _ h9 => h9) rfl dX3_gossip_27 ?_
  refine lv_bipush (v := nI 100) hx hb dX3_gossip_30 (by decide) ?_
  refine gw_icmp_ne hx hb (by omega) (by omega) (tgt := 39) dX3_gossip_32 (by decide) (fun hc => absurd hk hc) (fun hc => ?_)
  refine lv_iconst (v := nI 2) hx hb dX3_gossip_35 (by decide) ?_
  refine lv_goto (tgt := 40) hx hb dX3_gossip_36 (by decide) ?_
  refine gw_calli (va_runV (As := [.int (nI 2)]) (rest := []) ⟨hx, hb, hml, hown, hts⟩ (c_refp l K M mo ad _ _ _ _ _ _ _ _ 2 hm (by decide)) (cwV 1 hts gX3_gossip_X3_refuses rfl rfl rfl (by decide +kernel) ⟨Nat.le_of_ble_eq_true rfl, Nat.le_of_ble_eq_true rfl⟩) (gw_preV hG hT p0_o rfl) rfl rfl hl.1 rfl (lv_room (Nat.le_of_ble_eq_true rfl)) dX3_gossip_40 ⟨Nat.le_of_ble_eq_true rfl, Nat.le_of_ble_eq_true rfl⟩) hG (fun r_323 M_324 H locs hw hG => ?_)
  rw [hw.1]
  obtain ⟨hm_325, fr_326⟩ := hw.2
  have fr_327 : mfr M M_324 mo ad := mfr.tr mfr.rf fr_326
  obtain ⟨p_328_b, p_328_o, p_328_0, p_328_1, p_328_2, p_328_3, p_328_4, p_328_ne⟩ := id hm_325
  refine lv_if_eq hx hb (tgt := 48) dX3_gossip_43 (by decide) (fun hc => absurd hc (by decide)) (fun hc => ?_)
  refine lv_iconst (v := nI 0) hx hb dX3_gossip_46 (by decide) ?_
  exact gw_iret hx hb hr hlocks hG hT (by omega) (by omega) dX3_gossip_47 ⟨⟨p0_b, p_328_o, p_328_0, p_328_1, p_328_2, p_328_3, p_328_4, p0_ne⟩, fr_327⟩

set_option maxHeartbeats 4000000 in
set_option maxRecDepth 100000 in
/-- m_gossip_no -/
theorem m_gossip_no (l : Launch) (K : gw_C) (M : gw_M) (mo : Nat) (ad : Nat → Nat) (cd : Int32) (nn kk : Nat) (tb vb : Nat → Int32) (sb : Nat → Int64) (fm tq : Nat → Int32) (a9 b9 : Int32)  (hm : md K M mo ad cd nn kk tb vb sb fm tq) (hP : ¬ (inN a9 nn ∧ inN b9 nn ∧ a9 ≠ b9)) : Met l yX3_gossip wsX3_gossip ({ frames := 6, cells := 0, slots := 0, locals := 160 } : Room) (va_Pc [.ref mo, .int a9, .int b9] (gw_I K M)) (va_Qi (fun r M1 => md K M1 mo ad (nI 1) nn kk tb vb sb fm tq ∧ mfr M M1 mo ad) (gw_I K) (gw_A K)) 0 0 (gw_A K) := by
  refine Met.ofW (cc := cX3_gossip) (maxL := 3) (ret := (some .int)) (by decide) rfl ?_
  intro p e s m args below meth c s₁ B hml hv
  obtain ⟨hav, hI⟩ := hv
  have hx := B.exec
  have hb := B.bytes
  have hr := B.returns
  have hts := atoms_spec (ws := wsX3_gossip) B.pre
  have hown : s.vm.findClass RX3 = some m.cls := findClass_of_methodNamed B.named
  have hlocks : meth.locks = false := B.notSynchronized
  have hT := hI.2.2
  have hK := hT.K
  have hG := hI.B
  have hf7 := hts (.fieldLink RX3 7 "DotGossipModel" "replicas" "I") (by decide +kernel)
  have hf14 := hts (.fieldLink RX3 14 "DotGossipModel" "table" "[I") (by decide +kernel)
  have hf18 := hts (.fieldLink RX3 18 "DotGossipModel" "values" "[I") (by decide +kernel)
  have hf21 := hts (.fieldLink RX3 21 "DotGossipModel" "sums" "[J") (by decide +kernel)
  have hf25 := hts (.fieldLink RX3 25 "DotGossipModel" "from" "[I") (by decide +kernel)
  have hf28 := hts (.fieldLink RX3 28 "DotGossipModel" "to" "[I") (by decide +kernel)
  have hf31 := hts (.fieldLink RX3 31 "DotGossipModel" "code" "I") (by decide +kernel)
  have hf41 := hts (.fieldLink RX3 41 "DotGossipModel" "messages" "I") (by decide +kernel)
  have hinX3 : ∀ w ∈ wsX30, w ∈ wsX3_gossip := by decide +kernel
  have hE : entryFrame m args 3 = entryFrame m ([.ref mo, .int a9, .int b9] : List Value).toArray 3 := by rw [hav]
  rw [hE]
  have hl := lv_entry ([.ref mo, .int a9, .int b9]) (n := 3) (Nat.le_of_ble_eq_true rfl)
  rw [lg_entry_eq]
  generalize (lg_sl ([.ref mo, .int a9, .int b9]) ++ List.replicate (3 - (lg_sl ([.ref mo, .int a9, .int b9])).length) Slot.unset).toArray = ls at hl ⊢
  have hl : lv_has ls 3 [(0, .ref mo), (1, .int a9), (2, .int b9)] := hl
  obtain ⟨p0_b, p0_o, p0_0, p0_1, p0_2, p0_3, p0_4, p0_ne⟩ := id hm
  have ne_o0 : mo ≠ ad 0 := gw_io p0_o p0_0
  have ne_o1 : mo ≠ ad 1 := gw_io p0_o p0_1
  have ne_o2 : mo ≠ ad 2 := gw_io p0_o p0_2
  have ne_o3 : mo ≠ ad 3 := gw_io p0_o p0_3
  have ne_o4 : mo ≠ ad 4 := gw_io p0_o p0_4
  refine lv_aload_n hx hb dX3_gossip_0 rfl (lv_at hl 0 rfl) ?_
  refine lv_aload_n hx hb dX3_gossip_1 rfl (lv_at hl 0 rfl) ?_
  refine lv_iload_n hx hb dX3_gossip_2 rfl (lv_at hl 1 rfl) ?_
  refine gw_calli (va_runV (As := [.int a9]) (rest := [.ref mo]) ⟨hx, hb, hml, hown, hts⟩ (c_isRep l K M mo ad _ _ _ _ _ _ _ _ a9 hm) (cwV 1 hts gX3_gossip_X3_isReplica rfl rfl rfl (by decide +kernel) ⟨Nat.le_of_ble_eq_true rfl, Nat.le_of_ble_eq_true rfl⟩) (gw_preV hG hT p0_o rfl) rfl rfl hl.1 rfl (lv_room (Nat.le_of_ble_eq_true rfl)) dX3_gossip_3 ⟨Nat.le_of_ble_eq_true rfl, Nat.le_of_ble_eq_true rfl⟩) hG (fun r_329 M_330 H locs hw hG => ?_)
  have h1 := hw.2
  rw [hw.1] at hG
  refine lv_if_eq hx hb (tgt := 22) dX3_gossip_6 (by decide) (fun hz1 => ?_) (fun hz1 => ?_)
  · refine lv_iconst (v := nI 1) hx hb dX3_gossip_22 (by decide) ?_
    refine lv_goto (tgt := 40) hx hb dX3_gossip_23 (by decide) ?_
    refine gw_calli (va_runV (As := [.int (nI 1)]) (rest := []) ⟨hx, hb, hml, hown, hts⟩ (c_refp l K M mo ad _ _ _ _ _ _ _ _ 1 hm (by decide)) (cwV 1 hts gX3_gossip_X3_refuses rfl rfl rfl (by decide +kernel) ⟨Nat.le_of_ble_eq_true rfl, Nat.le_of_ble_eq_true rfl⟩) (gw_preV hG hT p0_o rfl) rfl rfl hl.1 rfl (lv_room (Nat.le_of_ble_eq_true rfl)) dX3_gossip_40 ⟨Nat.le_of_ble_eq_true rfl, Nat.le_of_ble_eq_true rfl⟩) hG (fun r_331 M_332 H locs hw hG => ?_)
    rw [hw.1]
    obtain ⟨hm_333, fr_334⟩ := hw.2
    have fr_335 : mfr M M_332 mo ad := mfr.tr mfr.rf fr_334
    obtain ⟨p_336_b, p_336_o, p_336_0, p_336_1, p_336_2, p_336_3, p_336_4, p_336_ne⟩ := id hm_333
    refine lv_if_eq hx hb (tgt := 48) dX3_gossip_43 (by decide) (fun hc => absurd hc (by decide)) (fun hc => ?_)
    refine lv_iconst (v := nI 0) hx hb dX3_gossip_46 (by decide) ?_
    exact gw_iret hx hb hr hlocks hG hT (by omega) (by omega) dX3_gossip_47 ⟨⟨p0_b, p_336_o, p_336_0, p_336_1, p_336_2, p_336_3, p_336_4, p0_ne⟩, fr_335⟩
  · refine lv_aload_n hx hb dX3_gossip_9 rfl (lv_at hl 0 rfl) ?_
    refine lv_iload_n hx hb dX3_gossip_10 rfl (lv_at hl 2 rfl) ?_
    refine gw_calli (va_runV (As := [.int b9]) (rest := [.ref mo]) ⟨hx, hb, hml, hown, hts⟩ (c_isRep l K M mo ad _ _ _ _ _ _ _ _ b9 hm) (cwV 1 hts gX3_gossip_X3_isReplica rfl rfl rfl (by decide +kernel) ⟨Nat.le_of_ble_eq_true rfl, Nat.le_of_ble_eq_true rfl⟩) (gw_preV hG hT p0_o rfl) rfl rfl hl.1 rfl (lv_room (Nat.le_of_ble_eq_true rfl)) dX3_gossip_11 ⟨Nat.le_of_ble_eq_true rfl, Nat.le_of_ble_eq_true rfl⟩) hG (fun r_337 M_338 H locs hw hG => ?_)
    have h2 := hw.2
    rw [hw.1] at hG
    refine lv_if_eq hx hb (tgt := 22) dX3_gossip_14 (by decide) (fun hz2 => ?_) (fun hz2 => ?_)
    · refine lv_iconst (v := nI 1) hx hb dX3_gossip_22 (by decide) ?_
      refine lv_goto (tgt := 40) hx hb dX3_gossip_23 (by decide) ?_
      refine gw_calli (va_runV (As := [.int (nI 1)]) (rest := []) ⟨hx, hb, hml, hown, hts⟩ (c_refp l K M mo ad _ _ _ _ _ _ _ _ 1 hm (by decide)) (cwV 1 hts gX3_gossip_X3_refuses rfl rfl rfl (by decide +kernel) ⟨Nat.le_of_ble_eq_true rfl, Nat.le_of_ble_eq_true rfl⟩) (gw_preV hG hT p0_o rfl) rfl rfl hl.1 rfl (lv_room (Nat.le_of_ble_eq_true rfl)) dX3_gossip_40 ⟨Nat.le_of_ble_eq_true rfl, Nat.le_of_ble_eq_true rfl⟩) hG (fun r_339 M_340 H locs hw hG => ?_)
      rw [hw.1]
      obtain ⟨hm_341, fr_342⟩ := hw.2
      have fr_343 : mfr M M_340 mo ad := mfr.tr mfr.rf fr_342
      obtain ⟨p_344_b, p_344_o, p_344_0, p_344_1, p_344_2, p_344_3, p_344_4, p_344_ne⟩ := id hm_341
      refine lv_if_eq hx hb (tgt := 48) dX3_gossip_43 (by decide) (fun hc => absurd hc (by decide)) (fun hc => ?_)
      refine lv_iconst (v := nI 0) hx hb dX3_gossip_46 (by decide) ?_
      exact gw_iret hx hb hr hlocks hG hT (by omega) (by omega) dX3_gossip_47 ⟨⟨p0_b, p_344_o, p_344_0, p_344_1, p_344_2, p_344_3, p_344_4, p0_ne⟩, fr_343⟩
    · refine lv_iload_n hx hb dX3_gossip_17 rfl (lv_at hl 1 rfl) ?_
      refine lv_iload_n hx hb dX3_gossip_18 rfl (lv_at hl 2 rfl) ?_
      refine lv_icmp_ne hx hb (tgt := 26) dX3_gossip_19 (by decide) (fun h3 => ?_) (fun h3 => ?_)
      · exact absurd ⟨tst_o h1 hz1, tst_o h2 hz2, h3⟩ hP
      · refine lv_iconst (v := nI 1) hx hb dX3_gossip_22 (by decide) ?_
        refine lv_goto (tgt := 40) hx hb dX3_gossip_23 (by decide) ?_
        refine gw_calli (va_runV (As := [.int (nI 1)]) (rest := []) ⟨hx, hb, hml, hown, hts⟩ (c_refp l K M mo ad _ _ _ _ _ _ _ _ 1 hm (by decide)) (cwV 1 hts gX3_gossip_X3_refuses rfl rfl rfl (by decide +kernel) ⟨Nat.le_of_ble_eq_true rfl, Nat.le_of_ble_eq_true rfl⟩) (gw_preV hG hT p0_o rfl) rfl rfl hl.1 rfl (lv_room (Nat.le_of_ble_eq_true rfl)) dX3_gossip_40 ⟨Nat.le_of_ble_eq_true rfl, Nat.le_of_ble_eq_true rfl⟩) hG (fun r_345 M_346 H locs hw hG => ?_)
        rw [hw.1]
        obtain ⟨hm_347, fr_348⟩ := hw.2
        have fr_349 : mfr M M_346 mo ad := mfr.tr mfr.rf fr_348
        obtain ⟨p_350_b, p_350_o, p_350_0, p_350_1, p_350_2, p_350_3, p_350_4, p_350_ne⟩ := id hm_347
        refine lv_if_eq hx hb (tgt := 48) dX3_gossip_43 (by decide) (fun hc => absurd hc (by decide)) (fun hc => ?_)
        refine lv_iconst (v := nI 0) hx hb dX3_gossip_46 (by decide) ?_
        exact gw_iret hx hb hr hlocks hG hT (by omega) (by omega) dX3_gossip_47 ⟨⟨p0_b, p_350_o, p_350_0, p_350_1, p_350_2, p_350_3, p_350_4, p0_ne⟩, fr_349⟩

set_option maxHeartbeats 4000000 in
set_option maxRecDepth 100000 in
/-- m_deliverF -/
theorem m_deliverF (l : Launch) (K : gw_C) (M : gw_M) (mo : Nat) (ad : Nat → Nat) (cd : Int32) (nn kk : Nat) (tb vb : Nat → Int32) (sb : Nat → Int64) (fm tq : Nat → Int32) (ii he : Nat) (F : Nat → (Nat → Int32) × (Nat → Int32) × Nat)  (hm : md K M mo ad cd nn kk tb vb sb fm tq) (hF0 : F 0 = (tb, vb, 0)) (hFs : ∀ row r, r < 6 → F (row * 6 + r + 1) = mms he (6 + ii) row r (F (row * 6 + r)).1 (F (row * 6 + r)).2.1 (F (row * 6 + r)).2.2) (hii : ii < kk) (hhe : he < 6) (htq : tq ii = nI he) : Met l yX3_deliver wsX3_deliver ({ frames := 6, cells := 0, slots := 0, locals := 160 } : Room) (va_Pc [.ref mo, .int (nI ii)] (gw_I K M)) (va_Qi (fun r M1 => r = nI (F 408).2.2 ∧ md K M1 mo ad (nI 0) nn (kk - 1) (msh (mvx icp (F 408).1 (414 * he) (414 * (6 + ii)) 6) 414 (414 * (6 + ii)) (414 * (kk - 1 - ii))) (msh ((F 408).2.1) 24 (24 * (6 + ii)) (24 * (kk - 1 - ii))) (msh (mvx lcp sb (48 * he) (48 * (6 + ii)) 48) 48 (48 * (6 + ii)) (48 * (kk - 1 - ii))) (msh fm 1 ii (kk - 1 - ii)) (msh tq 1 ii (kk - 1 - ii)) ∧ mfr M M1 mo ad) (gw_I K) (gw_A K)) 0 0 (gw_A K) := by
  refine Met.ofW (cc := cX3_deliver) (maxL := 3) (ret := (some .int)) (by decide) rfl ?_
  intro p e s m args below meth c s₁ B hml hv
  obtain ⟨hav, hI⟩ := hv
  have hx := B.exec
  have hb := B.bytes
  have hr := B.returns
  have hts := atoms_spec (ws := wsX3_deliver) B.pre
  have hown : s.vm.findClass RX3 = some m.cls := findClass_of_methodNamed B.named
  have hlocks : meth.locks = false := B.notSynchronized
  have hT := hI.2.2
  have hK := hT.K
  have hG := hI.B
  have hf14 := hts (.fieldLink RX3 14 "DotGossipModel" "table" "[I") (by decide +kernel)
  have hf18 := hts (.fieldLink RX3 18 "DotGossipModel" "values" "[I") (by decide +kernel)
  have hf21 := hts (.fieldLink RX3 21 "DotGossipModel" "sums" "[J") (by decide +kernel)
  have hf25 := hts (.fieldLink RX3 25 "DotGossipModel" "from" "[I") (by decide +kernel)
  have hf28 := hts (.fieldLink RX3 28 "DotGossipModel" "to" "[I") (by decide +kernel)
  have hf31 := hts (.fieldLink RX3 31 "DotGossipModel" "code" "I") (by decide +kernel)
  have hf41 := hts (.fieldLink RX3 41 "DotGossipModel" "messages" "I") (by decide +kernel)
  have hinX3 : ∀ w ∈ wsX30, w ∈ wsX3_deliver := by decide +kernel
  have hE : entryFrame m args 3 = entryFrame m ([.ref mo, .int (nI ii)] : List Value).toArray 3 := by rw [hav]
  rw [hE]
  have hl := lv_entry ([.ref mo, .int (nI ii)]) (n := 3) (Nat.le_of_ble_eq_true rfl)
  rw [lg_entry_eq]
  generalize (lg_sl ([.ref mo, .int (nI ii)]) ++ List.replicate (3 - (lg_sl ([.ref mo, .int (nI ii)])).length) Slot.unset).toArray = ls at hl ⊢
  have hl : lv_has ls 3 [(0, .ref mo), (1, .int (nI ii))] := hl
  obtain ⟨p0_b, p0_o, p0_0, p0_1, p0_2, p0_3, p0_4, p0_ne⟩ := id hm
  have ne_o0 : mo ≠ ad 0 := gw_io p0_o p0_0
  have ne_o1 : mo ≠ ad 1 := gw_io p0_o p0_1
  have ne_o2 : mo ≠ ad 2 := gw_io p0_o p0_2
  have ne_o3 : mo ≠ ad 3 := gw_io p0_o p0_3
  have ne_o4 : mo ≠ ad 4 := gw_io p0_o p0_4
  have hk100 := p0_b.2
  refine lv_aload_n hx hb dX3_deliver_0 rfl (lv_at hl 0 rfl) ?_
  refine lv_aload_n hx hb dX3_deliver_1 rfl (lv_at hl 0 rfl) ?_
  refine lv_iload_n hx hb dX3_deliver_2 rfl (lv_at hl 1 rfl) ?_
  refine gw_calli (va_runV (As := [.int (nI ii)]) (rest := [.ref mo]) ⟨hx, hb, hml, hown, hts⟩ (c_isMsg l K M mo ad _ _ _ _ _ _ _ _ (nI ii) hm) (cwV 1 hts gX3_deliver_X3_isMessage rfl rfl rfl (by decide +kernel) ⟨Nat.le_of_ble_eq_true rfl, Nat.le_of_ble_eq_true rfl⟩) (gw_preV hG hT p0_o rfl) rfl rfl hl.1 rfl (lv_room (Nat.le_of_ble_eq_true rfl)) dX3_deliver_3 ⟨Nat.le_of_ble_eq_true rfl, Nat.le_of_ble_eq_true rfl⟩) hG (fun r_351 M_352 H locs hw hG => ?_)
  rw [hw.1] at hG
  refine gw_as (tst_y hw.2 ⟨ii, hii, rfl⟩) ?_
  refine lv_if_eq hx hb (tgt := 13) dX3_deliver_6 (by decide) (fun hc => absurd hc (by decide)) (fun hc => ?_)
  refine lv_iconst (v := nI 0) hx hb dX3_deliver_9 (by decide) ?_
  refine lv_goto (tgt := 14) hx hb dX3_deliver_10 (by decide) ?_
  refine gw_calli (va_runV (As := [.int (nI 0)]) (rest := []) ⟨hx, hb, hml, hown, hts⟩ (c_ref0 l K M mo ad _ _ _ _ _ _ _ _ 0 hm) (cwV 1 hts gX3_deliver_X3_refuses rfl rfl rfl (by decide +kernel) ⟨Nat.le_of_ble_eq_true rfl, Nat.le_of_ble_eq_true rfl⟩) (gw_preV hG hT p0_o rfl) rfl rfl hl.1 rfl (lv_room (Nat.le_of_ble_eq_true rfl)) dX3_deliver_14 ⟨Nat.le_of_ble_eq_true rfl, Nat.le_of_ble_eq_true rfl⟩) hG (fun r_353 M_354 H locs hw hG => ?_)
  rw [hw.1]
  obtain ⟨hm_355, fr_356⟩ := hw.2
  have fr_357 : mfr M M_354 mo ad := mfr.tr mfr.rf fr_356
  obtain ⟨p_358_b, p_358_o, p_358_0, p_358_1, p_358_2, p_358_3, p_358_4, p_358_ne⟩ := id hm_355
  refine lv_if_eq hx hb (tgt := 22) dX3_deliver_17 (by decide) (fun hc => ?_) (fun hc => absurd (by decide) hc)
  refine lv_aload_n hx hb dX3_deliver_22 rfl (lv_at hl 0 rfl) ?_
  refine lv_aload_n hx hb dX3_deliver_23 rfl (lv_at hl 0 rfl) ?_
  refine gw_get (ci := 4) (C := RX3) (T := TX3) (N := 8) hx hb hts hinX3 hown hK hG p_358_o rfl 7 (by decide) hf28 (fun _ h9 => h9) rfl dX3_deliver_24 ?_
  refine lv_iload_n hx hb dX3_deliver_27 rfl (lv_at hl 1 rfl) ?_
  refine gw_iald_n hx hb hK hG p_358_4 0 rfl (by omega) (by omega) dX3_deliver_28 ?_
  refine gw_as htq ?_
  refine lv_bipush (v := nI 6) hx hb dX3_deliver_29 (by decide) ?_
  refine lv_iload_n hx hb dX3_deliver_31 rfl (lv_at hl 1 rfl) ?_
  refine gw_iadd hx hb dX3_deliver_32 ?_
  have hm_359 : md K M_354 mo ad (nI 0) nn kk tb vb sb fm tq := ⟨p0_b, p_358_o, p_358_0, p_358_1, p_358_2, p_358_3, p_358_4, p0_ne⟩
  refine gw_calli (va_runV (As := [.int (nI he), .int (nI (6 + ii))]) (rest := []) ⟨hx, hb, hml, hown, hts⟩ (c_mergesF l K M_354 mo ad _ _ _ _ _ _ _ _ he (6 + ii) F hm_359 hF0 hFs (by omega) (by omega) (by omega)) (cwV 2 hts gX3_deliver_X3_merges rfl rfl rfl (by decide +kernel) ⟨Nat.le_of_ble_eq_true rfl, Nat.le_of_ble_eq_true rfl⟩) (gw_preV hG hT p_358_o rfl) rfl rfl hl.1 rfl (lv_room (Nat.le_of_ble_eq_true rfl)) dX3_deliver_33 ⟨Nat.le_of_ble_eq_true rfl, Nat.le_of_ble_eq_true rfl⟩) hG (fun r_360 M_361 H locs hw hG => ?_)
  rw [hw.1]
  obtain ⟨hm_362, fr_363⟩ := hw.2
  have fr_364 : mfr M M_361 mo ad := mfr.tr fr_357 fr_363
  obtain ⟨p_365_b, p_365_o, p_365_0, p_365_1, p_365_2, p_365_3, p_365_4, p_365_ne⟩ := id hm_362
  refine lv_istore_n (lv' := [(2, .int (nI ((F 408).2.2))), (0, .ref mo), (1, .int (nI ii))]) hx hb dX3_deliver_36 rfl hl (by decide) rfl (fun ls hl => ?_)
  refine lv_aload_n hx hb dX3_deliver_37 rfl (lv_at hl 1 rfl) ?_
  refine lv_iload_n hx hb dX3_deliver_38 rfl (lv_at hl 2 rfl) ?_
  have hm_366 : md K M_361 mo ad (nI 0) nn kk (mvx icp (F 408).1 (414 * he) (414 * (6 + ii)) 6) ((F 408).2.1) (mvx lcp sb (48 * he) (48 * (6 + ii)) 48) fm tq := ⟨p0_b, p_365_o, p_365_0, p_365_1, p_365_2, p_365_3, p_365_4, p0_ne⟩
  have hm_367 : md K M_361 mo ad (nI 0) nn kk (mvx icp (F 408).1 (414 * he) (414 * (6 + ii)) 6) ((F 408).2.1) (mvx lcp sb (48 * he) (48 * (6 + ii)) 48) fm tq := ⟨p0_b, p_365_o, p_365_0, p_365_1, p_365_2, p_365_3, p_365_4, p0_ne⟩
  refine gw_callv (va_runV (As := [.int (nI ii)]) (rest := []) ⟨hx, hb, hml, hown, hts⟩ (c_gone l K M_361 mo ad _ _ _ _ _ _ _ _ ii hm_367 hii) (cwV 1 hts gX3_deliver_X3_gone rfl rfl rfl (by decide +kernel) ⟨Nat.le_of_ble_eq_true rfl, Nat.le_of_ble_eq_true rfl⟩) (gw_preV hG hT p_365_o rfl) rfl rfl hl.1 rfl (lv_room (Nat.le_of_ble_eq_true rfl)) dX3_deliver_39 ⟨Nat.le_of_ble_eq_true rfl, Nat.le_of_ble_eq_true rfl⟩) hG (fun M_369 H locs hw hG => ?_)
  obtain ⟨hm_370, fr_371⟩ := hw
  have fr_372 : mfr M M_369 mo ad := mfr.tr fr_364 fr_371
  obtain ⟨p_373_b, p_373_o, p_373_0, p_373_1, p_373_2, p_373_3, p_373_4, p_373_ne⟩ := id hm_370
  refine lv_iload_n hx hb dX3_deliver_42 rfl (lv_at hl 0 rfl) ?_
  exact gw_iret hx hb hr hlocks hG hT (by omega) (by omega) dX3_deliver_43 ⟨rfl, ⟨⟨p0_b.1, by omega⟩, p_373_o, p_373_0, p_373_1, p_373_2, p_373_3, p_373_4, p0_ne⟩, fr_372⟩

set_option maxHeartbeats 4000000 in
set_option maxRecDepth 100000 in
/-- m_drop -/
theorem m_drop (l : Launch) (K : gw_C) (M : gw_M) (mo : Nat) (ad : Nat → Nat) (cd : Int32) (nn kk : Nat) (tb vb : Nat → Int32) (sb : Nat → Int64) (fm tq : Nat → Int32) (ii : Nat)  (hm : md K M mo ad cd nn kk tb vb sb fm tq) (hii : ii < kk) : Met l yX3_drop wsX3_drop ({ frames := 6, cells := 0, slots := 0, locals := 160 } : Room) (va_Pc [.ref mo, .int (nI ii)] (gw_I K M)) (va_Qi (fun r M1 => r = tq ii ∧ md K M1 mo ad (nI 0) nn (kk - 1) (msh tb 414 (414 * (6 + ii)) (414 * (kk - 1 - ii))) (msh vb 24 (24 * (6 + ii)) (24 * (kk - 1 - ii))) (msh sb 48 (48 * (6 + ii)) (48 * (kk - 1 - ii))) (msh fm 1 ii (kk - 1 - ii)) (msh tq 1 ii (kk - 1 - ii)) ∧ mfr M M1 mo ad) (gw_I K) (gw_A K)) 0 0 (gw_A K) := by
  refine Met.ofW (cc := cX3_drop) (maxL := 3) (ret := (some .int)) (by decide) rfl ?_
  intro p e s m args below meth c s₁ B hml hv
  obtain ⟨hav, hI⟩ := hv
  have hx := B.exec
  have hb := B.bytes
  have hr := B.returns
  have hts := atoms_spec (ws := wsX3_drop) B.pre
  have hown : s.vm.findClass RX3 = some m.cls := findClass_of_methodNamed B.named
  have hlocks : meth.locks = false := B.notSynchronized
  have hT := hI.2.2
  have hK := hT.K
  have hG := hI.B
  have hf14 := hts (.fieldLink RX3 14 "DotGossipModel" "table" "[I") (by decide +kernel)
  have hf18 := hts (.fieldLink RX3 18 "DotGossipModel" "values" "[I") (by decide +kernel)
  have hf21 := hts (.fieldLink RX3 21 "DotGossipModel" "sums" "[J") (by decide +kernel)
  have hf25 := hts (.fieldLink RX3 25 "DotGossipModel" "from" "[I") (by decide +kernel)
  have hf28 := hts (.fieldLink RX3 28 "DotGossipModel" "to" "[I") (by decide +kernel)
  have hf31 := hts (.fieldLink RX3 31 "DotGossipModel" "code" "I") (by decide +kernel)
  have hf41 := hts (.fieldLink RX3 41 "DotGossipModel" "messages" "I") (by decide +kernel)
  have hinX3 : ∀ w ∈ wsX30, w ∈ wsX3_drop := by decide +kernel
  have hE : entryFrame m args 3 = entryFrame m ([.ref mo, .int (nI ii)] : List Value).toArray 3 := by rw [hav]
  rw [hE]
  have hl := lv_entry ([.ref mo, .int (nI ii)]) (n := 3) (Nat.le_of_ble_eq_true rfl)
  rw [lg_entry_eq]
  generalize (lg_sl ([.ref mo, .int (nI ii)]) ++ List.replicate (3 - (lg_sl ([.ref mo, .int (nI ii)])).length) Slot.unset).toArray = ls at hl ⊢
  have hl : lv_has ls 3 [(0, .ref mo), (1, .int (nI ii))] := hl
  obtain ⟨p0_b, p0_o, p0_0, p0_1, p0_2, p0_3, p0_4, p0_ne⟩ := id hm
  have ne_o0 : mo ≠ ad 0 := gw_io p0_o p0_0
  have ne_o1 : mo ≠ ad 1 := gw_io p0_o p0_1
  have ne_o2 : mo ≠ ad 2 := gw_io p0_o p0_2
  have ne_o3 : mo ≠ ad 3 := gw_io p0_o p0_3
  have ne_o4 : mo ≠ ad 4 := gw_io p0_o p0_4
  have hk100 := p0_b.2
  refine lv_aload_n hx hb dX3_drop_0 rfl (lv_at hl 0 rfl) ?_
  refine lv_aload_n hx hb dX3_drop_1 rfl (lv_at hl 0 rfl) ?_
  refine lv_iload_n hx hb dX3_drop_2 rfl (lv_at hl 1 rfl) ?_
  refine gw_calli (va_runV (As := [.int (nI ii)]) (rest := [.ref mo]) ⟨hx, hb, hml, hown, hts⟩ (c_isMsg l K M mo ad _ _ _ _ _ _ _ _ (nI ii) hm) (cwV 1 hts gX3_drop_X3_isMessage rfl rfl rfl (by decide +kernel) ⟨Nat.le_of_ble_eq_true rfl, Nat.le_of_ble_eq_true rfl⟩) (gw_preV hG hT p0_o rfl) rfl rfl hl.1 rfl (lv_room (Nat.le_of_ble_eq_true rfl)) dX3_drop_3 ⟨Nat.le_of_ble_eq_true rfl, Nat.le_of_ble_eq_true rfl⟩) hG (fun r_374 M_375 H locs hw hG => ?_)
  rw [hw.1] at hG
  refine gw_as (tst_y hw.2 ⟨ii, hii, rfl⟩) ?_
  refine lv_if_eq hx hb (tgt := 13) dX3_drop_6 (by decide) (fun hc => absurd hc (by decide)) (fun hc => ?_)
  refine lv_iconst (v := nI 0) hx hb dX3_drop_9 (by decide) ?_
  refine lv_goto (tgt := 14) hx hb dX3_drop_10 (by decide) ?_
  refine gw_calli (va_runV (As := [.int (nI 0)]) (rest := []) ⟨hx, hb, hml, hown, hts⟩ (c_ref0 l K M mo ad _ _ _ _ _ _ _ _ 0 hm) (cwV 1 hts gX3_drop_X3_refuses rfl rfl rfl (by decide +kernel) ⟨Nat.le_of_ble_eq_true rfl, Nat.le_of_ble_eq_true rfl⟩) (gw_preV hG hT p0_o rfl) rfl rfl hl.1 rfl (lv_room (Nat.le_of_ble_eq_true rfl)) dX3_drop_14 ⟨Nat.le_of_ble_eq_true rfl, Nat.le_of_ble_eq_true rfl⟩) hG (fun r_376 M_377 H locs hw hG => ?_)
  rw [hw.1]
  obtain ⟨hm_378, fr_379⟩ := hw.2
  have fr_380 : mfr M M_377 mo ad := mfr.tr mfr.rf fr_379
  obtain ⟨p_381_b, p_381_o, p_381_0, p_381_1, p_381_2, p_381_3, p_381_4, p_381_ne⟩ := id hm_378
  refine lv_if_eq hx hb (tgt := 22) dX3_drop_17 (by decide) (fun hc => ?_) (fun hc => absurd (by decide) hc)
  refine lv_aload_n hx hb dX3_drop_22 rfl (lv_at hl 0 rfl) ?_
  refine gw_get (ci := 4) (C := RX3) (T := TX3) (N := 8) hx hb hts hinX3 hown hK hG p_381_o rfl 7 (by decide) hf28 (fun _ h9 => h9) rfl dX3_drop_23 ?_
  refine lv_iload_n hx hb dX3_drop_26 rfl (lv_at hl 1 rfl) ?_
  refine gw_iald_n hx hb hK hG p_381_4 0 rfl (by omega) (by omega) dX3_drop_27 ?_
  refine lv_istore_n (lv' := [(2, .int (tq ii)), (0, .ref mo), (1, .int (nI ii))]) hx hb dX3_drop_28 rfl hl (by decide) rfl (fun ls hl => ?_)
  refine lv_aload_n hx hb dX3_drop_29 rfl (lv_at hl 1 rfl) ?_
  refine lv_iload_n hx hb dX3_drop_30 rfl (lv_at hl 2 rfl) ?_
  have hm_382 : md K M_377 mo ad (nI 0) nn kk tb vb sb fm tq := ⟨p0_b, p_381_o, p_381_0, p_381_1, p_381_2, p_381_3, p_381_4, p0_ne⟩
  refine gw_callv (va_runV (As := [.int (nI ii)]) (rest := []) ⟨hx, hb, hml, hown, hts⟩ (c_gone l K M_377 mo ad _ _ _ _ _ _ _ _ ii hm_382 hii) (cwV 1 hts gX3_drop_X3_gone rfl rfl rfl (by decide +kernel) ⟨Nat.le_of_ble_eq_true rfl, Nat.le_of_ble_eq_true rfl⟩) (gw_preV hG hT p_381_o rfl) rfl rfl hl.1 rfl (lv_room (Nat.le_of_ble_eq_true rfl)) dX3_drop_31 ⟨Nat.le_of_ble_eq_true rfl, Nat.le_of_ble_eq_true rfl⟩) hG (fun M_384 H locs hw hG => ?_)
  obtain ⟨hm_385, fr_386⟩ := hw
  have fr_387 : mfr M M_384 mo ad := mfr.tr fr_380 fr_386
  obtain ⟨p_388_b, p_388_o, p_388_0, p_388_1, p_388_2, p_388_3, p_388_4, p_388_ne⟩ := id hm_385
  refine lv_iload_n hx hb dX3_drop_34 rfl (lv_at hl 0 rfl) ?_
  exact gw_iret hx hb hr hlocks hG hT (by omega) (by omega) dX3_drop_35 ⟨rfl, ⟨⟨p0_b.1, by omega⟩, p_388_o, p_388_0, p_388_1, p_388_2, p_388_3, p_388_4, p0_ne⟩, fr_387⟩

set_option maxHeartbeats 4000000 in
set_option maxRecDepth 100000 in
/-- m_copy -/
theorem m_copy (l : Launch) (K : gw_C) (M : gw_M) (mo : Nat) (ad : Nat → Nat) (cd : Int32) (nn kk : Nat) (tb vb : Nat → Int32) (sb : Nat → Int64) (fm tq : Nat → Int32) (ii : Nat)  (hm : md K M mo ad cd nn kk tb vb sb fm tq) (hii : ii < kk) (hk : kk < 100) : Met l yX3_copy wsX3_copy ({ frames := 6, cells := 0, slots := 0, locals := 160 } : Room) (va_Pc [.ref mo, .int (nI ii)] (gw_I K M)) (va_Qi (fun r M1 => r = nI 1 ∧ md K M1 mo ad (nI 0) nn (kk + 1) (mcp tb (414 * (6 + ii)) (414 * (6 + kk)) 414) (mcp vb (24 * (6 + ii)) (24 * (6 + kk)) 24) (mcp sb (48 * (6 + ii)) (48 * (6 + kk)) 48) (upd fm kk (fm ii)) (upd tq kk (tq ii)) ∧ mfr M M1 mo ad) (gw_I K) (gw_A K)) 0 0 (gw_A K) := by
  refine Met.ofW (cc := cX3_copy) (maxL := 2) (ret := (some .boolean)) (by decide) rfl ?_
  intro p e s m args below meth c s₁ B hml hv
  obtain ⟨hav, hI⟩ := hv
  have hx := B.exec
  have hb := B.bytes
  have hr := B.returns
  have hts := atoms_spec (ws := wsX3_copy) B.pre
  have hown : s.vm.findClass RX3 = some m.cls := findClass_of_methodNamed B.named
  have hlocks : meth.locks = false := B.notSynchronized
  have hT := hI.2.2
  have hK := hT.K
  have hG := hI.B
  have hf14 := hts (.fieldLink RX3 14 "DotGossipModel" "table" "[I") (by decide +kernel)
  have hf18 := hts (.fieldLink RX3 18 "DotGossipModel" "values" "[I") (by decide +kernel)
  have hf21 := hts (.fieldLink RX3 21 "DotGossipModel" "sums" "[J") (by decide +kernel)
  have hf25 := hts (.fieldLink RX3 25 "DotGossipModel" "from" "[I") (by decide +kernel)
  have hf28 := hts (.fieldLink RX3 28 "DotGossipModel" "to" "[I") (by decide +kernel)
  have hf31 := hts (.fieldLink RX3 31 "DotGossipModel" "code" "I") (by decide +kernel)
  have hf41 := hts (.fieldLink RX3 41 "DotGossipModel" "messages" "I") (by decide +kernel)
  have hinX3 : ∀ w ∈ wsX30, w ∈ wsX3_copy := by decide +kernel
  have hE : entryFrame m args 2 = entryFrame m ([.ref mo, .int (nI ii)] : List Value).toArray 2 := by rw [hav]
  rw [hE]
  have hl := lv_entry ([.ref mo, .int (nI ii)]) (n := 2) (Nat.le_of_ble_eq_true rfl)
  rw [lg_entry_eq]
  generalize (lg_sl ([.ref mo, .int (nI ii)]) ++ List.replicate (2 - (lg_sl ([.ref mo, .int (nI ii)])).length) Slot.unset).toArray = ls at hl ⊢
  have hl : lv_has ls 2 [(0, .ref mo), (1, .int (nI ii))] := hl
  obtain ⟨p0_b, p0_o, p0_0, p0_1, p0_2, p0_3, p0_4, p0_ne⟩ := id hm
  have ne_o0 : mo ≠ ad 0 := gw_io p0_o p0_0
  have ne_o1 : mo ≠ ad 1 := gw_io p0_o p0_1
  have ne_o2 : mo ≠ ad 2 := gw_io p0_o p0_2
  have ne_o3 : mo ≠ ad 3 := gw_io p0_o p0_3
  have ne_o4 : mo ≠ ad 4 := gw_io p0_o p0_4
  refine lv_aload_n hx hb dX3_copy_0 rfl (lv_at hl 0 rfl) ?_
  refine lv_aload_n hx hb dX3_copy_1 rfl (lv_at hl 0 rfl) ?_
  refine lv_iload_n hx hb dX3_copy_2 rfl (lv_at hl 1 rfl) ?_
  refine gw_calli (va_runV (As := [.int (nI ii)]) (rest := [.ref mo]) ⟨hx, hb, hml, hown, hts⟩ (c_isMsg l K M mo ad _ _ _ _ _ _ _ _ (nI ii) hm) (cwV 1 hts gX3_copy_X3_isMessage rfl rfl rfl (by decide +kernel) ⟨Nat.le_of_ble_eq_true rfl, Nat.le_of_ble_eq_true rfl⟩) (gw_preV hG hT p0_o rfl) rfl rfl hl.1 rfl (lv_room (Nat.le_of_ble_eq_true rfl)) dX3_copy_3 ⟨Nat.le_of_ble_eq_true rfl, Nat.le_of_ble_eq_true rfl⟩) hG (fun r_389 M_390 H locs hw hG => ?_)
  rw [hw.1] at hG
  refine gw_as (tst_y hw.2 ⟨ii, hii, rfl⟩) ?_
  refine lv_if_eq hx hb (tgt := 13) dX3_copy_6 (by decide) (fun hc => absurd hc (by decide)) (fun hc => ?_)
  refine lv_iconst (v := nI 0) hx hb dX3_copy_9 (by decide) ?_
  refine lv_goto (tgt := 14) hx hb dX3_copy_10 (by decide) ?_
  refine gw_calli (va_runV (As := [.int (nI 0)]) (rest := []) ⟨hx, hb, hml, hown, hts⟩ (c_ref0 l K M mo ad _ _ _ _ _ _ _ _ 0 hm) (cwV 1 hts gX3_copy_X3_refuses rfl rfl rfl (by decide +kernel) ⟨Nat.le_of_ble_eq_true rfl, Nat.le_of_ble_eq_true rfl⟩) (gw_preV hG hT p0_o rfl) rfl rfl hl.1 rfl (lv_room (Nat.le_of_ble_eq_true rfl)) dX3_copy_14 ⟨Nat.le_of_ble_eq_true rfl, Nat.le_of_ble_eq_true rfl⟩) hG (fun r_391 M_392 H locs hw hG => ?_)
  rw [hw.1]
  obtain ⟨hm_393, fr_394⟩ := hw.2
  have fr_395 : mfr M M_392 mo ad := mfr.tr mfr.rf fr_394
  obtain ⟨p_396_b, p_396_o, p_396_0, p_396_1, p_396_2, p_396_3, p_396_4, p_396_ne⟩ := id hm_393
  refine lv_if_ne hx hb (tgt := 29) dX3_copy_17 (by decide) (fun hc => absurd rfl hc) (fun hc => ?_)
  refine lv_aload_n hx hb dX3_copy_20 rfl (lv_at hl 0 rfl) ?_
  refine gw_get (ci := 4) (C := RX3) (T := TX3) (N := 8) hx hb hts hinX3 hown hK hG p_396_o rfl 2 (by decide) hf41 (fun _ h9 => h9) rfl dX3_copy_21 ?_
  refine lv_bipush (v := nI 100) hx hb dX3_copy_24 (by decide) ?_
  refine gw_icmp_ne hx hb (by omega) (by omega) (tgt := 31) dX3_copy_26 (by decide) (fun hc => ?_) (fun hc => absurd hc (by omega))
  refine lv_aload_n hx hb dX3_copy_31 rfl (lv_at hl 0 rfl) ?_
  refine lv_bipush (v := nI 6) hx hb dX3_copy_32 (by decide) ?_
  refine lv_iload_n hx hb dX3_copy_34 rfl (lv_at hl 1 rfl) ?_
  refine gw_iadd hx hb dX3_copy_35 ?_
  refine lv_bipush (v := nI 6) hx hb dX3_copy_36 (by decide) ?_
  refine lv_aload_n hx hb dX3_copy_38 rfl (lv_at hl 0 rfl) ?_
  refine gw_get (ci := 4) (C := RX3) (T := TX3) (N := 8) hx hb hts hinX3 hown hK hG p_396_o rfl 2 (by decide) hf41 (fun _ h9 => h9) rfl dX3_copy_39 ?_
  refine gw_iadd hx hb dX3_copy_42 ?_
  have hm_397 : md K M_392 mo ad (nI 0) nn kk tb vb sb fm tq := ⟨p0_b, p_396_o, p_396_0, p_396_1, p_396_2, p_396_3, p_396_4, p0_ne⟩
  refine gw_callv (va_runV (As := [.int (nI (6 + ii)), .int (nI (6 + kk))]) (rest := []) ⟨hx, hb, hml, hown, hts⟩ (c_copies l K M_392 mo ad _ _ _ _ _ _ _ _ (6 + ii) (6 + kk) hm_397 (by omega) (by omega) (by omega)) (cwV 2 hts gX3_copy_X3_copies rfl rfl rfl (by decide +kernel) ⟨Nat.le_of_ble_eq_true rfl, Nat.le_of_ble_eq_true rfl⟩) (gw_preV hG hT p_396_o rfl) rfl rfl hl.1 rfl (lv_room (Nat.le_of_ble_eq_true rfl)) dX3_copy_43 ⟨Nat.le_of_ble_eq_true rfl, Nat.le_of_ble_eq_true rfl⟩) hG (fun M_399 H locs hw hG => ?_)
  obtain ⟨hm_400, fr_401⟩ := hw
  have fr_402 : mfr M M_399 mo ad := mfr.tr fr_395 fr_401
  obtain ⟨p_403_b, p_403_o, p_403_0, p_403_1, p_403_2, p_403_3, p_403_4, p_403_ne⟩ := id hm_400
  refine lv_aload_n hx hb dX3_copy_46 rfl (lv_at hl 0 rfl) ?_
  refine gw_get (ci := 4) (C := RX3) (T := TX3) (N := 8) hx hb hts hinX3 hown hK hG p_403_o rfl 6 (by decide) hf25 (fun _ h9 => h9) rfl dX3_copy_47 ?_
  refine lv_aload_n hx hb dX3_copy_50 rfl (lv_at hl 0 rfl) ?_
  refine gw_get (ci := 4) (C := RX3) (T := TX3) (N := 8) hx hb hts hinX3 hown hK hG p_403_o rfl 2 (by decide) hf41 (fun _ h9 => h9) rfl dX3_copy_51 ?_
  refine lv_aload_n hx hb dX3_copy_54 rfl (lv_at hl 0 rfl) ?_
  refine gw_get (ci := 4) (C := RX3) (T := TX3) (N := 8) hx hb hts hinX3 hown hK hG p_403_o rfl 6 (by decide) hf25 (fun _ h9 => h9) rfl dX3_copy_55 ?_
  refine lv_iload_n hx hb dX3_copy_58 rfl (lv_at hl 1 rfl) ?_
  refine gw_iald_n hx hb hK hG p_403_3 0 rfl (by omega) (by omega) dX3_copy_59 ?_
  refine gw_iast_n hx hb hK hG p_403_3 0 rfl (by omega) (by omega) dX3_copy_60 (fun H locs hG => ?_)
  obtain ⟨M_404, hM_405⟩ : ∃ M1 : gw_M, M1 = gw_up M_399 (ad 3) (.inl (K.2.1 0, 100, .inl (upd fm kk (fm ii)))) := ⟨_, rfl⟩
  have hG : gw_B K M_404 s.heap H locs := by rw [hM_405]; exact hG
  have hc_406 := (congrFun hM_405 mo).trans (gw_k ne_o3 p_403_o)
  have hc_407 := (congrFun hM_405 (ad 0)).trans (gw_k (fun z => absurd (p0_ne 0 3 (by decide) (by decide) z) (by decide)) p_403_0)
  have hc_408 := (congrFun hM_405 (ad 1)).trans (gw_k (fun z => absurd (p0_ne 1 3 (by decide) (by decide) z) (by decide)) p_403_1)
  have hc_409 := (congrFun hM_405 (ad 2)).trans (gw_k (fun z => absurd (p0_ne 2 3 (by decide) (by decide) z) (by decide)) p_403_2)
  have hc_410 : M_404 (ad 3) = some (.inl (K.2.1 0, 100, .inl (upd fm kk (fm ii)))) := (congrFun hM_405 _).trans gw_s
  have hc_411 := (congrFun hM_405 (ad 4)).trans (gw_k (fun z => absurd (p0_ne 4 3 (by decide) (by decide) z) (by decide)) p_403_4)
  have fr_412 : mfr M M_404 mo ad := fun q h1 h2 => ((congrFun hM_405 q).trans (gw_n (h2 3 (by decide)))).trans (fr_402 q h1 h2)
  refine lv_aload_n hx hb dX3_copy_61 rfl (lv_at hl 0 rfl) ?_
  refine gw_get (ci := 4) (C := RX3) (T := TX3) (N := 8) hx hb hts hinX3 hown hK hG hc_406 rfl 7 (by decide) hf28 (fun _ h9 => h9) rfl dX3_copy_62 ?_
  refine lv_aload_n hx hb dX3_copy_65 rfl (lv_at hl 0 rfl) ?_
  refine gw_get (ci := 4) (C := RX3) (T := TX3) (N := 8) hx hb hts hinX3 hown hK hG hc_406 rfl 2 (by decide) hf41 (fun _ h9 => h9) rfl dX3_copy_66 ?_
  refine lv_aload_n hx hb dX3_copy_69 rfl (lv_at hl 0 rfl) ?_
  refine gw_get (ci := 4) (C := RX3) (T := TX3) (N := 8) hx hb hts hinX3 hown hK hG hc_406 rfl 7 (by decide) hf28 (fun _ h9 => h9) rfl dX3_copy_70 ?_
  refine lv_iload_n hx hb dX3_copy_73 rfl (lv_at hl 1 rfl) ?_
  refine gw_iald_n hx hb hK hG hc_411 0 rfl (by omega) (by omega) dX3_copy_74 ?_
  refine gw_iast_n hx hb hK hG hc_411 0 rfl (by omega) (by omega) dX3_copy_75 (fun H locs hG => ?_)
  obtain ⟨M_413, hM_414⟩ : ∃ M1 : gw_M, M1 = gw_up M_404 (ad 4) (.inl (K.2.1 0, 100, .inl (upd tq kk (tq ii)))) := ⟨_, rfl⟩
  have hG : gw_B K M_413 s.heap H locs := by rw [hM_414]; exact hG
  have hc_415 := (congrFun hM_414 mo).trans (gw_k ne_o4 hc_406)
  have hc_416 := (congrFun hM_414 (ad 0)).trans (gw_k (fun z => absurd (p0_ne 0 4 (by decide) (by decide) z) (by decide)) hc_407)
  have hc_417 := (congrFun hM_414 (ad 1)).trans (gw_k (fun z => absurd (p0_ne 1 4 (by decide) (by decide) z) (by decide)) hc_408)
  have hc_418 := (congrFun hM_414 (ad 2)).trans (gw_k (fun z => absurd (p0_ne 2 4 (by decide) (by decide) z) (by decide)) hc_409)
  have hc_419 := (congrFun hM_414 (ad 3)).trans (gw_k (fun z => absurd (p0_ne 3 4 (by decide) (by decide) z) (by decide)) hc_410)
  have hc_420 : M_413 (ad 4) = some (.inl (K.2.1 0, 100, .inl (upd tq kk (tq ii)))) := (congrFun hM_414 _).trans gw_s
  have fr_421 : mfr M M_413 mo ad := fun q h1 h2 => ((congrFun hM_414 q).trans (gw_n (h2 4 (by decide)))).trans (fr_412 q h1 h2)
  refine lv_aload_n hx hb dX3_copy_76 rfl (lv_at hl 0 rfl) ?_
  refine lv_dup hx hb dX3_copy_77 rfl ?_
  refine gw_get (ci := 4) (C := RX3) (T := TX3) (N := 8) hx hb hts hinX3 hown hK hG hc_415 rfl 2 (by decide) hf41 (fun _ h9 => h9) rfl dX3_copy_78 ?_
  refine lv_iconst (v := nI 1) hx hb dX3_copy_81 (by decide) ?_
  refine gw_iadd hx hb dX3_copy_82 ?_
  refine gw_put (ci := 4) (v := .int (nI (kk + 1))) (ty := .int) (C := RX3) (T := TX3) (N := 8) hx hb hts hinX3 tyX3 tyX3_ok nmX3 hown hK hG hc_415 rfl 2 (by decide) hf41 (fun _ h9 => h9) rfl (by decide +kernel) rfl rfl (Nat.le_of_ble_eq_true rfl) dX3_copy_83 (fun H locs hG => ?_)
  obtain ⟨M_422, hM_423⟩ : ∃ M1 : gw_M, M1 = gw_up M_413 mo (.inr (4, [.int (nI 0), .int (nI nn), .int (nI (kk + 1)), .ref (ad 0), .ref (ad 1), .ref (ad 2), .ref (ad 3), .ref (ad 4)])) := ⟨_, rfl⟩
  have hG : gw_B K M_422 s.heap H locs := by rw [hM_423]; exact hG
  have hc_424 : M_422 mo = some (.inr (4, [.int (nI 0), .int (nI nn), .int (nI (kk + 1)), .ref (ad 0), .ref (ad 1), .ref (ad 2), .ref (ad 3), .ref (ad 4)])) := (congrFun hM_423 _).trans gw_s
  have hc_425 := (congrFun hM_423 (ad 0)).trans (gw_k (Ne.symm ne_o0) hc_416)
  have hc_426 := (congrFun hM_423 (ad 1)).trans (gw_k (Ne.symm ne_o1) hc_417)
  have hc_427 := (congrFun hM_423 (ad 2)).trans (gw_k (Ne.symm ne_o2) hc_418)
  have hc_428 := (congrFun hM_423 (ad 3)).trans (gw_k (Ne.symm ne_o3) hc_419)
  have hc_429 := (congrFun hM_423 (ad 4)).trans (gw_k (Ne.symm ne_o4) hc_420)
  have fr_430 : mfr M M_422 mo ad := fun q h1 h2 => ((congrFun hM_423 q).trans (gw_n h1)).trans (fr_421 q h1 h2)
  refine lv_iconst (v := nI 1) hx hb dX3_copy_86 (by decide) ?_
  exact gw_zret hx hb hr hlocks hG hT (by omega) (by omega) dX3_copy_87 (by decide) ⟨rfl, ⟨⟨p0_b.1, by omega⟩, hc_424, hc_425, hc_426, hc_427, hc_428, hc_429, p0_ne⟩, fr_430⟩

set_option maxHeartbeats 4000000 in
set_option maxRecDepth 100000 in
/-- m_copy_full -/
theorem m_copy_full (l : Launch) (K : gw_C) (M : gw_M) (mo : Nat) (ad : Nat → Nat) (cd : Int32) (nn kk : Nat) (tb vb : Nat → Int32) (sb : Nat → Int64) (fm tq : Nat → Int32) (ii : Nat)  (hm : md K M mo ad cd nn kk tb vb sb fm tq) (hii : ii < kk) (hk : kk = 100) : Met l yX3_copy wsX3_copy ({ frames := 6, cells := 0, slots := 0, locals := 160 } : Room) (va_Pc [.ref mo, .int (nI ii)] (gw_I K M)) (va_Qi (fun r M1 => r = nI 0 ∧ md K M1 mo ad (nI 0) nn kk tb vb sb fm tq ∧ mfr M M1 mo ad) (gw_I K) (gw_A K)) 0 0 (gw_A K) := by
  refine Met.ofW (cc := cX3_copy) (maxL := 2) (ret := (some .boolean)) (by decide) rfl ?_
  intro p e s m args below meth c s₁ B hml hv
  obtain ⟨hav, hI⟩ := hv
  have hx := B.exec
  have hb := B.bytes
  have hr := B.returns
  have hts := atoms_spec (ws := wsX3_copy) B.pre
  have hown : s.vm.findClass RX3 = some m.cls := findClass_of_methodNamed B.named
  have hlocks : meth.locks = false := B.notSynchronized
  have hT := hI.2.2
  have hK := hT.K
  have hG := hI.B
  have hf14 := hts (.fieldLink RX3 14 "DotGossipModel" "table" "[I") (by decide +kernel)
  have hf18 := hts (.fieldLink RX3 18 "DotGossipModel" "values" "[I") (by decide +kernel)
  have hf21 := hts (.fieldLink RX3 21 "DotGossipModel" "sums" "[J") (by decide +kernel)
  have hf25 := hts (.fieldLink RX3 25 "DotGossipModel" "from" "[I") (by decide +kernel)
  have hf28 := hts (.fieldLink RX3 28 "DotGossipModel" "to" "[I") (by decide +kernel)
  have hf31 := hts (.fieldLink RX3 31 "DotGossipModel" "code" "I") (by decide +kernel)
  have hf41 := hts (.fieldLink RX3 41 "DotGossipModel" "messages" "I") (by decide +kernel)
  have hinX3 : ∀ w ∈ wsX30, w ∈ wsX3_copy := by decide +kernel
  have hE : entryFrame m args 2 = entryFrame m ([.ref mo, .int (nI ii)] : List Value).toArray 2 := by rw [hav]
  rw [hE]
  have hl := lv_entry ([.ref mo, .int (nI ii)]) (n := 2) (Nat.le_of_ble_eq_true rfl)
  rw [lg_entry_eq]
  generalize (lg_sl ([.ref mo, .int (nI ii)]) ++ List.replicate (2 - (lg_sl ([.ref mo, .int (nI ii)])).length) Slot.unset).toArray = ls at hl ⊢
  have hl : lv_has ls 2 [(0, .ref mo), (1, .int (nI ii))] := hl
  obtain ⟨p0_b, p0_o, p0_0, p0_1, p0_2, p0_3, p0_4, p0_ne⟩ := id hm
  have ne_o0 : mo ≠ ad 0 := gw_io p0_o p0_0
  have ne_o1 : mo ≠ ad 1 := gw_io p0_o p0_1
  have ne_o2 : mo ≠ ad 2 := gw_io p0_o p0_2
  have ne_o3 : mo ≠ ad 3 := gw_io p0_o p0_3
  have ne_o4 : mo ≠ ad 4 := gw_io p0_o p0_4
  refine lv_aload_n hx hb dX3_copy_0 rfl (lv_at hl 0 rfl) ?_
  refine lv_aload_n hx hb dX3_copy_1 rfl (lv_at hl 0 rfl) ?_
  refine lv_iload_n hx hb dX3_copy_2 rfl (lv_at hl 1 rfl) ?_
  refine gw_calli (va_runV (As := [.int (nI ii)]) (rest := [.ref mo]) ⟨hx, hb, hml, hown, hts⟩ (c_isMsg l K M mo ad _ _ _ _ _ _ _ _ (nI ii) hm) (cwV 1 hts gX3_copy_X3_isMessage rfl rfl rfl (by decide +kernel) ⟨Nat.le_of_ble_eq_true rfl, Nat.le_of_ble_eq_true rfl⟩) (gw_preV hG hT p0_o rfl) rfl rfl hl.1 rfl (lv_room (Nat.le_of_ble_eq_true rfl)) dX3_copy_3 ⟨Nat.le_of_ble_eq_true rfl, Nat.le_of_ble_eq_true rfl⟩) hG (fun r_431 M_432 H locs hw hG => ?_)
  rw [hw.1] at hG
  refine gw_as (tst_y hw.2 ⟨ii, hii, rfl⟩) ?_
  refine lv_if_eq hx hb (tgt := 13) dX3_copy_6 (by decide) (fun hc => absurd hc (by decide)) (fun hc => ?_)
  refine lv_iconst (v := nI 0) hx hb dX3_copy_9 (by decide) ?_
  refine lv_goto (tgt := 14) hx hb dX3_copy_10 (by decide) ?_
  refine gw_calli (va_runV (As := [.int (nI 0)]) (rest := []) ⟨hx, hb, hml, hown, hts⟩ (c_ref0 l K M mo ad _ _ _ _ _ _ _ _ 0 hm) (cwV 1 hts gX3_copy_X3_refuses rfl rfl rfl (by decide +kernel) ⟨Nat.le_of_ble_eq_true rfl, Nat.le_of_ble_eq_true rfl⟩) (gw_preV hG hT p0_o rfl) rfl rfl hl.1 rfl (lv_room (Nat.le_of_ble_eq_true rfl)) dX3_copy_14 ⟨Nat.le_of_ble_eq_true rfl, Nat.le_of_ble_eq_true rfl⟩) hG (fun r_433 M_434 H locs hw hG => ?_)
  rw [hw.1]
  obtain ⟨hm_435, fr_436⟩ := hw.2
  have fr_437 : mfr M M_434 mo ad := mfr.tr mfr.rf fr_436
  obtain ⟨p_438_b, p_438_o, p_438_0, p_438_1, p_438_2, p_438_3, p_438_4, p_438_ne⟩ := id hm_435
  refine lv_if_ne hx hb (tgt := 29) dX3_copy_17 (by decide) (fun hc => absurd rfl hc) (fun hc => ?_)
  refine lv_aload_n hx hb dX3_copy_20 rfl (lv_at hl 0 rfl) ?_
  refine gw_get (ci := 4) (C := RX3) (T := TX3) (N := 8) hx hb hts hinX3 hown hK hG p_438_o rfl 2 (by decide) hf41 (fun _ h9 => h9) rfl dX3_copy_21 ?_
  refine lv_bipush (v := nI 100) hx hb dX3_copy_24 (by decide) ?_
  refine gw_icmp_ne hx hb (by omega) (by omega) (tgt := 31) dX3_copy_26 (by decide) (fun hc => absurd hk hc) (fun hc => ?_)
  refine lv_iconst (v := nI 0) hx hb dX3_copy_29 (by decide) ?_
  exact gw_zret hx hb hr hlocks hG hT (by omega) (by omega) dX3_copy_30 (by decide) ⟨rfl, ⟨p0_b, p_438_o, p_438_0, p_438_1, p_438_2, p_438_3, p_438_4, p0_ne⟩, fr_437⟩

set_option maxHeartbeats 4000000 in
set_option maxRecDepth 100000 in
/-- m_turn -/
theorem m_turn (l : Launch) (K : gw_C) (M : gw_M) (mo : Nat) (ad : Nat → Nat) (cd : Int32) (nn kk : Nat) (tb vb : Nat → Int32) (sb : Nat → Int64) (fm tq : Nat → Int32) (ii rb : Nat)  (hm : md K M mo ad cd nn kk tb vb sb fm tq) (hii : ii < kk) (hrb : rb < nn) : Met l yX3_turn wsX3_turn ({ frames := 6, cells := 0, slots := 0, locals := 160 } : Room) (va_Pc [.ref mo, .int (nI ii), .int (nI rb)] (gw_I K M)) (va_Qv (fun M1 => md K M1 mo ad (nI 0) nn kk tb vb sb fm (upd tq ii (nI rb)) ∧ mfr M M1 mo ad) (gw_I K) (gw_A K)) 0 0 (gw_A K) := by
  refine Met.ofW (cc := cX3_turn) (maxL := 3) (ret := none) (by decide) rfl ?_
  intro p e s m args below meth c s₁ B hml hv
  obtain ⟨hav, hI⟩ := hv
  have hx := B.exec
  have hb := B.bytes
  have hr := B.returns
  have hts := atoms_spec (ws := wsX3_turn) B.pre
  have hown : s.vm.findClass RX3 = some m.cls := findClass_of_methodNamed B.named
  have hlocks : meth.locks = false := B.notSynchronized
  have hT := hI.2.2
  have hK := hT.K
  have hG := hI.B
  have hf7 := hts (.fieldLink RX3 7 "DotGossipModel" "replicas" "I") (by decide +kernel)
  have hf28 := hts (.fieldLink RX3 28 "DotGossipModel" "to" "[I") (by decide +kernel)
  have hf31 := hts (.fieldLink RX3 31 "DotGossipModel" "code" "I") (by decide +kernel)
  have hf41 := hts (.fieldLink RX3 41 "DotGossipModel" "messages" "I") (by decide +kernel)
  have hinX3 : ∀ w ∈ wsX30, w ∈ wsX3_turn := by decide +kernel
  have hE : entryFrame m args 3 = entryFrame m ([.ref mo, .int (nI ii), .int (nI rb)] : List Value).toArray 3 := by rw [hav]
  rw [hE]
  have hl := lv_entry ([.ref mo, .int (nI ii), .int (nI rb)]) (n := 3) (Nat.le_of_ble_eq_true rfl)
  rw [lg_entry_eq]
  generalize (lg_sl ([.ref mo, .int (nI ii), .int (nI rb)]) ++ List.replicate (3 - (lg_sl ([.ref mo, .int (nI ii), .int (nI rb)])).length) Slot.unset).toArray = ls at hl ⊢
  have hl : lv_has ls 3 [(0, .ref mo), (1, .int (nI ii)), (2, .int (nI rb))] := hl
  obtain ⟨p0_b, p0_o, p0_0, p0_1, p0_2, p0_3, p0_4, p0_ne⟩ := id hm
  have ne_o0 : mo ≠ ad 0 := gw_io p0_o p0_0
  have ne_o1 : mo ≠ ad 1 := gw_io p0_o p0_1
  have ne_o2 : mo ≠ ad 2 := gw_io p0_o p0_2
  have ne_o3 : mo ≠ ad 3 := gw_io p0_o p0_3
  have ne_o4 : mo ≠ ad 4 := gw_io p0_o p0_4
  have hk100 := p0_b.2
  refine lv_aload_n hx hb dX3_turn_0 rfl (lv_at hl 0 rfl) ?_
  refine lv_aload_n hx hb dX3_turn_1 rfl (lv_at hl 0 rfl) ?_
  refine lv_iload_n hx hb dX3_turn_2 rfl (lv_at hl 1 rfl) ?_
  refine gw_calli (va_runV (As := [.int (nI ii)]) (rest := [.ref mo]) ⟨hx, hb, hml, hown, hts⟩ (c_isMsg l K M mo ad _ _ _ _ _ _ _ _ (nI ii) hm) (cwV 1 hts gX3_turn_X3_isMessage rfl rfl rfl (by decide +kernel) ⟨Nat.le_of_ble_eq_true rfl, Nat.le_of_ble_eq_true rfl⟩) (gw_preV hG hT p0_o rfl) rfl rfl hl.1 rfl (lv_room (Nat.le_of_ble_eq_true rfl)) dX3_turn_3 ⟨Nat.le_of_ble_eq_true rfl, Nat.le_of_ble_eq_true rfl⟩) hG (fun r_439 M_440 H locs hw hG => ?_)
  rw [hw.1] at hG
  refine gw_as (tst_y hw.2 ⟨ii, hii, rfl⟩) ?_
  refine lv_if_eq hx hb (tgt := 21) dX3_turn_6 (by decide) (fun hc => absurd hc (by decide)) (fun hc => ?_)
  refine lv_aload_n hx hb dX3_turn_9 rfl (lv_at hl 0 rfl) ?_
  refine lv_iload_n hx hb dX3_turn_10 rfl (lv_at hl 2 rfl) ?_
  refine gw_calli (va_runV (As := [.int (nI rb)]) (rest := [.ref mo]) ⟨hx, hb, hml, hown, hts⟩ (c_isRep l K M mo ad _ _ _ _ _ _ _ _ (nI rb) hm) (cwV 1 hts gX3_turn_X3_isReplica rfl rfl rfl (by decide +kernel) ⟨Nat.le_of_ble_eq_true rfl, Nat.le_of_ble_eq_true rfl⟩) (gw_preV hG hT p0_o rfl) rfl rfl hl.1 rfl (lv_room (Nat.le_of_ble_eq_true rfl)) dX3_turn_11 ⟨Nat.le_of_ble_eq_true rfl, Nat.le_of_ble_eq_true rfl⟩) hG (fun r_441 M_442 H locs hw hG => ?_)
  rw [hw.1] at hG
  refine gw_as (tst_y hw.2 ⟨rb, hrb, rfl⟩) ?_
  refine lv_if_eq hx hb (tgt := 21) dX3_turn_14 (by decide) (fun hc => absurd hc (by decide)) (fun hc => ?_)
  refine lv_iconst (v := nI 0) hx hb dX3_turn_17 (by decide) ?_
  refine lv_goto (tgt := 22) hx hb dX3_turn_18 (by decide) ?_
  refine gw_calli (va_runV (As := [.int (nI 0)]) (rest := []) ⟨hx, hb, hml, hown, hts⟩ (c_ref0 l K M mo ad _ _ _ _ _ _ _ _ 0 hm) (cwV 1 hts gX3_turn_X3_refuses rfl rfl rfl (by decide +kernel) ⟨Nat.le_of_ble_eq_true rfl, Nat.le_of_ble_eq_true rfl⟩) (gw_preV hG hT p0_o rfl) rfl rfl hl.1 rfl (lv_room (Nat.le_of_ble_eq_true rfl)) dX3_turn_22 ⟨Nat.le_of_ble_eq_true rfl, Nat.le_of_ble_eq_true rfl⟩) hG (fun r_443 M_444 H locs hw hG => ?_)
  rw [hw.1]
  obtain ⟨hm_445, fr_446⟩ := hw.2
  have fr_447 : mfr M M_444 mo ad := mfr.tr mfr.rf fr_446
  obtain ⟨p_448_b, p_448_o, p_448_0, p_448_1, p_448_2, p_448_3, p_448_4, p_448_ne⟩ := id hm_445
  refine lv_if_ne hx hb (tgt := 35) dX3_turn_25 (by decide) (fun hc => absurd rfl hc) (fun hc => ?_)
  refine lv_aload_n hx hb dX3_turn_28 rfl (lv_at hl 0 rfl) ?_
  refine gw_get (ci := 4) (C := RX3) (T := TX3) (N := 8) hx hb hts hinX3 hown hK hG p_448_o rfl 7 (by decide) hf28 (fun _ h9 => h9) rfl dX3_turn_29 ?_
  refine lv_iload_n hx hb dX3_turn_32 rfl (lv_at hl 1 rfl) ?_
  refine lv_iload_n hx hb dX3_turn_33 rfl (lv_at hl 2 rfl) ?_
  refine gw_iast_n hx hb hK hG p_448_4 0 rfl (by omega) (by omega) dX3_turn_34 (fun H locs hG => ?_)
  obtain ⟨M_449, hM_450⟩ : ∃ M1 : gw_M, M1 = gw_up M_444 (ad 4) (.inl (K.2.1 0, 100, .inl (upd tq ii (nI rb)))) := ⟨_, rfl⟩
  have hG : gw_B K M_449 s.heap H locs := by rw [hM_450]; exact hG
  have hc_451 := (congrFun hM_450 mo).trans (gw_k ne_o4 p_448_o)
  have hc_452 := (congrFun hM_450 (ad 0)).trans (gw_k (fun z => absurd (p0_ne 0 4 (by decide) (by decide) z) (by decide)) p_448_0)
  have hc_453 := (congrFun hM_450 (ad 1)).trans (gw_k (fun z => absurd (p0_ne 1 4 (by decide) (by decide) z) (by decide)) p_448_1)
  have hc_454 := (congrFun hM_450 (ad 2)).trans (gw_k (fun z => absurd (p0_ne 2 4 (by decide) (by decide) z) (by decide)) p_448_2)
  have hc_455 := (congrFun hM_450 (ad 3)).trans (gw_k (fun z => absurd (p0_ne 3 4 (by decide) (by decide) z) (by decide)) p_448_3)
  have hc_456 : M_449 (ad 4) = some (.inl (K.2.1 0, 100, .inl (upd tq ii (nI rb)))) := (congrFun hM_450 _).trans gw_s
  have fr_457 : mfr M M_449 mo ad := fun q h1 h2 => ((congrFun hM_450 q).trans (gw_n (h2 4 (by decide)))).trans (fr_447 q h1 h2)
  exact gw_vret hx hb hr hlocks hG hT (by omega) (by omega) dX3_turn_35 ⟨⟨p0_b, hc_451, hc_452, hc_453, hc_454, hc_455, hc_456, p0_ne⟩, fr_457⟩

set_option maxHeartbeats 4000000 in
set_option maxRecDepth 100000 in
/-- m_turn_no -/
theorem m_turn_no (l : Launch) (K : gw_C) (M : gw_M) (mo : Nat) (ad : Nat → Nat) (cd : Int32) (nn kk : Nat) (tb vb : Nat → Int32) (sb : Nat → Int64) (fm tq : Nat → Int32) (i9 b9 : Int32)  (hm : md K M mo ad cd nn kk tb vb sb fm tq) (hP : ¬ (inN i9 kk ∧ inN b9 nn)) : Met l yX3_turn wsX3_turn ({ frames := 6, cells := 0, slots := 0, locals := 160 } : Room) (va_Pc [.ref mo, .int i9, .int b9] (gw_I K M)) (va_Qv (fun M1 => md K M1 mo ad (nI 1) nn kk tb vb sb fm tq ∧ mfr M M1 mo ad) (gw_I K) (gw_A K)) 0 0 (gw_A K) := by
  refine Met.ofW (cc := cX3_turn) (maxL := 3) (ret := none) (by decide) rfl ?_
  intro p e s m args below meth c s₁ B hml hv
  obtain ⟨hav, hI⟩ := hv
  have hx := B.exec
  have hb := B.bytes
  have hr := B.returns
  have hts := atoms_spec (ws := wsX3_turn) B.pre
  have hown : s.vm.findClass RX3 = some m.cls := findClass_of_methodNamed B.named
  have hlocks : meth.locks = false := B.notSynchronized
  have hT := hI.2.2
  have hK := hT.K
  have hG := hI.B
  have hf7 := hts (.fieldLink RX3 7 "DotGossipModel" "replicas" "I") (by decide +kernel)
  have hf28 := hts (.fieldLink RX3 28 "DotGossipModel" "to" "[I") (by decide +kernel)
  have hf31 := hts (.fieldLink RX3 31 "DotGossipModel" "code" "I") (by decide +kernel)
  have hf41 := hts (.fieldLink RX3 41 "DotGossipModel" "messages" "I") (by decide +kernel)
  have hinX3 : ∀ w ∈ wsX30, w ∈ wsX3_turn := by decide +kernel
  have hE : entryFrame m args 3 = entryFrame m ([.ref mo, .int i9, .int b9] : List Value).toArray 3 := by rw [hav]
  rw [hE]
  have hl := lv_entry ([.ref mo, .int i9, .int b9]) (n := 3) (Nat.le_of_ble_eq_true rfl)
  rw [lg_entry_eq]
  generalize (lg_sl ([.ref mo, .int i9, .int b9]) ++ List.replicate (3 - (lg_sl ([.ref mo, .int i9, .int b9])).length) Slot.unset).toArray = ls at hl ⊢
  have hl : lv_has ls 3 [(0, .ref mo), (1, .int i9), (2, .int b9)] := hl
  obtain ⟨p0_b, p0_o, p0_0, p0_1, p0_2, p0_3, p0_4, p0_ne⟩ := id hm
  have ne_o0 : mo ≠ ad 0 := gw_io p0_o p0_0
  have ne_o1 : mo ≠ ad 1 := gw_io p0_o p0_1
  have ne_o2 : mo ≠ ad 2 := gw_io p0_o p0_2
  have ne_o3 : mo ≠ ad 3 := gw_io p0_o p0_3
  have ne_o4 : mo ≠ ad 4 := gw_io p0_o p0_4
  refine lv_aload_n hx hb dX3_turn_0 rfl (lv_at hl 0 rfl) ?_
  refine lv_aload_n hx hb dX3_turn_1 rfl (lv_at hl 0 rfl) ?_
  refine lv_iload_n hx hb dX3_turn_2 rfl (lv_at hl 1 rfl) ?_
  refine gw_calli (va_runV (As := [.int i9]) (rest := [.ref mo]) ⟨hx, hb, hml, hown, hts⟩ (c_isMsg l K M mo ad _ _ _ _ _ _ _ _ i9 hm) (cwV 1 hts gX3_turn_X3_isMessage rfl rfl rfl (by decide +kernel) ⟨Nat.le_of_ble_eq_true rfl, Nat.le_of_ble_eq_true rfl⟩) (gw_preV hG hT p0_o rfl) rfl rfl hl.1 rfl (lv_room (Nat.le_of_ble_eq_true rfl)) dX3_turn_3 ⟨Nat.le_of_ble_eq_true rfl, Nat.le_of_ble_eq_true rfl⟩) hG (fun r_458 M_459 H locs hw hG => ?_)
  have h1 := hw.2
  rw [hw.1] at hG
  refine lv_if_eq hx hb (tgt := 21) dX3_turn_6 (by decide) (fun hz1 => ?_) (fun hz1 => ?_)
  · refine lv_iconst (v := nI 1) hx hb dX3_turn_21 (by decide) ?_
    refine gw_calli (va_runV (As := [.int (nI 1)]) (rest := []) ⟨hx, hb, hml, hown, hts⟩ (c_refp l K M mo ad _ _ _ _ _ _ _ _ 1 hm (by decide)) (cwV 1 hts gX3_turn_X3_refuses rfl rfl rfl (by decide +kernel) ⟨Nat.le_of_ble_eq_true rfl, Nat.le_of_ble_eq_true rfl⟩) (gw_preV hG hT p0_o rfl) rfl rfl hl.1 rfl (lv_room (Nat.le_of_ble_eq_true rfl)) dX3_turn_22 ⟨Nat.le_of_ble_eq_true rfl, Nat.le_of_ble_eq_true rfl⟩) hG (fun r_460 M_461 H locs hw hG => ?_)
    rw [hw.1]
    obtain ⟨hm_462, fr_463⟩ := hw.2
    have fr_464 : mfr M M_461 mo ad := mfr.tr mfr.rf fr_463
    obtain ⟨p_465_b, p_465_o, p_465_0, p_465_1, p_465_2, p_465_3, p_465_4, p_465_ne⟩ := id hm_462
    refine lv_if_ne hx hb (tgt := 35) dX3_turn_25 (by decide) (fun hc => ?_) (fun hc => absurd hc (by decide))
    exact gw_vret hx hb hr hlocks hG hT (by omega) (by omega) dX3_turn_35 ⟨⟨p0_b, p_465_o, p_465_0, p_465_1, p_465_2, p_465_3, p_465_4, p0_ne⟩, fr_464⟩
  · refine lv_aload_n hx hb dX3_turn_9 rfl (lv_at hl 0 rfl) ?_
    refine lv_iload_n hx hb dX3_turn_10 rfl (lv_at hl 2 rfl) ?_
    refine gw_calli (va_runV (As := [.int b9]) (rest := [.ref mo]) ⟨hx, hb, hml, hown, hts⟩ (c_isRep l K M mo ad _ _ _ _ _ _ _ _ b9 hm) (cwV 1 hts gX3_turn_X3_isReplica rfl rfl rfl (by decide +kernel) ⟨Nat.le_of_ble_eq_true rfl, Nat.le_of_ble_eq_true rfl⟩) (gw_preV hG hT p0_o rfl) rfl rfl hl.1 rfl (lv_room (Nat.le_of_ble_eq_true rfl)) dX3_turn_11 ⟨Nat.le_of_ble_eq_true rfl, Nat.le_of_ble_eq_true rfl⟩) hG (fun r_466 M_467 H locs hw hG => ?_)
    rw [hw.1] at hG
    refine gw_as (tst_n hw.2 (fun q => hP ⟨tst_o h1 hz1, q⟩)) ?_
    refine lv_if_eq hx hb (tgt := 21) dX3_turn_14 (by decide) (fun hc => ?_) (fun hc => absurd (by decide) hc)
    refine lv_iconst (v := nI 1) hx hb dX3_turn_21 (by decide) ?_
    refine gw_calli (va_runV (As := [.int (nI 1)]) (rest := []) ⟨hx, hb, hml, hown, hts⟩ (c_refp l K M mo ad _ _ _ _ _ _ _ _ 1 hm (by decide)) (cwV 1 hts gX3_turn_X3_refuses rfl rfl rfl (by decide +kernel) ⟨Nat.le_of_ble_eq_true rfl, Nat.le_of_ble_eq_true rfl⟩) (gw_preV hG hT p0_o rfl) rfl rfl hl.1 rfl (lv_room (Nat.le_of_ble_eq_true rfl)) dX3_turn_22 ⟨Nat.le_of_ble_eq_true rfl, Nat.le_of_ble_eq_true rfl⟩) hG (fun r_468 M_469 H locs hw hG => ?_)
    rw [hw.1]
    obtain ⟨hm_470, fr_471⟩ := hw.2
    have fr_472 : mfr M M_469 mo ad := mfr.tr mfr.rf fr_471
    obtain ⟨p_473_b, p_473_o, p_473_0, p_473_1, p_473_2, p_473_3, p_473_4, p_473_ne⟩ := id hm_470
    refine lv_if_ne hx hb (tgt := 35) dX3_turn_25 (by decide) (fun hc => ?_) (fun hc => absurd hc (by decide))
    exact gw_vret hx hb hr hlocks hG hT (by omega) (by omega) dX3_turn_35 ⟨⟨p0_b, p_473_o, p_473_0, p_473_1, p_473_2, p_473_3, p_473_4, p0_ne⟩, fr_472⟩

set_option maxHeartbeats 4000000 in
set_option maxRecDepth 100000 in
/-- m_vector -/
theorem m_vector (l : Launch) (K : gw_C) (M : gw_M) (mo : Nat) (ad : Nat → Nat) (cd : Int32) (nn kk : Nat) (tb vb : Nat → Int32) (sb : Nat → Int64) (fm tq : Nat → Int32) (ra rb : Nat)  (hm : md K M mo ad cd nn kk tb vb sb fm tq) (hra : ra < nn) (hrb : rb < nn) : Met l yX3_vector wsX3_vector ({ frames := 6, cells := 0, slots := 0, locals := 160 } : Room) (va_Pc [.ref mo, .int (nI ra), .int (nI rb)] (gw_I K M)) (va_Qi (fun r M1 => r = tb (414 * ra + rb) ∧ md K M1 mo ad (nI 0) nn kk tb vb sb fm tq ∧ mfr M M1 mo ad) (gw_I K) (gw_A K)) 0 0 (gw_A K) := by
  refine Met.ofW (cc := cX3_vector) (maxL := 3) (ret := (some .int)) (by decide) rfl ?_
  intro p e s m args below meth c s₁ B hml hv
  obtain ⟨hav, hI⟩ := hv
  have hx := B.exec
  have hb := B.bytes
  have hr := B.returns
  have hts := atoms_spec (ws := wsX3_vector) B.pre
  have hown : s.vm.findClass RX3 = some m.cls := findClass_of_methodNamed B.named
  have hlocks : meth.locks = false := B.notSynchronized
  have hT := hI.2.2
  have hK := hT.K
  have hG := hI.B
  have hf7 := hts (.fieldLink RX3 7 "DotGossipModel" "replicas" "I") (by decide +kernel)
  have hf14 := hts (.fieldLink RX3 14 "DotGossipModel" "table" "[I") (by decide +kernel)
  have hf31 := hts (.fieldLink RX3 31 "DotGossipModel" "code" "I") (by decide +kernel)
  have hinX3 : ∀ w ∈ wsX30, w ∈ wsX3_vector := by decide +kernel
  have hE : entryFrame m args 3 = entryFrame m ([.ref mo, .int (nI ra), .int (nI rb)] : List Value).toArray 3 := by rw [hav]
  rw [hE]
  have hl := lv_entry ([.ref mo, .int (nI ra), .int (nI rb)]) (n := 3) (Nat.le_of_ble_eq_true rfl)
  rw [lg_entry_eq]
  generalize (lg_sl ([.ref mo, .int (nI ra), .int (nI rb)]) ++ List.replicate (3 - (lg_sl ([.ref mo, .int (nI ra), .int (nI rb)])).length) Slot.unset).toArray = ls at hl ⊢
  have hl : lv_has ls 3 [(0, .ref mo), (1, .int (nI ra)), (2, .int (nI rb))] := hl
  obtain ⟨p0_b, p0_o, p0_0, p0_1, p0_2, p0_3, p0_4, p0_ne⟩ := id hm
  have ne_o0 : mo ≠ ad 0 := gw_io p0_o p0_0
  have ne_o1 : mo ≠ ad 1 := gw_io p0_o p0_1
  have ne_o2 : mo ≠ ad 2 := gw_io p0_o p0_2
  have ne_o3 : mo ≠ ad 3 := gw_io p0_o p0_3
  have ne_o4 : mo ≠ ad 4 := gw_io p0_o p0_4
  have hn6 := p0_b.1
  refine lv_aload_n hx hb dX3_vector_0 rfl (lv_at hl 0 rfl) ?_
  refine lv_aload_n hx hb dX3_vector_1 rfl (lv_at hl 0 rfl) ?_
  refine lv_iload_n hx hb dX3_vector_2 rfl (lv_at hl 1 rfl) ?_
  refine gw_calli (va_runV (As := [.int (nI ra)]) (rest := [.ref mo]) ⟨hx, hb, hml, hown, hts⟩ (c_isRep l K M mo ad _ _ _ _ _ _ _ _ (nI ra) hm) (cwV 1 hts gX3_vector_X3_isReplica rfl rfl rfl (by decide +kernel) ⟨Nat.le_of_ble_eq_true rfl, Nat.le_of_ble_eq_true rfl⟩) (gw_preV hG hT p0_o rfl) rfl rfl hl.1 rfl (lv_room (Nat.le_of_ble_eq_true rfl)) dX3_vector_3 ⟨Nat.le_of_ble_eq_true rfl, Nat.le_of_ble_eq_true rfl⟩) hG (fun r_474 M_475 H locs hw hG => ?_)
  rw [hw.1] at hG
  refine gw_as (tst_y hw.2 ⟨ra, hra, rfl⟩) ?_
  refine lv_if_eq hx hb (tgt := 21) dX3_vector_6 (by decide) (fun hc => absurd hc (by decide)) (fun hc => ?_)
  refine lv_aload_n hx hb dX3_vector_9 rfl (lv_at hl 0 rfl) ?_
  refine lv_iload_n hx hb dX3_vector_10 rfl (lv_at hl 2 rfl) ?_
  refine gw_calli (va_runV (As := [.int (nI rb)]) (rest := [.ref mo]) ⟨hx, hb, hml, hown, hts⟩ (c_isRep l K M mo ad _ _ _ _ _ _ _ _ (nI rb) hm) (cwV 1 hts gX3_vector_X3_isReplica rfl rfl rfl (by decide +kernel) ⟨Nat.le_of_ble_eq_true rfl, Nat.le_of_ble_eq_true rfl⟩) (gw_preV hG hT p0_o rfl) rfl rfl hl.1 rfl (lv_room (Nat.le_of_ble_eq_true rfl)) dX3_vector_11 ⟨Nat.le_of_ble_eq_true rfl, Nat.le_of_ble_eq_true rfl⟩) hG (fun r_476 M_477 H locs hw hG => ?_)
  rw [hw.1] at hG
  refine gw_as (tst_y hw.2 ⟨rb, hrb, rfl⟩) ?_
  refine lv_if_eq hx hb (tgt := 21) dX3_vector_14 (by decide) (fun hc => absurd hc (by decide)) (fun hc => ?_)
  refine lv_iconst (v := nI 0) hx hb dX3_vector_17 (by decide) ?_
  refine lv_goto (tgt := 22) hx hb dX3_vector_18 (by decide) ?_
  refine gw_calli (va_runV (As := [.int (nI 0)]) (rest := []) ⟨hx, hb, hml, hown, hts⟩ (c_ref0 l K M mo ad _ _ _ _ _ _ _ _ 0 hm) (cwV 1 hts gX3_vector_X3_refuses rfl rfl rfl (by decide +kernel) ⟨Nat.le_of_ble_eq_true rfl, Nat.le_of_ble_eq_true rfl⟩) (gw_preV hG hT p0_o rfl) rfl rfl hl.1 rfl (lv_room (Nat.le_of_ble_eq_true rfl)) dX3_vector_22 ⟨Nat.le_of_ble_eq_true rfl, Nat.le_of_ble_eq_true rfl⟩) hG (fun r_478 M_479 H locs hw hG => ?_)
  rw [hw.1]
  obtain ⟨hm_480, fr_481⟩ := hw.2
  have fr_482 : mfr M M_479 mo ad := mfr.tr mfr.rf fr_481
  obtain ⟨p_483_b, p_483_o, p_483_0, p_483_1, p_483_2, p_483_3, p_483_4, p_483_ne⟩ := id hm_480
  refine lv_if_eq hx hb (tgt := 32) dX3_vector_25 (by decide) (fun hc => ?_) (fun hc => absurd (by decide) hc)
  refine lv_aload_n hx hb dX3_vector_32 rfl (lv_at hl 0 rfl) ?_
  refine gw_get (ci := 4) (C := RX3) (T := TX3) (N := 8) hx hb hts hinX3 hown hK hG p_483_o rfl 3 (by decide) hf14 (fun _ h9 => h9) rfl dX3_vector_33 ?_
  refine lv_iload_n hx hb dX3_vector_36 rfl (lv_at hl 1 rfl) ?_
  refine lv_iload_n hx hb dX3_vector_37 rfl (lv_at hl 2 rfl) ?_
  refine gw_calli (va_runS (As := [.int (nI ra), .int (nI rb)]) (rest := [.ref (ad 0)]) ⟨hx, hb, hml, hown, hts⟩ (c_vectorAt l K M_479 ra rb) (va_cwS 2 hts gX3_vector_X3_vectorAt rfl rfl rfl (by decide +kernel) ⟨Nat.le_of_ble_eq_true rfl, Nat.le_of_ble_eq_true rfl⟩) (gw_preS hG hT) rfl rfl hl.1 rfl (lv_room (Nat.le_of_ble_eq_true rfl)) dX3_vector_38 ⟨Nat.le_of_ble_eq_true rfl, Nat.le_of_ble_eq_true rfl⟩) hG (fun r_484 M_485 H locs hw hG => ?_)
  rw [hw.1] at hG
  refine gw_as hw.2 ?_
  refine gw_iald_n hx hb hK hG p_483_0 0 rfl (by omega) (by omega) dX3_vector_41 ?_
  exact gw_iret hx hb hr hlocks hG hT (by omega) (by omega) dX3_vector_42 ⟨rfl, ⟨p0_b, p_483_o, p_483_0, p_483_1, p_483_2, p_483_3, p_483_4, p0_ne⟩, fr_482⟩

set_option maxHeartbeats 4000000 in
set_option maxRecDepth 100000 in
/-- m_vector_no -/
theorem m_vector_no (l : Launch) (K : gw_C) (M : gw_M) (mo : Nat) (ad : Nat → Nat) (cd : Int32) (nn kk : Nat) (tb vb : Nat → Int32) (sb : Nat → Int64) (fm tq : Nat → Int32) (a9 b9 : Int32)  (hm : md K M mo ad cd nn kk tb vb sb fm tq) (hP : ¬ (inN a9 nn ∧ inN b9 nn)) : Met l yX3_vector wsX3_vector ({ frames := 6, cells := 0, slots := 0, locals := 160 } : Room) (va_Pc [.ref mo, .int a9, .int b9] (gw_I K M)) (va_Qi (fun r M1 => md K M1 mo ad (nI 1) nn kk tb vb sb fm tq ∧ mfr M M1 mo ad) (gw_I K) (gw_A K)) 0 0 (gw_A K) := by
  refine Met.ofW (cc := cX3_vector) (maxL := 3) (ret := (some .int)) (by decide) rfl ?_
  intro p e s m args below meth c s₁ B hml hv
  obtain ⟨hav, hI⟩ := hv
  have hx := B.exec
  have hb := B.bytes
  have hr := B.returns
  have hts := atoms_spec (ws := wsX3_vector) B.pre
  have hown : s.vm.findClass RX3 = some m.cls := findClass_of_methodNamed B.named
  have hlocks : meth.locks = false := B.notSynchronized
  have hT := hI.2.2
  have hK := hT.K
  have hG := hI.B
  have hf7 := hts (.fieldLink RX3 7 "DotGossipModel" "replicas" "I") (by decide +kernel)
  have hf14 := hts (.fieldLink RX3 14 "DotGossipModel" "table" "[I") (by decide +kernel)
  have hf31 := hts (.fieldLink RX3 31 "DotGossipModel" "code" "I") (by decide +kernel)
  have hinX3 : ∀ w ∈ wsX30, w ∈ wsX3_vector := by decide +kernel
  have hE : entryFrame m args 3 = entryFrame m ([.ref mo, .int a9, .int b9] : List Value).toArray 3 := by rw [hav]
  rw [hE]
  have hl := lv_entry ([.ref mo, .int a9, .int b9]) (n := 3) (Nat.le_of_ble_eq_true rfl)
  rw [lg_entry_eq]
  generalize (lg_sl ([.ref mo, .int a9, .int b9]) ++ List.replicate (3 - (lg_sl ([.ref mo, .int a9, .int b9])).length) Slot.unset).toArray = ls at hl ⊢
  have hl : lv_has ls 3 [(0, .ref mo), (1, .int a9), (2, .int b9)] := hl
  obtain ⟨p0_b, p0_o, p0_0, p0_1, p0_2, p0_3, p0_4, p0_ne⟩ := id hm
  have ne_o0 : mo ≠ ad 0 := gw_io p0_o p0_0
  have ne_o1 : mo ≠ ad 1 := gw_io p0_o p0_1
  have ne_o2 : mo ≠ ad 2 := gw_io p0_o p0_2
  have ne_o3 : mo ≠ ad 3 := gw_io p0_o p0_3
  have ne_o4 : mo ≠ ad 4 := gw_io p0_o p0_4
  refine lv_aload_n hx hb dX3_vector_0 rfl (lv_at hl 0 rfl) ?_
  refine lv_aload_n hx hb dX3_vector_1 rfl (lv_at hl 0 rfl) ?_
  refine lv_iload_n hx hb dX3_vector_2 rfl (lv_at hl 1 rfl) ?_
  refine gw_calli (va_runV (As := [.int a9]) (rest := [.ref mo]) ⟨hx, hb, hml, hown, hts⟩ (c_isRep l K M mo ad _ _ _ _ _ _ _ _ a9 hm) (cwV 1 hts gX3_vector_X3_isReplica rfl rfl rfl (by decide +kernel) ⟨Nat.le_of_ble_eq_true rfl, Nat.le_of_ble_eq_true rfl⟩) (gw_preV hG hT p0_o rfl) rfl rfl hl.1 rfl (lv_room (Nat.le_of_ble_eq_true rfl)) dX3_vector_3 ⟨Nat.le_of_ble_eq_true rfl, Nat.le_of_ble_eq_true rfl⟩) hG (fun r_486 M_487 H locs hw hG => ?_)
  have h1 := hw.2
  rw [hw.1] at hG
  refine lv_if_eq hx hb (tgt := 21) dX3_vector_6 (by decide) (fun hz1 => ?_) (fun hz1 => ?_)
  · refine lv_iconst (v := nI 1) hx hb dX3_vector_21 (by decide) ?_
    refine gw_calli (va_runV (As := [.int (nI 1)]) (rest := []) ⟨hx, hb, hml, hown, hts⟩ (c_refp l K M mo ad _ _ _ _ _ _ _ _ 1 hm (by decide)) (cwV 1 hts gX3_vector_X3_refuses rfl rfl rfl (by decide +kernel) ⟨Nat.le_of_ble_eq_true rfl, Nat.le_of_ble_eq_true rfl⟩) (gw_preV hG hT p0_o rfl) rfl rfl hl.1 rfl (lv_room (Nat.le_of_ble_eq_true rfl)) dX3_vector_22 ⟨Nat.le_of_ble_eq_true rfl, Nat.le_of_ble_eq_true rfl⟩) hG (fun r_488 M_489 H locs hw hG => ?_)
    rw [hw.1]
    obtain ⟨hm_490, fr_491⟩ := hw.2
    have fr_492 : mfr M M_489 mo ad := mfr.tr mfr.rf fr_491
    obtain ⟨p_493_b, p_493_o, p_493_0, p_493_1, p_493_2, p_493_3, p_493_4, p_493_ne⟩ := id hm_490
    refine lv_if_eq hx hb (tgt := 32) dX3_vector_25 (by decide) (fun hc => absurd hc (by decide)) (fun hc => ?_)
    refine lv_iconst (v := nI 0) hx hb dX3_vector_28 (by decide) ?_
    refine lv_goto (tgt := 42) hx hb dX3_vector_29 (by decide) ?_
    exact gw_iret hx hb hr hlocks hG hT (by omega) (by omega) dX3_vector_42 ⟨⟨p0_b, p_493_o, p_493_0, p_493_1, p_493_2, p_493_3, p_493_4, p0_ne⟩, fr_492⟩
  · refine lv_aload_n hx hb dX3_vector_9 rfl (lv_at hl 0 rfl) ?_
    refine lv_iload_n hx hb dX3_vector_10 rfl (lv_at hl 2 rfl) ?_
    refine gw_calli (va_runV (As := [.int b9]) (rest := [.ref mo]) ⟨hx, hb, hml, hown, hts⟩ (c_isRep l K M mo ad _ _ _ _ _ _ _ _ b9 hm) (cwV 1 hts gX3_vector_X3_isReplica rfl rfl rfl (by decide +kernel) ⟨Nat.le_of_ble_eq_true rfl, Nat.le_of_ble_eq_true rfl⟩) (gw_preV hG hT p0_o rfl) rfl rfl hl.1 rfl (lv_room (Nat.le_of_ble_eq_true rfl)) dX3_vector_11 ⟨Nat.le_of_ble_eq_true rfl, Nat.le_of_ble_eq_true rfl⟩) hG (fun r_494 M_495 H locs hw hG => ?_)
    rw [hw.1] at hG
    refine gw_as (tst_n hw.2 (fun q => hP ⟨tst_o h1 hz1, q⟩)) ?_
    refine lv_if_eq hx hb (tgt := 21) dX3_vector_14 (by decide) (fun hc => ?_) (fun hc => absurd (by decide) hc)
    refine lv_iconst (v := nI 1) hx hb dX3_vector_21 (by decide) ?_
    refine gw_calli (va_runV (As := [.int (nI 1)]) (rest := []) ⟨hx, hb, hml, hown, hts⟩ (c_refp l K M mo ad _ _ _ _ _ _ _ _ 1 hm (by decide)) (cwV 1 hts gX3_vector_X3_refuses rfl rfl rfl (by decide +kernel) ⟨Nat.le_of_ble_eq_true rfl, Nat.le_of_ble_eq_true rfl⟩) (gw_preV hG hT p0_o rfl) rfl rfl hl.1 rfl (lv_room (Nat.le_of_ble_eq_true rfl)) dX3_vector_22 ⟨Nat.le_of_ble_eq_true rfl, Nat.le_of_ble_eq_true rfl⟩) hG (fun r_496 M_497 H locs hw hG => ?_)
    rw [hw.1]
    obtain ⟨hm_498, fr_499⟩ := hw.2
    have fr_500 : mfr M M_497 mo ad := mfr.tr mfr.rf fr_499
    obtain ⟨p_501_b, p_501_o, p_501_0, p_501_1, p_501_2, p_501_3, p_501_4, p_501_ne⟩ := id hm_498
    refine lv_if_eq hx hb (tgt := 32) dX3_vector_25 (by decide) (fun hc => absurd hc (by decide)) (fun hc => ?_)
    refine lv_iconst (v := nI 0) hx hb dX3_vector_28 (by decide) ?_
    refine lv_goto (tgt := 42) hx hb dX3_vector_29 (by decide) ?_
    exact gw_iret hx hb hr hlocks hG hT (by omega) (by omega) dX3_vector_42 ⟨⟨p0_b, p_501_o, p_501_0, p_501_1, p_501_2, p_501_3, p_501_4, p0_ne⟩, fr_500⟩

set_option maxHeartbeats 4000000 in
set_option maxRecDepth 100000 in
/-- m_same_no -/
theorem m_same_no (l : Launch) (K : gw_C) (M : gw_M) (mo : Nat) (ad : Nat → Nat) (cd : Int32) (nn kk : Nat) (tb vb : Nat → Int32) (sb : Nat → Int64) (fm tq : Nat → Int32) (a9 b9 : Int32)  (hm : md K M mo ad cd nn kk tb vb sb fm tq) (hP : ¬ (inN a9 nn ∧ inN b9 nn)) : Met l yX3_same wsX3_same ({ frames := 6, cells := 0, slots := 0, locals := 160 } : Room) (va_Pc [.ref mo, .int a9, .int b9] (gw_I K M)) (va_Qi (fun r M1 => md K M1 mo ad (nI 1) nn kk tb vb sb fm tq ∧ mfr M M1 mo ad) (gw_I K) (gw_A K)) 0 0 (gw_A K) := by
  refine Met.ofW (cc := cX3_same) (maxL := 6) (ret := (some .boolean)) (by decide) rfl ?_
  intro p e s m args below meth c s₁ B hml hv
  obtain ⟨hav, hI⟩ := hv
  have hx := B.exec
  have hb := B.bytes
  have hr := B.returns
  have hts := atoms_spec (ws := wsX3_same) B.pre
  have hown : s.vm.findClass RX3 = some m.cls := findClass_of_methodNamed B.named
  have hlocks : meth.locks = false := B.notSynchronized
  have hT := hI.2.2
  have hK := hT.K
  have hG := hI.B
  have hf7 := hts (.fieldLink RX3 7 "DotGossipModel" "replicas" "I") (by decide +kernel)
  have hf14 := hts (.fieldLink RX3 14 "DotGossipModel" "table" "[I") (by decide +kernel)
  have hf18 := hts (.fieldLink RX3 18 "DotGossipModel" "values" "[I") (by decide +kernel)
  have hf21 := hts (.fieldLink RX3 21 "DotGossipModel" "sums" "[J") (by decide +kernel)
  have hf31 := hts (.fieldLink RX3 31 "DotGossipModel" "code" "I") (by decide +kernel)
  have hinX3 : ∀ w ∈ wsX30, w ∈ wsX3_same := by decide +kernel
  have hE : entryFrame m args 6 = entryFrame m ([.ref mo, .int a9, .int b9] : List Value).toArray 6 := by rw [hav]
  rw [hE]
  have hl := lv_entry ([.ref mo, .int a9, .int b9]) (n := 6) (Nat.le_of_ble_eq_true rfl)
  rw [lg_entry_eq]
  generalize (lg_sl ([.ref mo, .int a9, .int b9]) ++ List.replicate (6 - (lg_sl ([.ref mo, .int a9, .int b9])).length) Slot.unset).toArray = ls at hl ⊢
  have hl : lv_has ls 6 [(0, .ref mo), (1, .int a9), (2, .int b9)] := hl
  obtain ⟨p0_b, p0_o, p0_0, p0_1, p0_2, p0_3, p0_4, p0_ne⟩ := id hm
  have ne_o0 : mo ≠ ad 0 := gw_io p0_o p0_0
  have ne_o1 : mo ≠ ad 1 := gw_io p0_o p0_1
  have ne_o2 : mo ≠ ad 2 := gw_io p0_o p0_2
  have ne_o3 : mo ≠ ad 3 := gw_io p0_o p0_3
  have ne_o4 : mo ≠ ad 4 := gw_io p0_o p0_4
  refine lv_aload_n hx hb dX3_same_0 rfl (lv_at hl 0 rfl) ?_
  refine lv_aload_n hx hb dX3_same_1 rfl (lv_at hl 0 rfl) ?_
  refine lv_iload_n hx hb dX3_same_2 rfl (lv_at hl 1 rfl) ?_
  refine gw_calli (va_runV (As := [.int a9]) (rest := [.ref mo]) ⟨hx, hb, hml, hown, hts⟩ (c_isRep l K M mo ad _ _ _ _ _ _ _ _ a9 hm) (cwV 1 hts gX3_same_X3_isReplica rfl rfl rfl (by decide +kernel) ⟨Nat.le_of_ble_eq_true rfl, Nat.le_of_ble_eq_true rfl⟩) (gw_preV hG hT p0_o rfl) rfl rfl hl.1 rfl (lv_room (Nat.le_of_ble_eq_true rfl)) dX3_same_3 ⟨Nat.le_of_ble_eq_true rfl, Nat.le_of_ble_eq_true rfl⟩) hG (fun r_502 M_503 H locs hw hG => ?_)
  have h1 := hw.2
  rw [hw.1] at hG
  refine lv_if_eq hx hb (tgt := 21) dX3_same_6 (by decide) (fun hz1 => ?_) (fun hz1 => ?_)
  · refine lv_iconst (v := nI 1) hx hb dX3_same_21 (by decide) ?_
    refine gw_calli (va_runV (As := [.int (nI 1)]) (rest := []) ⟨hx, hb, hml, hown, hts⟩ (c_refp l K M mo ad _ _ _ _ _ _ _ _ 1 hm (by decide)) (cwV 1 hts gX3_same_X3_refuses rfl rfl rfl (by decide +kernel) ⟨Nat.le_of_ble_eq_true rfl, Nat.le_of_ble_eq_true rfl⟩) (gw_preV hG hT p0_o rfl) rfl rfl hl.1 rfl (lv_room (Nat.le_of_ble_eq_true rfl)) dX3_same_22 ⟨Nat.le_of_ble_eq_true rfl, Nat.le_of_ble_eq_true rfl⟩) hG (fun r_504 M_505 H locs hw hG => ?_)
    rw [hw.1]
    obtain ⟨hm_506, fr_507⟩ := hw.2
    have fr_508 : mfr M M_505 mo ad := mfr.tr mfr.rf fr_507
    obtain ⟨p_509_b, p_509_o, p_509_0, p_509_1, p_509_2, p_509_3, p_509_4, p_509_ne⟩ := id hm_506
    refine lv_if_eq hx hb (tgt := 30) dX3_same_25 (by decide) (fun hc => absurd hc (by decide)) (fun hc => ?_)
    refine lv_iconst (v := nI 0) hx hb dX3_same_28 (by decide) ?_
    exact gw_zret hx hb hr hlocks hG hT (by omega) (by omega) dX3_same_29 (by decide) ⟨⟨p0_b, p_509_o, p_509_0, p_509_1, p_509_2, p_509_3, p_509_4, p0_ne⟩, fr_508⟩
  · refine lv_aload_n hx hb dX3_same_9 rfl (lv_at hl 0 rfl) ?_
    refine lv_iload_n hx hb dX3_same_10 rfl (lv_at hl 2 rfl) ?_
    refine gw_calli (va_runV (As := [.int b9]) (rest := [.ref mo]) ⟨hx, hb, hml, hown, hts⟩ (c_isRep l K M mo ad _ _ _ _ _ _ _ _ b9 hm) (cwV 1 hts gX3_same_X3_isReplica rfl rfl rfl (by decide +kernel) ⟨Nat.le_of_ble_eq_true rfl, Nat.le_of_ble_eq_true rfl⟩) (gw_preV hG hT p0_o rfl) rfl rfl hl.1 rfl (lv_room (Nat.le_of_ble_eq_true rfl)) dX3_same_11 ⟨Nat.le_of_ble_eq_true rfl, Nat.le_of_ble_eq_true rfl⟩) hG (fun r_510 M_511 H locs hw hG => ?_)
    rw [hw.1] at hG
    refine gw_as (tst_n hw.2 (fun q => hP ⟨tst_o h1 hz1, q⟩)) ?_
    refine lv_if_eq hx hb (tgt := 21) dX3_same_14 (by decide) (fun hc => ?_) (fun hc => absurd (by decide) hc)
    refine lv_iconst (v := nI 1) hx hb dX3_same_21 (by decide) ?_
    refine gw_calli (va_runV (As := [.int (nI 1)]) (rest := []) ⟨hx, hb, hml, hown, hts⟩ (c_refp l K M mo ad _ _ _ _ _ _ _ _ 1 hm (by decide)) (cwV 1 hts gX3_same_X3_refuses rfl rfl rfl (by decide +kernel) ⟨Nat.le_of_ble_eq_true rfl, Nat.le_of_ble_eq_true rfl⟩) (gw_preV hG hT p0_o rfl) rfl rfl hl.1 rfl (lv_room (Nat.le_of_ble_eq_true rfl)) dX3_same_22 ⟨Nat.le_of_ble_eq_true rfl, Nat.le_of_ble_eq_true rfl⟩) hG (fun r_512 M_513 H locs hw hG => ?_)
    rw [hw.1]
    obtain ⟨hm_514, fr_515⟩ := hw.2
    have fr_516 : mfr M M_513 mo ad := mfr.tr mfr.rf fr_515
    obtain ⟨p_517_b, p_517_o, p_517_0, p_517_1, p_517_2, p_517_3, p_517_4, p_517_ne⟩ := id hm_514
    refine lv_if_eq hx hb (tgt := 30) dX3_same_25 (by decide) (fun hc => absurd hc (by decide)) (fun hc => ?_)
    refine lv_iconst (v := nI 0) hx hb dX3_same_28 (by decide) ?_
    exact gw_zret hx hb hr hlocks hG hT (by omega) (by omega) dX3_same_29 (by decide) ⟨⟨p0_b, p_517_o, p_517_0, p_517_1, p_517_2, p_517_3, p_517_4, p0_ne⟩, fr_516⟩

set_option maxHeartbeats 4000000 in
set_option maxRecDepth 100000 in
/-- m_dot_no -/
theorem m_dot_no (l : Launch) (K : gw_C) (M : gw_M) (mo : Nat) (ad : Nat → Nat) (cd : Int32) (nn kk : Nat) (tb vb : Nat → Int32) (sb : Nat → Int64) (fm tq : Nat → Int32) (r9 s9 e9 i9 q9 : Int32)  (hm : md K M mo ad cd nn kk tb vb sb fm tq) (hP : ¬ (inN r9 nn ∧ inN s9 4 ∧ inN e9 16 ∧ inN q9 2)) : Met l yX3_dot wsX3_dot ({ frames := 6, cells := 0, slots := 0, locals := 160 } : Room) (va_Pc [.ref mo, .int r9, .int s9, .int e9, .int i9, .int q9] (gw_I K M)) (va_Qi (fun r M1 => md K M1 mo ad (nI 1) nn kk tb vb sb fm tq ∧ mfr M M1 mo ad) (gw_I K) (gw_A K)) 0 0 (gw_A K) := by
  refine Met.ofW (cc := cX3_dot) (maxL := 8) (ret := (some .int)) (by decide) rfl ?_
  intro p e s m args below meth c s₁ B hml hv
  obtain ⟨hav, hI⟩ := hv
  have hx := B.exec
  have hb := B.bytes
  have hr := B.returns
  have hts := atoms_spec (ws := wsX3_dot) B.pre
  have hown : s.vm.findClass RX3 = some m.cls := findClass_of_methodNamed B.named
  have hlocks : meth.locks = false := B.notSynchronized
  have hT := hI.2.2
  have hK := hT.K
  have hG := hI.B
  have hf7 := hts (.fieldLink RX3 7 "DotGossipModel" "replicas" "I") (by decide +kernel)
  have hf14 := hts (.fieldLink RX3 14 "DotGossipModel" "table" "[I") (by decide +kernel)
  have hf31 := hts (.fieldLink RX3 31 "DotGossipModel" "code" "I") (by decide +kernel)
  have hinX3 : ∀ w ∈ wsX30, w ∈ wsX3_dot := by decide +kernel
  have hE : entryFrame m args 8 = entryFrame m ([.ref mo, .int r9, .int s9, .int e9, .int i9, .int q9] : List Value).toArray 8 := by rw [hav]
  rw [hE]
  have hl := lv_entry ([.ref mo, .int r9, .int s9, .int e9, .int i9, .int q9]) (n := 8) (Nat.le_of_ble_eq_true rfl)
  rw [lg_entry_eq]
  generalize (lg_sl ([.ref mo, .int r9, .int s9, .int e9, .int i9, .int q9]) ++ List.replicate (8 - (lg_sl ([.ref mo, .int r9, .int s9, .int e9, .int i9, .int q9])).length) Slot.unset).toArray = ls at hl ⊢
  have hl : lv_has ls 8 [(0, .ref mo), (1, .int r9), (2, .int s9), (3, .int e9), (4, .int i9), (5, .int q9)] := hl
  obtain ⟨p0_b, p0_o, p0_0, p0_1, p0_2, p0_3, p0_4, p0_ne⟩ := id hm
  have ne_o0 : mo ≠ ad 0 := gw_io p0_o p0_0
  have ne_o1 : mo ≠ ad 1 := gw_io p0_o p0_1
  have ne_o2 : mo ≠ ad 2 := gw_io p0_o p0_2
  have ne_o3 : mo ≠ ad 3 := gw_io p0_o p0_3
  have ne_o4 : mo ≠ ad 4 := gw_io p0_o p0_4
  refine lv_aload_n hx hb dX3_dot_0 rfl (lv_at hl 0 rfl) ?_
  refine lv_aload_n hx hb dX3_dot_1 rfl (lv_at hl 0 rfl) ?_
  refine lv_iload_n hx hb dX3_dot_2 rfl (lv_at hl 1 rfl) ?_
  refine lv_iload_n hx hb dX3_dot_3 rfl (lv_at hl 2 rfl) ?_
  refine lv_iload_n hx hb dX3_dot_4 rfl (lv_at hl 3 rfl) ?_
  refine gw_calli (va_runV (As := [.int r9, .int s9, .int e9]) (rest := [.ref mo]) ⟨hx, hb, hml, hown, hts⟩ (c_isEl l K M mo ad _ _ _ _ _ _ _ _ r9 s9 e9 hm) (cwV 3 hts gX3_dot_X3_isElement rfl rfl rfl (by decide +kernel) ⟨Nat.le_of_ble_eq_true rfl, Nat.le_of_ble_eq_true rfl⟩) (gw_preV hG hT p0_o rfl) rfl rfl hl.1 rfl (lv_room (Nat.le_of_ble_eq_true rfl)) dX3_dot_5 ⟨Nat.le_of_ble_eq_true rfl, Nat.le_of_ble_eq_true rfl⟩) hG (fun r_518 M_519 H locs hw hG => ?_)
  have h1 := hw.2
  rw [hw.1] at hG
  refine lv_if_eq hx hb (tgt := 26) dX3_dot_8 (by decide) (fun hz1 => ?_) (fun hz1 => ?_)
  · refine lv_iconst (v := nI 1) hx hb dX3_dot_26 (by decide) ?_
    refine gw_calli (va_runV (As := [.int (nI 1)]) (rest := []) ⟨hx, hb, hml, hown, hts⟩ (c_refp l K M mo ad _ _ _ _ _ _ _ _ 1 hm (by decide)) (cwV 1 hts gX3_dot_X3_refuses rfl rfl rfl (by decide +kernel) ⟨Nat.le_of_ble_eq_true rfl, Nat.le_of_ble_eq_true rfl⟩) (gw_preV hG hT p0_o rfl) rfl rfl hl.1 rfl (lv_room (Nat.le_of_ble_eq_true rfl)) dX3_dot_27 ⟨Nat.le_of_ble_eq_true rfl, Nat.le_of_ble_eq_true rfl⟩) hG (fun r_520 M_521 H locs hw hG => ?_)
    rw [hw.1]
    obtain ⟨hm_522, fr_523⟩ := hw.2
    have fr_524 : mfr M M_521 mo ad := mfr.tr mfr.rf fr_523
    obtain ⟨p_525_b, p_525_o, p_525_0, p_525_1, p_525_2, p_525_3, p_525_4, p_525_ne⟩ := id hm_522
    refine lv_if_eq hx hb (tgt := 35) dX3_dot_30 (by decide) (fun hc => absurd hc (by decide)) (fun hc => ?_)
    refine lv_iconst (v := nI 0) hx hb dX3_dot_33 (by decide) ?_
    exact gw_iret hx hb hr hlocks hG hT (by omega) (by omega) dX3_dot_34 ⟨⟨p0_b, p_525_o, p_525_0, p_525_1, p_525_2, p_525_3, p_525_4, p0_ne⟩, fr_524⟩
  · refine lv_iload hx hb dX3_dot_11 (lv_at hl 5 rfl) ?_
    refine lv_if_lt hx hb (tgt := 26) dX3_dot_13 (by decide) (fun hq1 => ?_) (fun hq1 => ?_)
    · refine lv_iconst (v := nI 1) hx hb dX3_dot_26 (by decide) ?_
      refine gw_calli (va_runV (As := [.int (nI 1)]) (rest := []) ⟨hx, hb, hml, hown, hts⟩ (c_refp l K M mo ad _ _ _ _ _ _ _ _ 1 hm (by decide)) (cwV 1 hts gX3_dot_X3_refuses rfl rfl rfl (by decide +kernel) ⟨Nat.le_of_ble_eq_true rfl, Nat.le_of_ble_eq_true rfl⟩) (gw_preV hG hT p0_o rfl) rfl rfl hl.1 rfl (lv_room (Nat.le_of_ble_eq_true rfl)) dX3_dot_27 ⟨Nat.le_of_ble_eq_true rfl, Nat.le_of_ble_eq_true rfl⟩) hG (fun r_526 M_527 H locs hw hG => ?_)
      rw [hw.1]
      obtain ⟨hm_528, fr_529⟩ := hw.2
      have fr_530 : mfr M M_527 mo ad := mfr.tr mfr.rf fr_529
      obtain ⟨p_531_b, p_531_o, p_531_0, p_531_1, p_531_2, p_531_3, p_531_4, p_531_ne⟩ := id hm_528
      refine lv_if_eq hx hb (tgt := 35) dX3_dot_30 (by decide) (fun hc => absurd hc (by decide)) (fun hc => ?_)
      refine lv_iconst (v := nI 0) hx hb dX3_dot_33 (by decide) ?_
      exact gw_iret hx hb hr hlocks hG hT (by omega) (by omega) dX3_dot_34 ⟨⟨p0_b, p_531_o, p_531_0, p_531_1, p_531_2, p_531_3, p_531_4, p0_ne⟩, fr_530⟩
    · refine lv_iload hx hb dX3_dot_16 (lv_at hl 5 rfl) ?_
      refine lv_iconst (v := nI 2) hx hb dX3_dot_18 (by decide) ?_
      refine lv_icmp_ge hx hb (tgt := 26) dX3_dot_19 (by decide) (fun hq2 => ?_) (fun hq2 => ?_)
      · refine lv_iconst (v := nI 1) hx hb dX3_dot_26 (by decide) ?_
        refine gw_calli (va_runV (As := [.int (nI 1)]) (rest := []) ⟨hx, hb, hml, hown, hts⟩ (c_refp l K M mo ad _ _ _ _ _ _ _ _ 1 hm (by decide)) (cwV 1 hts gX3_dot_X3_refuses rfl rfl rfl (by decide +kernel) ⟨Nat.le_of_ble_eq_true rfl, Nat.le_of_ble_eq_true rfl⟩) (gw_preV hG hT p0_o rfl) rfl rfl hl.1 rfl (lv_room (Nat.le_of_ble_eq_true rfl)) dX3_dot_27 ⟨Nat.le_of_ble_eq_true rfl, Nat.le_of_ble_eq_true rfl⟩) hG (fun r_532 M_533 H locs hw hG => ?_)
        rw [hw.1]
        obtain ⟨hm_534, fr_535⟩ := hw.2
        have fr_536 : mfr M M_533 mo ad := mfr.tr mfr.rf fr_535
        obtain ⟨p_537_b, p_537_o, p_537_0, p_537_1, p_537_2, p_537_3, p_537_4, p_537_ne⟩ := id hm_534
        refine lv_if_eq hx hb (tgt := 35) dX3_dot_30 (by decide) (fun hc => absurd hc (by decide)) (fun hc => ?_)
        refine lv_iconst (v := nI 0) hx hb dX3_dot_33 (by decide) ?_
        exact gw_iret hx hb hr hlocks hG hT (by omega) (by omega) dX3_dot_34 ⟨⟨p0_b, p_537_o, p_537_0, p_537_1, p_537_2, p_537_3, p_537_4, p0_ne⟩, fr_536⟩
      · exact absurd ⟨(tst_o h1 hz1).1, (tst_o h1 hz1).2.1, (tst_o h1 hz1).2.2, (inN_iff (n := 2) (by omega)).mp ⟨hq1, Int32.not_le.mp hq2⟩⟩ hP

set_option maxHeartbeats 4000000 in
set_option maxRecDepth 100000 in
/-- m_value_no -/
theorem m_value_no (l : Launch) (K : gw_C) (M : gw_M) (mo : Nat) (ad : Nat → Nat) (cd : Int32) (nn kk : Nat) (tb vb : Nat → Int32) (sb : Nat → Int64) (fm tq : Nat → Int32) (r9 s9 i9 q9 : Int32)  (hm : md K M mo ad cd nn kk tb vb sb fm tq) (hP : ¬ (inN r9 nn ∧ inN s9 4 ∧ inN q9 3)) : Met l yX3_value wsX3_value ({ frames := 6, cells := 0, slots := 0, locals := 160 } : Room) (va_Pc [.ref mo, .int r9, .int s9, .int i9, .int q9] (gw_I K M)) (va_Qi (fun r M1 => md K M1 mo ad (nI 1) nn kk tb vb sb fm tq ∧ mfr M M1 mo ad) (gw_I K) (gw_A K)) 0 0 (gw_A K) := by
  refine Met.ofW (cc := cX3_value) (maxL := 6) (ret := (some .int)) (by decide) rfl ?_
  intro p e s m args below meth c s₁ B hml hv
  obtain ⟨hav, hI⟩ := hv
  have hx := B.exec
  have hb := B.bytes
  have hr := B.returns
  have hts := atoms_spec (ws := wsX3_value) B.pre
  have hown : s.vm.findClass RX3 = some m.cls := findClass_of_methodNamed B.named
  have hlocks : meth.locks = false := B.notSynchronized
  have hT := hI.2.2
  have hK := hT.K
  have hG := hI.B
  have hf7 := hts (.fieldLink RX3 7 "DotGossipModel" "replicas" "I") (by decide +kernel)
  have hf14 := hts (.fieldLink RX3 14 "DotGossipModel" "table" "[I") (by decide +kernel)
  have hf18 := hts (.fieldLink RX3 18 "DotGossipModel" "values" "[I") (by decide +kernel)
  have hf31 := hts (.fieldLink RX3 31 "DotGossipModel" "code" "I") (by decide +kernel)
  have hinX3 : ∀ w ∈ wsX30, w ∈ wsX3_value := by decide +kernel
  have hE : entryFrame m args 6 = entryFrame m ([.ref mo, .int r9, .int s9, .int i9, .int q9] : List Value).toArray 6 := by rw [hav]
  rw [hE]
  have hl := lv_entry ([.ref mo, .int r9, .int s9, .int i9, .int q9]) (n := 6) (Nat.le_of_ble_eq_true rfl)
  rw [lg_entry_eq]
  generalize (lg_sl ([.ref mo, .int r9, .int s9, .int i9, .int q9]) ++ List.replicate (6 - (lg_sl ([.ref mo, .int r9, .int s9, .int i9, .int q9])).length) Slot.unset).toArray = ls at hl ⊢
  have hl : lv_has ls 6 [(0, .ref mo), (1, .int r9), (2, .int s9), (3, .int i9), (4, .int q9)] := hl
  obtain ⟨p0_b, p0_o, p0_0, p0_1, p0_2, p0_3, p0_4, p0_ne⟩ := id hm
  have ne_o0 : mo ≠ ad 0 := gw_io p0_o p0_0
  have ne_o1 : mo ≠ ad 1 := gw_io p0_o p0_1
  have ne_o2 : mo ≠ ad 2 := gw_io p0_o p0_2
  have ne_o3 : mo ≠ ad 3 := gw_io p0_o p0_3
  have ne_o4 : mo ≠ ad 4 := gw_io p0_o p0_4
  refine lv_aload_n hx hb dX3_value_0 rfl (lv_at hl 0 rfl) ?_
  refine lv_aload_n hx hb dX3_value_1 rfl (lv_at hl 0 rfl) ?_
  refine lv_iload_n hx hb dX3_value_2 rfl (lv_at hl 1 rfl) ?_
  refine lv_iload_n hx hb dX3_value_3 rfl (lv_at hl 2 rfl) ?_
  refine gw_calli (va_runV (As := [.int r9, .int s9]) (rest := [.ref mo]) ⟨hx, hb, hml, hown, hts⟩ (c_isReg l K M mo ad _ _ _ _ _ _ _ _ r9 s9 hm) (cwV 2 hts gX3_value_X3_isRegister rfl rfl rfl (by decide +kernel) ⟨Nat.le_of_ble_eq_true rfl, Nat.le_of_ble_eq_true rfl⟩) (gw_preV hG hT p0_o rfl) rfl rfl hl.1 rfl (lv_room (Nat.le_of_ble_eq_true rfl)) dX3_value_4 ⟨Nat.le_of_ble_eq_true rfl, Nat.le_of_ble_eq_true rfl⟩) hG (fun r_538 M_539 H locs hw hG => ?_)
  have h1 := hw.2
  rw [hw.1] at hG
  refine lv_if_eq hx hb (tgt := 25) dX3_value_7 (by decide) (fun hz1 => ?_) (fun hz1 => ?_)
  · refine lv_iconst (v := nI 1) hx hb dX3_value_25 (by decide) ?_
    refine gw_calli (va_runV (As := [.int (nI 1)]) (rest := []) ⟨hx, hb, hml, hown, hts⟩ (c_refp l K M mo ad _ _ _ _ _ _ _ _ 1 hm (by decide)) (cwV 1 hts gX3_value_X3_refuses rfl rfl rfl (by decide +kernel) ⟨Nat.le_of_ble_eq_true rfl, Nat.le_of_ble_eq_true rfl⟩) (gw_preV hG hT p0_o rfl) rfl rfl hl.1 rfl (lv_room (Nat.le_of_ble_eq_true rfl)) dX3_value_26 ⟨Nat.le_of_ble_eq_true rfl, Nat.le_of_ble_eq_true rfl⟩) hG (fun r_540 M_541 H locs hw hG => ?_)
    rw [hw.1]
    obtain ⟨hm_542, fr_543⟩ := hw.2
    have fr_544 : mfr M M_541 mo ad := mfr.tr mfr.rf fr_543
    obtain ⟨p_545_b, p_545_o, p_545_0, p_545_1, p_545_2, p_545_3, p_545_4, p_545_ne⟩ := id hm_542
    refine lv_if_eq hx hb (tgt := 34) dX3_value_29 (by decide) (fun hc => absurd hc (by decide)) (fun hc => ?_)
    refine lv_iconst (v := nI 0) hx hb dX3_value_32 (by decide) ?_
    exact gw_iret hx hb hr hlocks hG hT (by omega) (by omega) dX3_value_33 ⟨⟨p0_b, p_545_o, p_545_0, p_545_1, p_545_2, p_545_3, p_545_4, p0_ne⟩, fr_544⟩
  · refine lv_iload hx hb dX3_value_10 (lv_at hl 4 rfl) ?_
    refine lv_if_lt hx hb (tgt := 25) dX3_value_12 (by decide) (fun hq1 => ?_) (fun hq1 => ?_)
    · refine lv_iconst (v := nI 1) hx hb dX3_value_25 (by decide) ?_
      refine gw_calli (va_runV (As := [.int (nI 1)]) (rest := []) ⟨hx, hb, hml, hown, hts⟩ (c_refp l K M mo ad _ _ _ _ _ _ _ _ 1 hm (by decide)) (cwV 1 hts gX3_value_X3_refuses rfl rfl rfl (by decide +kernel) ⟨Nat.le_of_ble_eq_true rfl, Nat.le_of_ble_eq_true rfl⟩) (gw_preV hG hT p0_o rfl) rfl rfl hl.1 rfl (lv_room (Nat.le_of_ble_eq_true rfl)) dX3_value_26 ⟨Nat.le_of_ble_eq_true rfl, Nat.le_of_ble_eq_true rfl⟩) hG (fun r_546 M_547 H locs hw hG => ?_)
      rw [hw.1]
      obtain ⟨hm_548, fr_549⟩ := hw.2
      have fr_550 : mfr M M_547 mo ad := mfr.tr mfr.rf fr_549
      obtain ⟨p_551_b, p_551_o, p_551_0, p_551_1, p_551_2, p_551_3, p_551_4, p_551_ne⟩ := id hm_548
      refine lv_if_eq hx hb (tgt := 34) dX3_value_29 (by decide) (fun hc => absurd hc (by decide)) (fun hc => ?_)
      refine lv_iconst (v := nI 0) hx hb dX3_value_32 (by decide) ?_
      exact gw_iret hx hb hr hlocks hG hT (by omega) (by omega) dX3_value_33 ⟨⟨p0_b, p_551_o, p_551_0, p_551_1, p_551_2, p_551_3, p_551_4, p0_ne⟩, fr_550⟩
    · refine lv_iload hx hb dX3_value_15 (lv_at hl 4 rfl) ?_
      refine lv_iconst (v := nI 3) hx hb dX3_value_17 (by decide) ?_
      refine lv_icmp_ge hx hb (tgt := 25) dX3_value_18 (by decide) (fun hq2 => ?_) (fun hq2 => ?_)
      · refine lv_iconst (v := nI 1) hx hb dX3_value_25 (by decide) ?_
        refine gw_calli (va_runV (As := [.int (nI 1)]) (rest := []) ⟨hx, hb, hml, hown, hts⟩ (c_refp l K M mo ad _ _ _ _ _ _ _ _ 1 hm (by decide)) (cwV 1 hts gX3_value_X3_refuses rfl rfl rfl (by decide +kernel) ⟨Nat.le_of_ble_eq_true rfl, Nat.le_of_ble_eq_true rfl⟩) (gw_preV hG hT p0_o rfl) rfl rfl hl.1 rfl (lv_room (Nat.le_of_ble_eq_true rfl)) dX3_value_26 ⟨Nat.le_of_ble_eq_true rfl, Nat.le_of_ble_eq_true rfl⟩) hG (fun r_552 M_553 H locs hw hG => ?_)
        rw [hw.1]
        obtain ⟨hm_554, fr_555⟩ := hw.2
        have fr_556 : mfr M M_553 mo ad := mfr.tr mfr.rf fr_555
        obtain ⟨p_557_b, p_557_o, p_557_0, p_557_1, p_557_2, p_557_3, p_557_4, p_557_ne⟩ := id hm_554
        refine lv_if_eq hx hb (tgt := 34) dX3_value_29 (by decide) (fun hc => absurd hc (by decide)) (fun hc => ?_)
        refine lv_iconst (v := nI 0) hx hb dX3_value_32 (by decide) ?_
        exact gw_iret hx hb hr hlocks hG hT (by omega) (by omega) dX3_value_33 ⟨⟨p0_b, p_557_o, p_557_0, p_557_1, p_557_2, p_557_3, p_557_4, p0_ne⟩, fr_556⟩
      · exact absurd ⟨(tst_o h1 hz1).1, (tst_o h1 hz1).2, (inN_iff (n := 3) (by omega)).mp ⟨hq1, Int32.not_le.mp hq2⟩⟩ hP

set_option maxHeartbeats 4000000 in
set_option maxRecDepth 100000 in
/-- m_dot0 -/
theorem m_dot0 (l : Launch) (K : gw_C) (M : gw_M) (mo : Nat) (ad : Nat → Nat) (cd : Int32) (nn kk : Nat) (tb vb : Nat → Int32) (sb : Nat → Int64) (fm tq : Nat → Int32) (rk ks ke : Nat) (i9 : Int32)  (hm : md K M mo ad cd nn kk tb vb sb fm tq) (hrk : rk < nn) (hks : ks < 4) (hke : ke < 16) : Met l yX3_dot wsX3_dot ({ frames := 6, cells := 0, slots := 0, locals := 160 } : Room) (va_Pc [.ref mo, .int (nI rk), .int (nI ks), .int (nI ke), .int i9, .int (nI 0)] (gw_I K M)) (va_Qi (fun r M1 => r = mgo tb (414 * rk + 6 + 6 * (16 * ks + ke)) i9 6 ∧ md K M1 mo ad (nI 0) nn kk tb vb sb fm tq ∧ mfr M M1 mo ad) (gw_I K) (gw_A K)) 0 0 (gw_A K) := by
  refine Met.ofW (cc := cX3_dot) (maxL := 8) (ret := (some .int)) (by decide) rfl ?_
  intro p e s m args below meth c s₁ B hml hv
  obtain ⟨hav, hI⟩ := hv
  have hx := B.exec
  have hb := B.bytes
  have hr := B.returns
  have hts := atoms_spec (ws := wsX3_dot) B.pre
  have hown : s.vm.findClass RX3 = some m.cls := findClass_of_methodNamed B.named
  have hlocks : meth.locks = false := B.notSynchronized
  have hT := hI.2.2
  have hK := hT.K
  have hG := hI.B
  have hf7 := hts (.fieldLink RX3 7 "DotGossipModel" "replicas" "I") (by decide +kernel)
  have hf14 := hts (.fieldLink RX3 14 "DotGossipModel" "table" "[I") (by decide +kernel)
  have hf31 := hts (.fieldLink RX3 31 "DotGossipModel" "code" "I") (by decide +kernel)
  have hinX3 : ∀ w ∈ wsX30, w ∈ wsX3_dot := by decide +kernel
  have hE : entryFrame m args 8 = entryFrame m ([.ref mo, .int (nI rk), .int (nI ks), .int (nI ke), .int i9, .int (nI 0)] : List Value).toArray 8 := by rw [hav]
  rw [hE]
  have hl := lv_entry ([.ref mo, .int (nI rk), .int (nI ks), .int (nI ke), .int i9, .int (nI 0)]) (n := 8) (Nat.le_of_ble_eq_true rfl)
  rw [lg_entry_eq]
  generalize (lg_sl ([.ref mo, .int (nI rk), .int (nI ks), .int (nI ke), .int i9, .int (nI 0)]) ++ List.replicate (8 - (lg_sl ([.ref mo, .int (nI rk), .int (nI ks), .int (nI ke), .int i9, .int (nI 0)])).length) Slot.unset).toArray = ls at hl ⊢
  have hl : lv_has ls 8 [(0, .ref mo), (1, .int (nI rk)), (2, .int (nI ks)), (3, .int (nI ke)), (4, .int i9), (5, .int (nI 0))] := hl
  obtain ⟨p0_b, p0_o, p0_0, p0_1, p0_2, p0_3, p0_4, p0_ne⟩ := id hm
  have ne_o0 : mo ≠ ad 0 := gw_io p0_o p0_0
  have ne_o1 : mo ≠ ad 1 := gw_io p0_o p0_1
  have ne_o2 : mo ≠ ad 2 := gw_io p0_o p0_2
  have ne_o3 : mo ≠ ad 3 := gw_io p0_o p0_3
  have ne_o4 : mo ≠ ad 4 := gw_io p0_o p0_4
  have hn6 := p0_b.1
  refine lv_aload_n hx hb dX3_dot_0 rfl (lv_at hl 0 rfl) ?_
  refine lv_aload_n hx hb dX3_dot_1 rfl (lv_at hl 0 rfl) ?_
  refine lv_iload_n hx hb dX3_dot_2 rfl (lv_at hl 1 rfl) ?_
  refine lv_iload_n hx hb dX3_dot_3 rfl (lv_at hl 2 rfl) ?_
  refine lv_iload_n hx hb dX3_dot_4 rfl (lv_at hl 3 rfl) ?_
  refine gw_calli (va_runV (As := [.int (nI rk), .int (nI ks), .int (nI ke)]) (rest := [.ref mo]) ⟨hx, hb, hml, hown, hts⟩ (c_isEl l K M mo ad _ _ _ _ _ _ _ _ (nI rk) (nI ks) (nI ke) hm) (cwV 3 hts gX3_dot_X3_isElement rfl rfl rfl (by decide +kernel) ⟨Nat.le_of_ble_eq_true rfl, Nat.le_of_ble_eq_true rfl⟩) (gw_preV hG hT p0_o rfl) rfl rfl hl.1 rfl (lv_room (Nat.le_of_ble_eq_true rfl)) dX3_dot_5 ⟨Nat.le_of_ble_eq_true rfl, Nat.le_of_ble_eq_true rfl⟩) hG (fun r_558 M_559 H locs hw hG => ?_)
  rw [hw.1] at hG
  refine gw_as (tst_y hw.2 ⟨⟨rk, hrk, rfl⟩, ⟨ks, hks, rfl⟩, ⟨ke, hke, rfl⟩⟩) ?_
  refine lv_if_eq hx hb (tgt := 26) dX3_dot_8 (by decide) (fun hc => absurd hc (by decide)) (fun hc => ?_)
  refine lv_iload hx hb dX3_dot_11 (lv_at hl 5 rfl) ?_
  refine lv_if_lt hx hb (tgt := 26) dX3_dot_13 (by decide) (fun hc => absurd hc (by decide)) (fun hc => ?_)
  refine lv_iload hx hb dX3_dot_16 (lv_at hl 5 rfl) ?_
  refine lv_iconst (v := nI 2) hx hb dX3_dot_18 (by decide) ?_
  refine gw_icmp_ge hx hb (by omega) (by omega) (tgt := 26) dX3_dot_19 (by decide) (fun hc => absurd hc (by decide)) (fun hc => ?_)
  refine lv_iconst (v := nI 0) hx hb dX3_dot_22 (by decide) ?_
  refine lv_goto (tgt := 27) hx hb dX3_dot_23 (by decide) ?_
  refine gw_calli (va_runV (As := [.int (nI 0)]) (rest := []) ⟨hx, hb, hml, hown, hts⟩ (c_ref0 l K M mo ad _ _ _ _ _ _ _ _ 0 hm) (cwV 1 hts gX3_dot_X3_refuses rfl rfl rfl (by decide +kernel) ⟨Nat.le_of_ble_eq_true rfl, Nat.le_of_ble_eq_true rfl⟩) (gw_preV hG hT p0_o rfl) rfl rfl hl.1 rfl (lv_room (Nat.le_of_ble_eq_true rfl)) dX3_dot_27 ⟨Nat.le_of_ble_eq_true rfl, Nat.le_of_ble_eq_true rfl⟩) hG (fun r_560 M_561 H locs hw hG => ?_)
  rw [hw.1]
  obtain ⟨hm_562, fr_563⟩ := hw.2
  have fr_564 : mfr M M_561 mo ad := mfr.tr mfr.rf fr_563
  obtain ⟨p_565_b, p_565_o, p_565_0, p_565_1, p_565_2, p_565_3, p_565_4, p_565_ne⟩ := id hm_562
  refine lv_if_eq hx hb (tgt := 35) dX3_dot_30 (by decide) (fun hc => ?_) (fun hc => absurd (by decide) hc)
  refine lv_bipush (v := nI 16) hx hb dX3_dot_35 (by decide) ?_
  refine lv_iload_n hx hb dX3_dot_37 rfl (lv_at hl 2 rfl) ?_
  refine gw_imul hx hb dX3_dot_38 ?_
  refine lv_iload_n hx hb dX3_dot_39 rfl (lv_at hl 3 rfl) ?_
  refine gw_iadd hx hb dX3_dot_40 ?_
  refine lv_istore (lv' := [(6, .int (nI ((16 * ks) + ke))), (0, .ref mo), (1, .int (nI rk)), (2, .int (nI ks)), (3, .int (nI ke)), (4, .int i9), (5, .int (nI 0))]) hx hb dX3_dot_41 hl (by decide) rfl (fun ls hl => ?_)
  refine lv_aload_n hx hb dX3_dot_43 rfl (lv_at hl 1 rfl) ?_
  refine lv_iload_n hx hb dX3_dot_44 rfl (lv_at hl 2 rfl) ?_
  refine lv_iload hx hb dX3_dot_45 (lv_at hl 0 rfl) ?_
  refine lv_iload hx hb dX3_dot_47 (lv_at hl 5 rfl) ?_
  have hm_566 : md K M_561 mo ad (nI 0) nn kk tb vb sb fm tq := ⟨p0_b, p_565_o, p_565_0, p_565_1, p_565_2, p_565_3, p_565_4, p0_ne⟩
  refine gw_calli (va_runV (As := [.int (nI rk), .int (nI ((16 * ks) + ke)), .int i9]) (rest := []) ⟨hx, hb, hml, hown, hts⟩ (c_origin l K M_561 mo ad _ _ _ _ _ _ _ _ rk (16 * ks + ke) i9 hm_566 (by omega) (by omega)) (cwV 3 hts gX3_dot_X3_origin rfl rfl rfl (by decide +kernel) ⟨Nat.le_of_ble_eq_true rfl, Nat.le_of_ble_eq_true rfl⟩) (gw_preV hG hT p_565_o rfl) rfl rfl hl.1 rfl (lv_room (Nat.le_of_ble_eq_true rfl)) dX3_dot_49 ⟨Nat.le_of_ble_eq_true rfl, Nat.le_of_ble_eq_true rfl⟩) hG (fun r_567 M_568 H locs hw hG => ?_)
  rw [hw.1] at hG
  refine gw_as hw.2 ?_
  rcases mgo_form tb (414 * rk + 6 + 6 * (16 * ks + ke)) i9 6 with hA | ⟨mk, hmk, hA⟩
  · refine gw_as hA ?_
    refine lv_istore (lv' := [(7, .int ((-1))), (6, .int (nI ((16 * ks) + ke))), (0, .ref mo), (1, .int (nI rk)), (2, .int (nI ks)), (3, .int (nI ke)), (4, .int i9), (5, .int (nI 0))]) hx hb dX3_dot_52 hl (by decide) rfl (fun ls hl => ?_)
    refine lv_iload hx hb dX3_dot_54 (lv_at hl 0 rfl) ?_
    refine lv_iconst (v := (-1)) hx hb dX3_dot_56 (by decide) ?_
    refine lv_icmp_eq hx hb (tgt := 65) dX3_dot_57 (by decide) (fun hc => ?_) (fun hc => absurd rfl hc)
    refine lv_iload hx hb dX3_dot_65 (lv_at hl 0 rfl) ?_
    refine lv_goto (tgt := 84) hx hb dX3_dot_67 (by decide) ?_
    exact gw_iret hx hb hr hlocks hG hT (by omega) (by omega) dX3_dot_84 ⟨hA.symm, ⟨p0_b, p_565_o, p_565_0, p_565_1, p_565_2, p_565_3, p_565_4, p0_ne⟩, fr_564⟩
  · refine gw_as hA ?_
    refine lv_istore (lv' := [(7, .int (nI mk)), (6, .int (nI ((16 * ks) + ke))), (0, .ref mo), (1, .int (nI rk)), (2, .int (nI ks)), (3, .int (nI ke)), (4, .int i9), (5, .int (nI 0))]) hx hb dX3_dot_52 hl (by decide) rfl (fun ls hl => ?_)
    refine lv_iload hx hb dX3_dot_54 (lv_at hl 0 rfl) ?_
    refine lv_iconst (v := (-1)) hx hb dX3_dot_56 (by decide) ?_
    refine lv_icmp_eq hx hb (tgt := 65) dX3_dot_57 (by decide) (fun hc => absurd hc (nI_ne1 (by omega))) (fun hc => ?_)
    refine lv_iload hx hb dX3_dot_60 (lv_at hl 7 rfl) ?_
    refine lv_if_ne hx hb (tgt := 70) dX3_dot_62 (by decide) (fun hc => absurd rfl hc) (fun hc => ?_)
    refine lv_iload hx hb dX3_dot_65 (lv_at hl 0 rfl) ?_
    refine lv_goto (tgt := 84) hx hb dX3_dot_67 (by decide) ?_
    exact gw_iret hx hb hr hlocks hG hT (by omega) (by omega) dX3_dot_84 ⟨hA.symm, ⟨p0_b, p_565_o, p_565_0, p_565_1, p_565_2, p_565_3, p_565_4, p0_ne⟩, fr_564⟩

set_option maxHeartbeats 4000000 in
set_option maxRecDepth 100000 in
/-- m_dot1 -/
theorem m_dot1 (l : Launch) (K : gw_C) (M : gw_M) (mo : Nat) (ad : Nat → Nat) (cd : Int32) (nn kk : Nat) (tb vb : Nat → Int32) (sb : Nat → Int64) (fm tq : Nat → Int32) (rk ks ke : Nat) (i9 : Int32)  (hm : md K M mo ad cd nn kk tb vb sb fm tq) (hrk : rk < nn) (hks : ks < 4) (hke : ke < 16) : Met l yX3_dot wsX3_dot ({ frames := 6, cells := 0, slots := 0, locals := 160 } : Room) (va_Pc [.ref mo, .int (nI rk), .int (nI ks), .int (nI ke), .int i9, .int (nI 1)] (gw_I K M)) (va_Qi (fun r M1 => r = (if mgo tb (414 * rk + 6 + 6 * (16 * ks + ke)) i9 6 = -1 then -1 else tb (414 * rk + 6 + 6 * (16 * ks + ke) + (mgo tb (414 * rk + 6 + 6 * (16 * ks + ke)) i9 6).toNatClampNeg)) ∧ md K M1 mo ad (nI 0) nn kk tb vb sb fm tq ∧ mfr M M1 mo ad) (gw_I K) (gw_A K)) 0 0 (gw_A K) := by
  refine Met.ofW (cc := cX3_dot) (maxL := 8) (ret := (some .int)) (by decide) rfl ?_
  intro p e s m args below meth c s₁ B hml hv
  obtain ⟨hav, hI⟩ := hv
  have hx := B.exec
  have hb := B.bytes
  have hr := B.returns
  have hts := atoms_spec (ws := wsX3_dot) B.pre
  have hown : s.vm.findClass RX3 = some m.cls := findClass_of_methodNamed B.named
  have hlocks : meth.locks = false := B.notSynchronized
  have hT := hI.2.2
  have hK := hT.K
  have hG := hI.B
  have hf7 := hts (.fieldLink RX3 7 "DotGossipModel" "replicas" "I") (by decide +kernel)
  have hf14 := hts (.fieldLink RX3 14 "DotGossipModel" "table" "[I") (by decide +kernel)
  have hf31 := hts (.fieldLink RX3 31 "DotGossipModel" "code" "I") (by decide +kernel)
  have hinX3 : ∀ w ∈ wsX30, w ∈ wsX3_dot := by decide +kernel
  have hE : entryFrame m args 8 = entryFrame m ([.ref mo, .int (nI rk), .int (nI ks), .int (nI ke), .int i9, .int (nI 1)] : List Value).toArray 8 := by rw [hav]
  rw [hE]
  have hl := lv_entry ([.ref mo, .int (nI rk), .int (nI ks), .int (nI ke), .int i9, .int (nI 1)]) (n := 8) (Nat.le_of_ble_eq_true rfl)
  rw [lg_entry_eq]
  generalize (lg_sl ([.ref mo, .int (nI rk), .int (nI ks), .int (nI ke), .int i9, .int (nI 1)]) ++ List.replicate (8 - (lg_sl ([.ref mo, .int (nI rk), .int (nI ks), .int (nI ke), .int i9, .int (nI 1)])).length) Slot.unset).toArray = ls at hl ⊢
  have hl : lv_has ls 8 [(0, .ref mo), (1, .int (nI rk)), (2, .int (nI ks)), (3, .int (nI ke)), (4, .int i9), (5, .int (nI 1))] := hl
  obtain ⟨p0_b, p0_o, p0_0, p0_1, p0_2, p0_3, p0_4, p0_ne⟩ := id hm
  have ne_o0 : mo ≠ ad 0 := gw_io p0_o p0_0
  have ne_o1 : mo ≠ ad 1 := gw_io p0_o p0_1
  have ne_o2 : mo ≠ ad 2 := gw_io p0_o p0_2
  have ne_o3 : mo ≠ ad 3 := gw_io p0_o p0_3
  have ne_o4 : mo ≠ ad 4 := gw_io p0_o p0_4
  have hn6 := p0_b.1
  refine lv_aload_n hx hb dX3_dot_0 rfl (lv_at hl 0 rfl) ?_
  refine lv_aload_n hx hb dX3_dot_1 rfl (lv_at hl 0 rfl) ?_
  refine lv_iload_n hx hb dX3_dot_2 rfl (lv_at hl 1 rfl) ?_
  refine lv_iload_n hx hb dX3_dot_3 rfl (lv_at hl 2 rfl) ?_
  refine lv_iload_n hx hb dX3_dot_4 rfl (lv_at hl 3 rfl) ?_
  refine gw_calli (va_runV (As := [.int (nI rk), .int (nI ks), .int (nI ke)]) (rest := [.ref mo]) ⟨hx, hb, hml, hown, hts⟩ (c_isEl l K M mo ad _ _ _ _ _ _ _ _ (nI rk) (nI ks) (nI ke) hm) (cwV 3 hts gX3_dot_X3_isElement rfl rfl rfl (by decide +kernel) ⟨Nat.le_of_ble_eq_true rfl, Nat.le_of_ble_eq_true rfl⟩) (gw_preV hG hT p0_o rfl) rfl rfl hl.1 rfl (lv_room (Nat.le_of_ble_eq_true rfl)) dX3_dot_5 ⟨Nat.le_of_ble_eq_true rfl, Nat.le_of_ble_eq_true rfl⟩) hG (fun r_569 M_570 H locs hw hG => ?_)
  rw [hw.1] at hG
  refine gw_as (tst_y hw.2 ⟨⟨rk, hrk, rfl⟩, ⟨ks, hks, rfl⟩, ⟨ke, hke, rfl⟩⟩) ?_
  refine lv_if_eq hx hb (tgt := 26) dX3_dot_8 (by decide) (fun hc => absurd hc (by decide)) (fun hc => ?_)
  refine lv_iload hx hb dX3_dot_11 (lv_at hl 5 rfl) ?_
  refine lv_if_lt hx hb (tgt := 26) dX3_dot_13 (by decide) (fun hc => absurd hc (by decide)) (fun hc => ?_)
  refine lv_iload hx hb dX3_dot_16 (lv_at hl 5 rfl) ?_
  refine lv_iconst (v := nI 2) hx hb dX3_dot_18 (by decide) ?_
  refine gw_icmp_ge hx hb (by omega) (by omega) (tgt := 26) dX3_dot_19 (by decide) (fun hc => absurd hc (by decide)) (fun hc => ?_)
  refine lv_iconst (v := nI 0) hx hb dX3_dot_22 (by decide) ?_
  refine lv_goto (tgt := 27) hx hb dX3_dot_23 (by decide) ?_
  refine gw_calli (va_runV (As := [.int (nI 0)]) (rest := []) ⟨hx, hb, hml, hown, hts⟩ (c_ref0 l K M mo ad _ _ _ _ _ _ _ _ 0 hm) (cwV 1 hts gX3_dot_X3_refuses rfl rfl rfl (by decide +kernel) ⟨Nat.le_of_ble_eq_true rfl, Nat.le_of_ble_eq_true rfl⟩) (gw_preV hG hT p0_o rfl) rfl rfl hl.1 rfl (lv_room (Nat.le_of_ble_eq_true rfl)) dX3_dot_27 ⟨Nat.le_of_ble_eq_true rfl, Nat.le_of_ble_eq_true rfl⟩) hG (fun r_571 M_572 H locs hw hG => ?_)
  rw [hw.1]
  obtain ⟨hm_573, fr_574⟩ := hw.2
  have fr_575 : mfr M M_572 mo ad := mfr.tr mfr.rf fr_574
  obtain ⟨p_576_b, p_576_o, p_576_0, p_576_1, p_576_2, p_576_3, p_576_4, p_576_ne⟩ := id hm_573
  refine lv_if_eq hx hb (tgt := 35) dX3_dot_30 (by decide) (fun hc => ?_) (fun hc => absurd (by decide) hc)
  refine lv_bipush (v := nI 16) hx hb dX3_dot_35 (by decide) ?_
  refine lv_iload_n hx hb dX3_dot_37 rfl (lv_at hl 2 rfl) ?_
  refine gw_imul hx hb dX3_dot_38 ?_
  refine lv_iload_n hx hb dX3_dot_39 rfl (lv_at hl 3 rfl) ?_
  refine gw_iadd hx hb dX3_dot_40 ?_
  refine lv_istore (lv' := [(6, .int (nI ((16 * ks) + ke))), (0, .ref mo), (1, .int (nI rk)), (2, .int (nI ks)), (3, .int (nI ke)), (4, .int i9), (5, .int (nI 1))]) hx hb dX3_dot_41 hl (by decide) rfl (fun ls hl => ?_)
  refine lv_aload_n hx hb dX3_dot_43 rfl (lv_at hl 1 rfl) ?_
  refine lv_iload_n hx hb dX3_dot_44 rfl (lv_at hl 2 rfl) ?_
  refine lv_iload hx hb dX3_dot_45 (lv_at hl 0 rfl) ?_
  refine lv_iload hx hb dX3_dot_47 (lv_at hl 5 rfl) ?_
  have hm_577 : md K M_572 mo ad (nI 0) nn kk tb vb sb fm tq := ⟨p0_b, p_576_o, p_576_0, p_576_1, p_576_2, p_576_3, p_576_4, p0_ne⟩
  refine gw_calli (va_runV (As := [.int (nI rk), .int (nI ((16 * ks) + ke)), .int i9]) (rest := []) ⟨hx, hb, hml, hown, hts⟩ (c_origin l K M_572 mo ad _ _ _ _ _ _ _ _ rk (16 * ks + ke) i9 hm_577 (by omega) (by omega)) (cwV 3 hts gX3_dot_X3_origin rfl rfl rfl (by decide +kernel) ⟨Nat.le_of_ble_eq_true rfl, Nat.le_of_ble_eq_true rfl⟩) (gw_preV hG hT p_576_o rfl) rfl rfl hl.1 rfl (lv_room (Nat.le_of_ble_eq_true rfl)) dX3_dot_49 ⟨Nat.le_of_ble_eq_true rfl, Nat.le_of_ble_eq_true rfl⟩) hG (fun r_578 M_579 H locs hw hG => ?_)
  rw [hw.1] at hG
  refine gw_as hw.2 ?_
  rcases mgo_form tb (414 * rk + 6 + 6 * (16 * ks + ke)) i9 6 with hA | ⟨mk, hmk, hA⟩
  · refine gw_as hA ?_
    refine lv_istore (lv' := [(7, .int ((-1))), (6, .int (nI ((16 * ks) + ke))), (0, .ref mo), (1, .int (nI rk)), (2, .int (nI ks)), (3, .int (nI ke)), (4, .int i9), (5, .int (nI 1))]) hx hb dX3_dot_52 hl (by decide) rfl (fun ls hl => ?_)
    refine lv_iload hx hb dX3_dot_54 (lv_at hl 0 rfl) ?_
    refine lv_iconst (v := (-1)) hx hb dX3_dot_56 (by decide) ?_
    refine lv_icmp_eq hx hb (tgt := 65) dX3_dot_57 (by decide) (fun hc => ?_) (fun hc => absurd rfl hc)
    refine lv_iload hx hb dX3_dot_65 (lv_at hl 0 rfl) ?_
    refine lv_goto (tgt := 84) hx hb dX3_dot_67 (by decide) ?_
    exact gw_iret hx hb hr hlocks hG hT (by omega) (by omega) dX3_dot_84 ⟨(if_pos hA).symm, ⟨p0_b, p_576_o, p_576_0, p_576_1, p_576_2, p_576_3, p_576_4, p0_ne⟩, fr_575⟩
  · refine gw_as hA ?_
    refine lv_istore (lv' := [(7, .int (nI mk)), (6, .int (nI ((16 * ks) + ke))), (0, .ref mo), (1, .int (nI rk)), (2, .int (nI ks)), (3, .int (nI ke)), (4, .int i9), (5, .int (nI 1))]) hx hb dX3_dot_52 hl (by decide) rfl (fun ls hl => ?_)
    refine lv_iload hx hb dX3_dot_54 (lv_at hl 0 rfl) ?_
    refine lv_iconst (v := (-1)) hx hb dX3_dot_56 (by decide) ?_
    refine lv_icmp_eq hx hb (tgt := 65) dX3_dot_57 (by decide) (fun hc => absurd hc (nI_ne1 (by omega))) (fun hc => ?_)
    refine lv_iload hx hb dX3_dot_60 (lv_at hl 7 rfl) ?_
    refine lv_if_ne hx hb (tgt := 70) dX3_dot_62 (by decide) (fun hc => ?_) (fun hc => absurd hc (by decide))
    refine lv_aload_n hx hb dX3_dot_70 rfl (lv_at hl 2 rfl) ?_
    refine gw_get (ci := 4) (C := RX3) (T := TX3) (N := 8) hx hb hts hinX3 hown hK hG p_576_o rfl 3 (by decide) hf14 (fun _ h9 => h9) rfl dX3_dot_71 ?_
    refine lv_iload_n hx hb dX3_dot_74 rfl (lv_at hl 3 rfl) ?_
    refine lv_iload hx hb dX3_dot_75 (lv_at hl 1 rfl) ?_
    refine gw_calli (va_runS (As := [.int (nI rk), .int (nI ((16 * ks) + ke))]) (rest := [.ref (ad 0)]) ⟨hx, hb, hml, hown, hts⟩ (c_dots l K M_572 rk (16 * ks + ke)) (va_cwS 2 hts gX3_dot_X3_dots rfl rfl rfl (by decide +kernel) ⟨Nat.le_of_ble_eq_true rfl, Nat.le_of_ble_eq_true rfl⟩) (gw_preS hG hT) rfl rfl hl.1 rfl (lv_room (Nat.le_of_ble_eq_true rfl)) dX3_dot_77 ⟨Nat.le_of_ble_eq_true rfl, Nat.le_of_ble_eq_true rfl⟩) hG (fun r_580 M_581 H locs hw hG => ?_)
    rw [hw.1] at hG
    refine gw_as hw.2 ?_
    refine lv_iload hx hb dX3_dot_80 (lv_at hl 0 rfl) ?_
    refine gw_iadd hx hb dX3_dot_82 ?_
    refine gw_iald_n hx hb hK hG p_576_0 0 rfl (by omega) (by omega) dX3_dot_83 ?_
    exact gw_iret hx hb hr hlocks hG hT (by omega) (by omega) dX3_dot_84 ⟨by rw [if_neg (by rw [hA]; exact nI_ne1 (by omega)), hA, nI_clamp (by omega)], ⟨p0_b, p_576_o, p_576_0, p_576_1, p_576_2, p_576_3, p_576_4, p0_ne⟩, fr_575⟩

set_option maxHeartbeats 4000000 in
set_option maxRecDepth 100000 in
/-- m_value0 -/
theorem m_value0 (l : Launch) (K : gw_C) (M : gw_M) (mo : Nat) (ad : Nat → Nat) (cd : Int32) (nn kk : Nat) (tb vb : Nat → Int32) (sb : Nat → Int64) (fm tq : Nat → Int32) (rk ks : Nat) (i9 : Int32)  (hm : md K M mo ad cd nn kk tb vb sb fm tq) (hrk : rk < nn) (hks : ks < 4)  : Met l yX3_value wsX3_value ({ frames := 6, cells := 0, slots := 0, locals := 160 } : Room) (va_Pc [.ref mo, .int (nI rk), .int (nI ks), .int i9, .int (nI 0)] (gw_I K M)) (va_Qi (fun r M1 => r = mgo tb (414 * rk + 6 + 6 * (64 + ks)) i9 6 ∧ md K M1 mo ad (nI 0) nn kk tb vb sb fm tq ∧ mfr M M1 mo ad) (gw_I K) (gw_A K)) 0 0 (gw_A K) := by
  refine Met.ofW (cc := cX3_value) (maxL := 6) (ret := (some .int)) (by decide) rfl ?_
  intro p e s m args below meth c s₁ B hml hv
  obtain ⟨hav, hI⟩ := hv
  have hx := B.exec
  have hb := B.bytes
  have hr := B.returns
  have hts := atoms_spec (ws := wsX3_value) B.pre
  have hown : s.vm.findClass RX3 = some m.cls := findClass_of_methodNamed B.named
  have hlocks : meth.locks = false := B.notSynchronized
  have hT := hI.2.2
  have hK := hT.K
  have hG := hI.B
  have hf7 := hts (.fieldLink RX3 7 "DotGossipModel" "replicas" "I") (by decide +kernel)
  have hf14 := hts (.fieldLink RX3 14 "DotGossipModel" "table" "[I") (by decide +kernel)
  have hf18 := hts (.fieldLink RX3 18 "DotGossipModel" "values" "[I") (by decide +kernel)
  have hf31 := hts (.fieldLink RX3 31 "DotGossipModel" "code" "I") (by decide +kernel)
  have hinX3 : ∀ w ∈ wsX30, w ∈ wsX3_value := by decide +kernel
  have hE : entryFrame m args 6 = entryFrame m ([.ref mo, .int (nI rk), .int (nI ks), .int i9, .int (nI 0)] : List Value).toArray 6 := by rw [hav]
  rw [hE]
  have hl := lv_entry ([.ref mo, .int (nI rk), .int (nI ks), .int i9, .int (nI 0)]) (n := 6) (Nat.le_of_ble_eq_true rfl)
  rw [lg_entry_eq]
  generalize (lg_sl ([.ref mo, .int (nI rk), .int (nI ks), .int i9, .int (nI 0)]) ++ List.replicate (6 - (lg_sl ([.ref mo, .int (nI rk), .int (nI ks), .int i9, .int (nI 0)])).length) Slot.unset).toArray = ls at hl ⊢
  have hl : lv_has ls 6 [(0, .ref mo), (1, .int (nI rk)), (2, .int (nI ks)), (3, .int i9), (4, .int (nI 0))] := hl
  obtain ⟨p0_b, p0_o, p0_0, p0_1, p0_2, p0_3, p0_4, p0_ne⟩ := id hm
  have ne_o0 : mo ≠ ad 0 := gw_io p0_o p0_0
  have ne_o1 : mo ≠ ad 1 := gw_io p0_o p0_1
  have ne_o2 : mo ≠ ad 2 := gw_io p0_o p0_2
  have ne_o3 : mo ≠ ad 3 := gw_io p0_o p0_3
  have ne_o4 : mo ≠ ad 4 := gw_io p0_o p0_4
  have hn6 := p0_b.1
  refine lv_aload_n hx hb dX3_value_0 rfl (lv_at hl 0 rfl) ?_
  refine lv_aload_n hx hb dX3_value_1 rfl (lv_at hl 0 rfl) ?_
  refine lv_iload_n hx hb dX3_value_2 rfl (lv_at hl 1 rfl) ?_
  refine lv_iload_n hx hb dX3_value_3 rfl (lv_at hl 2 rfl) ?_
  refine gw_calli (va_runV (As := [.int (nI rk), .int (nI ks)]) (rest := [.ref mo]) ⟨hx, hb, hml, hown, hts⟩ (c_isReg l K M mo ad _ _ _ _ _ _ _ _ (nI rk) (nI ks) hm) (cwV 2 hts gX3_value_X3_isRegister rfl rfl rfl (by decide +kernel) ⟨Nat.le_of_ble_eq_true rfl, Nat.le_of_ble_eq_true rfl⟩) (gw_preV hG hT p0_o rfl) rfl rfl hl.1 rfl (lv_room (Nat.le_of_ble_eq_true rfl)) dX3_value_4 ⟨Nat.le_of_ble_eq_true rfl, Nat.le_of_ble_eq_true rfl⟩) hG (fun r_582 M_583 H locs hw hG => ?_)
  rw [hw.1] at hG
  refine gw_as (tst_y hw.2 ⟨⟨rk, hrk, rfl⟩, ⟨ks, hks, rfl⟩⟩) ?_
  refine lv_if_eq hx hb (tgt := 25) dX3_value_7 (by decide) (fun hc => absurd hc (by decide)) (fun hc => ?_)
  refine lv_iload hx hb dX3_value_10 (lv_at hl 4 rfl) ?_
  refine lv_if_lt hx hb (tgt := 25) dX3_value_12 (by decide) (fun hc => absurd hc (by decide)) (fun hc => ?_)
  refine lv_iload hx hb dX3_value_15 (lv_at hl 4 rfl) ?_
  refine lv_iconst (v := nI 3) hx hb dX3_value_17 (by decide) ?_
  refine gw_icmp_ge hx hb (by omega) (by omega) (tgt := 25) dX3_value_18 (by decide) (fun hc => absurd hc (by decide)) (fun hc => ?_)
  refine lv_iconst (v := nI 0) hx hb dX3_value_21 (by decide) ?_
  refine lv_goto (tgt := 26) hx hb dX3_value_22 (by decide) ?_
  refine gw_calli (va_runV (As := [.int (nI 0)]) (rest := []) ⟨hx, hb, hml, hown, hts⟩ (c_ref0 l K M mo ad _ _ _ _ _ _ _ _ 0 hm) (cwV 1 hts gX3_value_X3_refuses rfl rfl rfl (by decide +kernel) ⟨Nat.le_of_ble_eq_true rfl, Nat.le_of_ble_eq_true rfl⟩) (gw_preV hG hT p0_o rfl) rfl rfl hl.1 rfl (lv_room (Nat.le_of_ble_eq_true rfl)) dX3_value_26 ⟨Nat.le_of_ble_eq_true rfl, Nat.le_of_ble_eq_true rfl⟩) hG (fun r_584 M_585 H locs hw hG => ?_)
  rw [hw.1]
  obtain ⟨hm_586, fr_587⟩ := hw.2
  have fr_588 : mfr M M_585 mo ad := mfr.tr mfr.rf fr_587
  obtain ⟨p_589_b, p_589_o, p_589_0, p_589_1, p_589_2, p_589_3, p_589_4, p_589_ne⟩ := id hm_586
  refine lv_if_eq hx hb (tgt := 34) dX3_value_29 (by decide) (fun hc => ?_) (fun hc => absurd (by decide) hc)
  refine lv_aload_n hx hb dX3_value_34 rfl (lv_at hl 0 rfl) ?_
  refine lv_iload_n hx hb dX3_value_35 rfl (lv_at hl 1 rfl) ?_
  refine lv_bipush (v := nI 64) hx hb dX3_value_36 (by decide) ?_
  refine lv_iload_n hx hb dX3_value_38 rfl (lv_at hl 2 rfl) ?_
  refine gw_iadd hx hb dX3_value_39 ?_
  refine lv_iload_n hx hb dX3_value_40 rfl (lv_at hl 3 rfl) ?_
  have hm_590 : md K M_585 mo ad (nI 0) nn kk tb vb sb fm tq := ⟨p0_b, p_589_o, p_589_0, p_589_1, p_589_2, p_589_3, p_589_4, p0_ne⟩
  refine gw_calli (va_runV (As := [.int (nI rk), .int (nI (64 + ks)), .int i9]) (rest := []) ⟨hx, hb, hml, hown, hts⟩ (c_origin l K M_585 mo ad _ _ _ _ _ _ _ _ rk (64 + ks) i9 hm_590 (by omega) (by omega)) (cwV 3 hts gX3_value_X3_origin rfl rfl rfl (by decide +kernel) ⟨Nat.le_of_ble_eq_true rfl, Nat.le_of_ble_eq_true rfl⟩) (gw_preV hG hT p_589_o rfl) rfl rfl hl.1 rfl (lv_room (Nat.le_of_ble_eq_true rfl)) dX3_value_41 ⟨Nat.le_of_ble_eq_true rfl, Nat.le_of_ble_eq_true rfl⟩) hG (fun r_591 M_592 H locs hw hG => ?_)
  rw [hw.1] at hG
  refine gw_as hw.2 ?_
  rcases mgo_form tb (414 * rk + 6 + 6 * (64 + ks)) i9 6 with hA | ⟨mk, hmk, hA⟩
  · refine gw_as hA ?_
    refine lv_istore (lv' := [(5, .int ((-1))), (0, .ref mo), (1, .int (nI rk)), (2, .int (nI ks)), (3, .int i9), (4, .int (nI 0))]) hx hb dX3_value_44 hl (by decide) rfl (fun ls hl => ?_)
    refine lv_iload hx hb dX3_value_46 (lv_at hl 0 rfl) ?_
    refine lv_iconst (v := (-1)) hx hb dX3_value_48 (by decide) ?_
    refine lv_icmp_ne hx hb (tgt := 64) dX3_value_49 (by decide) (fun hc => absurd rfl hc) (fun hc => ?_)
    refine lv_iload hx hb dX3_value_52 (lv_at hl 5 rfl) ?_
    refine lv_iconst (v := nI 2) hx hb dX3_value_54 (by decide) ?_
    refine gw_icmp_ne hx hb (by omega) (by omega) (tgt := 62) dX3_value_55 (by decide) (fun hc => ?_) (fun hc => absurd hc (by decide))
    refine lv_iconst (v := (-1)) hx hb dX3_value_62 (by decide) ?_
    exact gw_iret hx hb hr hlocks hG hT (by omega) (by omega) dX3_value_63 ⟨hA.symm, ⟨p0_b, p_589_o, p_589_0, p_589_1, p_589_2, p_589_3, p_589_4, p0_ne⟩, fr_588⟩
  · refine gw_as hA ?_
    refine lv_istore (lv' := [(5, .int (nI mk)), (0, .ref mo), (1, .int (nI rk)), (2, .int (nI ks)), (3, .int i9), (4, .int (nI 0))]) hx hb dX3_value_44 hl (by decide) rfl (fun ls hl => ?_)
    refine lv_iload hx hb dX3_value_46 (lv_at hl 0 rfl) ?_
    refine lv_iconst (v := (-1)) hx hb dX3_value_48 (by decide) ?_
    refine lv_icmp_ne hx hb (tgt := 64) dX3_value_49 (by decide) (fun hc => ?_) (fun hc => absurd hc (nI_ne1 (by omega)))
    refine lv_iload hx hb dX3_value_64 (lv_at hl 5 rfl) ?_
    refine lv_if_ne hx hb (tgt := 74) dX3_value_66 (by decide) (fun hc => absurd rfl hc) (fun hc => ?_)
    refine lv_iload hx hb dX3_value_69 (lv_at hl 0 rfl) ?_
    refine lv_goto (tgt := 116) hx hb dX3_value_71 (by decide) ?_
    exact gw_iret hx hb hr hlocks hG hT (by omega) (by omega) dX3_value_116 ⟨hA.symm, ⟨p0_b, p_589_o, p_589_0, p_589_1, p_589_2, p_589_3, p_589_4, p0_ne⟩, fr_588⟩

set_option maxHeartbeats 4000000 in
set_option maxRecDepth 100000 in
/-- m_value1 -/
theorem m_value1 (l : Launch) (K : gw_C) (M : gw_M) (mo : Nat) (ad : Nat → Nat) (cd : Int32) (nn kk : Nat) (tb vb : Nat → Int32) (sb : Nat → Int64) (fm tq : Nat → Int32) (rk ks : Nat) (i9 : Int32)  (hm : md K M mo ad cd nn kk tb vb sb fm tq) (hrk : rk < nn) (hks : ks < 4)  : Met l yX3_value wsX3_value ({ frames := 6, cells := 0, slots := 0, locals := 160 } : Room) (va_Pc [.ref mo, .int (nI rk), .int (nI ks), .int i9, .int (nI 1)] (gw_I K M)) (va_Qi (fun r M1 => r = (if mgo tb (414 * rk + 6 + 6 * (64 + ks)) i9 6 = -1 then -1 else tb (414 * rk + 6 + 6 * (64 + ks) + (mgo tb (414 * rk + 6 + 6 * (64 + ks)) i9 6).toNatClampNeg)) ∧ md K M1 mo ad (nI 0) nn kk tb vb sb fm tq ∧ mfr M M1 mo ad) (gw_I K) (gw_A K)) 0 0 (gw_A K) := by
  refine Met.ofW (cc := cX3_value) (maxL := 6) (ret := (some .int)) (by decide) rfl ?_
  intro p e s m args below meth c s₁ B hml hv
  obtain ⟨hav, hI⟩ := hv
  have hx := B.exec
  have hb := B.bytes
  have hr := B.returns
  have hts := atoms_spec (ws := wsX3_value) B.pre
  have hown : s.vm.findClass RX3 = some m.cls := findClass_of_methodNamed B.named
  have hlocks : meth.locks = false := B.notSynchronized
  have hT := hI.2.2
  have hK := hT.K
  have hG := hI.B
  have hf7 := hts (.fieldLink RX3 7 "DotGossipModel" "replicas" "I") (by decide +kernel)
  have hf14 := hts (.fieldLink RX3 14 "DotGossipModel" "table" "[I") (by decide +kernel)
  have hf18 := hts (.fieldLink RX3 18 "DotGossipModel" "values" "[I") (by decide +kernel)
  have hf31 := hts (.fieldLink RX3 31 "DotGossipModel" "code" "I") (by decide +kernel)
  have hinX3 : ∀ w ∈ wsX30, w ∈ wsX3_value := by decide +kernel
  have hE : entryFrame m args 6 = entryFrame m ([.ref mo, .int (nI rk), .int (nI ks), .int i9, .int (nI 1)] : List Value).toArray 6 := by rw [hav]
  rw [hE]
  have hl := lv_entry ([.ref mo, .int (nI rk), .int (nI ks), .int i9, .int (nI 1)]) (n := 6) (Nat.le_of_ble_eq_true rfl)
  rw [lg_entry_eq]
  generalize (lg_sl ([.ref mo, .int (nI rk), .int (nI ks), .int i9, .int (nI 1)]) ++ List.replicate (6 - (lg_sl ([.ref mo, .int (nI rk), .int (nI ks), .int i9, .int (nI 1)])).length) Slot.unset).toArray = ls at hl ⊢
  have hl : lv_has ls 6 [(0, .ref mo), (1, .int (nI rk)), (2, .int (nI ks)), (3, .int i9), (4, .int (nI 1))] := hl
  obtain ⟨p0_b, p0_o, p0_0, p0_1, p0_2, p0_3, p0_4, p0_ne⟩ := id hm
  have ne_o0 : mo ≠ ad 0 := gw_io p0_o p0_0
  have ne_o1 : mo ≠ ad 1 := gw_io p0_o p0_1
  have ne_o2 : mo ≠ ad 2 := gw_io p0_o p0_2
  have ne_o3 : mo ≠ ad 3 := gw_io p0_o p0_3
  have ne_o4 : mo ≠ ad 4 := gw_io p0_o p0_4
  have hn6 := p0_b.1
  refine lv_aload_n hx hb dX3_value_0 rfl (lv_at hl 0 rfl) ?_
  refine lv_aload_n hx hb dX3_value_1 rfl (lv_at hl 0 rfl) ?_
  refine lv_iload_n hx hb dX3_value_2 rfl (lv_at hl 1 rfl) ?_
  refine lv_iload_n hx hb dX3_value_3 rfl (lv_at hl 2 rfl) ?_
  refine gw_calli (va_runV (As := [.int (nI rk), .int (nI ks)]) (rest := [.ref mo]) ⟨hx, hb, hml, hown, hts⟩ (c_isReg l K M mo ad _ _ _ _ _ _ _ _ (nI rk) (nI ks) hm) (cwV 2 hts gX3_value_X3_isRegister rfl rfl rfl (by decide +kernel) ⟨Nat.le_of_ble_eq_true rfl, Nat.le_of_ble_eq_true rfl⟩) (gw_preV hG hT p0_o rfl) rfl rfl hl.1 rfl (lv_room (Nat.le_of_ble_eq_true rfl)) dX3_value_4 ⟨Nat.le_of_ble_eq_true rfl, Nat.le_of_ble_eq_true rfl⟩) hG (fun r_593 M_594 H locs hw hG => ?_)
  rw [hw.1] at hG
  refine gw_as (tst_y hw.2 ⟨⟨rk, hrk, rfl⟩, ⟨ks, hks, rfl⟩⟩) ?_
  refine lv_if_eq hx hb (tgt := 25) dX3_value_7 (by decide) (fun hc => absurd hc (by decide)) (fun hc => ?_)
  refine lv_iload hx hb dX3_value_10 (lv_at hl 4 rfl) ?_
  refine lv_if_lt hx hb (tgt := 25) dX3_value_12 (by decide) (fun hc => absurd hc (by decide)) (fun hc => ?_)
  refine lv_iload hx hb dX3_value_15 (lv_at hl 4 rfl) ?_
  refine lv_iconst (v := nI 3) hx hb dX3_value_17 (by decide) ?_
  refine gw_icmp_ge hx hb (by omega) (by omega) (tgt := 25) dX3_value_18 (by decide) (fun hc => absurd hc (by decide)) (fun hc => ?_)
  refine lv_iconst (v := nI 0) hx hb dX3_value_21 (by decide) ?_
  refine lv_goto (tgt := 26) hx hb dX3_value_22 (by decide) ?_
  refine gw_calli (va_runV (As := [.int (nI 0)]) (rest := []) ⟨hx, hb, hml, hown, hts⟩ (c_ref0 l K M mo ad _ _ _ _ _ _ _ _ 0 hm) (cwV 1 hts gX3_value_X3_refuses rfl rfl rfl (by decide +kernel) ⟨Nat.le_of_ble_eq_true rfl, Nat.le_of_ble_eq_true rfl⟩) (gw_preV hG hT p0_o rfl) rfl rfl hl.1 rfl (lv_room (Nat.le_of_ble_eq_true rfl)) dX3_value_26 ⟨Nat.le_of_ble_eq_true rfl, Nat.le_of_ble_eq_true rfl⟩) hG (fun r_595 M_596 H locs hw hG => ?_)
  rw [hw.1]
  obtain ⟨hm_597, fr_598⟩ := hw.2
  have fr_599 : mfr M M_596 mo ad := mfr.tr mfr.rf fr_598
  obtain ⟨p_600_b, p_600_o, p_600_0, p_600_1, p_600_2, p_600_3, p_600_4, p_600_ne⟩ := id hm_597
  refine lv_if_eq hx hb (tgt := 34) dX3_value_29 (by decide) (fun hc => ?_) (fun hc => absurd (by decide) hc)
  refine lv_aload_n hx hb dX3_value_34 rfl (lv_at hl 0 rfl) ?_
  refine lv_iload_n hx hb dX3_value_35 rfl (lv_at hl 1 rfl) ?_
  refine lv_bipush (v := nI 64) hx hb dX3_value_36 (by decide) ?_
  refine lv_iload_n hx hb dX3_value_38 rfl (lv_at hl 2 rfl) ?_
  refine gw_iadd hx hb dX3_value_39 ?_
  refine lv_iload_n hx hb dX3_value_40 rfl (lv_at hl 3 rfl) ?_
  have hm_601 : md K M_596 mo ad (nI 0) nn kk tb vb sb fm tq := ⟨p0_b, p_600_o, p_600_0, p_600_1, p_600_2, p_600_3, p_600_4, p0_ne⟩
  refine gw_calli (va_runV (As := [.int (nI rk), .int (nI (64 + ks)), .int i9]) (rest := []) ⟨hx, hb, hml, hown, hts⟩ (c_origin l K M_596 mo ad _ _ _ _ _ _ _ _ rk (64 + ks) i9 hm_601 (by omega) (by omega)) (cwV 3 hts gX3_value_X3_origin rfl rfl rfl (by decide +kernel) ⟨Nat.le_of_ble_eq_true rfl, Nat.le_of_ble_eq_true rfl⟩) (gw_preV hG hT p_600_o rfl) rfl rfl hl.1 rfl (lv_room (Nat.le_of_ble_eq_true rfl)) dX3_value_41 ⟨Nat.le_of_ble_eq_true rfl, Nat.le_of_ble_eq_true rfl⟩) hG (fun r_602 M_603 H locs hw hG => ?_)
  rw [hw.1] at hG
  refine gw_as hw.2 ?_
  rcases mgo_form tb (414 * rk + 6 + 6 * (64 + ks)) i9 6 with hA | ⟨mk, hmk, hA⟩
  · refine gw_as hA ?_
    refine lv_istore (lv' := [(5, .int ((-1))), (0, .ref mo), (1, .int (nI rk)), (2, .int (nI ks)), (3, .int i9), (4, .int (nI 1))]) hx hb dX3_value_44 hl (by decide) rfl (fun ls hl => ?_)
    refine lv_iload hx hb dX3_value_46 (lv_at hl 0 rfl) ?_
    refine lv_iconst (v := (-1)) hx hb dX3_value_48 (by decide) ?_
    refine lv_icmp_ne hx hb (tgt := 64) dX3_value_49 (by decide) (fun hc => absurd rfl hc) (fun hc => ?_)
    refine lv_iload hx hb dX3_value_52 (lv_at hl 5 rfl) ?_
    refine lv_iconst (v := nI 2) hx hb dX3_value_54 (by decide) ?_
    refine gw_icmp_ne hx hb (by omega) (by omega) (tgt := 62) dX3_value_55 (by decide) (fun hc => ?_) (fun hc => absurd hc (by decide))
    refine lv_iconst (v := (-1)) hx hb dX3_value_62 (by decide) ?_
    exact gw_iret hx hb hr hlocks hG hT (by omega) (by omega) dX3_value_63 ⟨(if_pos hA).symm, ⟨p0_b, p_600_o, p_600_0, p_600_1, p_600_2, p_600_3, p_600_4, p0_ne⟩, fr_599⟩
  · refine gw_as hA ?_
    refine lv_istore (lv' := [(5, .int (nI mk)), (0, .ref mo), (1, .int (nI rk)), (2, .int (nI ks)), (3, .int i9), (4, .int (nI 1))]) hx hb dX3_value_44 hl (by decide) rfl (fun ls hl => ?_)
    refine lv_iload hx hb dX3_value_46 (lv_at hl 0 rfl) ?_
    refine lv_iconst (v := (-1)) hx hb dX3_value_48 (by decide) ?_
    refine lv_icmp_ne hx hb (tgt := 64) dX3_value_49 (by decide) (fun hc => ?_) (fun hc => absurd hc (nI_ne1 (by omega)))
    refine lv_iload hx hb dX3_value_64 (lv_at hl 5 rfl) ?_
    refine lv_if_ne hx hb (tgt := 74) dX3_value_66 (by decide) (fun hc => ?_) (fun hc => absurd hc (by decide))
    refine lv_iload hx hb dX3_value_74 (lv_at hl 5 rfl) ?_
    refine lv_iconst (v := nI 1) hx hb dX3_value_76 (by decide) ?_
    refine gw_icmp_ne hx hb (by omega) (by omega) (tgt := 99) dX3_value_77 (by decide) (fun hc => absurd rfl hc) (fun hc => ?_)
    refine lv_aload_n hx hb dX3_value_80 rfl (lv_at hl 1 rfl) ?_
    refine gw_get (ci := 4) (C := RX3) (T := TX3) (N := 8) hx hb hts hinX3 hown hK hG p_600_o rfl 3 (by decide) hf14 (fun _ h9 => h9) rfl dX3_value_81 ?_
    refine lv_iload_n hx hb dX3_value_84 rfl (lv_at hl 2 rfl) ?_
    refine lv_bipush (v := nI 64) hx hb dX3_value_85 (by decide) ?_
    refine lv_iload_n hx hb dX3_value_87 rfl (lv_at hl 3 rfl) ?_
    refine gw_iadd hx hb dX3_value_88 ?_
    refine gw_calli (va_runS (As := [.int (nI rk), .int (nI (64 + ks))]) (rest := [.ref (ad 0)]) ⟨hx, hb, hml, hown, hts⟩ (c_dots l K M_596 rk (64 + ks)) (va_cwS 2 hts gX3_value_X3_dots rfl rfl rfl (by decide +kernel) ⟨Nat.le_of_ble_eq_true rfl, Nat.le_of_ble_eq_true rfl⟩) (gw_preS hG hT) rfl rfl hl.1 rfl (lv_room (Nat.le_of_ble_eq_true rfl)) dX3_value_89 ⟨Nat.le_of_ble_eq_true rfl, Nat.le_of_ble_eq_true rfl⟩) hG (fun r_604 M_605 H locs hw hG => ?_)
    rw [hw.1] at hG
    refine gw_as hw.2 ?_
    refine lv_iload hx hb dX3_value_92 (lv_at hl 0 rfl) ?_
    refine gw_iadd hx hb dX3_value_94 ?_
    refine gw_iald_n hx hb hK hG p_600_0 0 rfl (by omega) (by omega) dX3_value_95 ?_
    refine lv_goto (tgt := 116) hx hb dX3_value_96 (by decide) ?_
    exact gw_iret hx hb hr hlocks hG hT (by omega) (by omega) dX3_value_116 ⟨by rw [if_neg (by rw [hA]; exact nI_ne1 (by omega)), hA, nI_clamp (by omega)], ⟨p0_b, p_600_o, p_600_0, p_600_1, p_600_2, p_600_3, p_600_4, p0_ne⟩, fr_599⟩

set_option maxHeartbeats 4000000 in
set_option maxRecDepth 100000 in
/-- m_value2 -/
theorem m_value2 (l : Launch) (K : gw_C) (M : gw_M) (mo : Nat) (ad : Nat → Nat) (cd : Int32) (nn kk : Nat) (tb vb : Nat → Int32) (sb : Nat → Int64) (fm tq : Nat → Int32) (rk ks : Nat) (i9 : Int32)  (hm : md K M mo ad cd nn kk tb vb sb fm tq) (hrk : rk < nn) (hks : ks < 4)  : Met l yX3_value wsX3_value ({ frames := 6, cells := 0, slots := 0, locals := 160 } : Room) (va_Pc [.ref mo, .int (nI rk), .int (nI ks), .int i9, .int (nI 2)] (gw_I K M)) (va_Qi (fun r M1 => r = (if mgo tb (414 * rk + 6 + 6 * (64 + ks)) i9 6 = -1 then 0 else vb (24 * rk + 6 * ks + (mgo tb (414 * rk + 6 + 6 * (64 + ks)) i9 6).toNatClampNeg)) ∧ md K M1 mo ad (nI 0) nn kk tb vb sb fm tq ∧ mfr M M1 mo ad) (gw_I K) (gw_A K)) 0 0 (gw_A K) := by
  refine Met.ofW (cc := cX3_value) (maxL := 6) (ret := (some .int)) (by decide) rfl ?_
  intro p e s m args below meth c s₁ B hml hv
  obtain ⟨hav, hI⟩ := hv
  have hx := B.exec
  have hb := B.bytes
  have hr := B.returns
  have hts := atoms_spec (ws := wsX3_value) B.pre
  have hown : s.vm.findClass RX3 = some m.cls := findClass_of_methodNamed B.named
  have hlocks : meth.locks = false := B.notSynchronized
  have hT := hI.2.2
  have hK := hT.K
  have hG := hI.B
  have hf7 := hts (.fieldLink RX3 7 "DotGossipModel" "replicas" "I") (by decide +kernel)
  have hf14 := hts (.fieldLink RX3 14 "DotGossipModel" "table" "[I") (by decide +kernel)
  have hf18 := hts (.fieldLink RX3 18 "DotGossipModel" "values" "[I") (by decide +kernel)
  have hf31 := hts (.fieldLink RX3 31 "DotGossipModel" "code" "I") (by decide +kernel)
  have hinX3 : ∀ w ∈ wsX30, w ∈ wsX3_value := by decide +kernel
  have hE : entryFrame m args 6 = entryFrame m ([.ref mo, .int (nI rk), .int (nI ks), .int i9, .int (nI 2)] : List Value).toArray 6 := by rw [hav]
  rw [hE]
  have hl := lv_entry ([.ref mo, .int (nI rk), .int (nI ks), .int i9, .int (nI 2)]) (n := 6) (Nat.le_of_ble_eq_true rfl)
  rw [lg_entry_eq]
  generalize (lg_sl ([.ref mo, .int (nI rk), .int (nI ks), .int i9, .int (nI 2)]) ++ List.replicate (6 - (lg_sl ([.ref mo, .int (nI rk), .int (nI ks), .int i9, .int (nI 2)])).length) Slot.unset).toArray = ls at hl ⊢
  have hl : lv_has ls 6 [(0, .ref mo), (1, .int (nI rk)), (2, .int (nI ks)), (3, .int i9), (4, .int (nI 2))] := hl
  obtain ⟨p0_b, p0_o, p0_0, p0_1, p0_2, p0_3, p0_4, p0_ne⟩ := id hm
  have ne_o0 : mo ≠ ad 0 := gw_io p0_o p0_0
  have ne_o1 : mo ≠ ad 1 := gw_io p0_o p0_1
  have ne_o2 : mo ≠ ad 2 := gw_io p0_o p0_2
  have ne_o3 : mo ≠ ad 3 := gw_io p0_o p0_3
  have ne_o4 : mo ≠ ad 4 := gw_io p0_o p0_4
  have hn6 := p0_b.1
  refine lv_aload_n hx hb dX3_value_0 rfl (lv_at hl 0 rfl) ?_
  refine lv_aload_n hx hb dX3_value_1 rfl (lv_at hl 0 rfl) ?_
  refine lv_iload_n hx hb dX3_value_2 rfl (lv_at hl 1 rfl) ?_
  refine lv_iload_n hx hb dX3_value_3 rfl (lv_at hl 2 rfl) ?_
  refine gw_calli (va_runV (As := [.int (nI rk), .int (nI ks)]) (rest := [.ref mo]) ⟨hx, hb, hml, hown, hts⟩ (c_isReg l K M mo ad _ _ _ _ _ _ _ _ (nI rk) (nI ks) hm) (cwV 2 hts gX3_value_X3_isRegister rfl rfl rfl (by decide +kernel) ⟨Nat.le_of_ble_eq_true rfl, Nat.le_of_ble_eq_true rfl⟩) (gw_preV hG hT p0_o rfl) rfl rfl hl.1 rfl (lv_room (Nat.le_of_ble_eq_true rfl)) dX3_value_4 ⟨Nat.le_of_ble_eq_true rfl, Nat.le_of_ble_eq_true rfl⟩) hG (fun r_606 M_607 H locs hw hG => ?_)
  rw [hw.1] at hG
  refine gw_as (tst_y hw.2 ⟨⟨rk, hrk, rfl⟩, ⟨ks, hks, rfl⟩⟩) ?_
  refine lv_if_eq hx hb (tgt := 25) dX3_value_7 (by decide) (fun hc => absurd hc (by decide)) (fun hc => ?_)
  refine lv_iload hx hb dX3_value_10 (lv_at hl 4 rfl) ?_
  refine lv_if_lt hx hb (tgt := 25) dX3_value_12 (by decide) (fun hc => absurd hc (by decide)) (fun hc => ?_)
  refine lv_iload hx hb dX3_value_15 (lv_at hl 4 rfl) ?_
  refine lv_iconst (v := nI 3) hx hb dX3_value_17 (by decide) ?_
  refine gw_icmp_ge hx hb (by omega) (by omega) (tgt := 25) dX3_value_18 (by decide) (fun hc => absurd hc (by decide)) (fun hc => ?_)
  refine lv_iconst (v := nI 0) hx hb dX3_value_21 (by decide) ?_
  refine lv_goto (tgt := 26) hx hb dX3_value_22 (by decide) ?_
  refine gw_calli (va_runV (As := [.int (nI 0)]) (rest := []) ⟨hx, hb, hml, hown, hts⟩ (c_ref0 l K M mo ad _ _ _ _ _ _ _ _ 0 hm) (cwV 1 hts gX3_value_X3_refuses rfl rfl rfl (by decide +kernel) ⟨Nat.le_of_ble_eq_true rfl, Nat.le_of_ble_eq_true rfl⟩) (gw_preV hG hT p0_o rfl) rfl rfl hl.1 rfl (lv_room (Nat.le_of_ble_eq_true rfl)) dX3_value_26 ⟨Nat.le_of_ble_eq_true rfl, Nat.le_of_ble_eq_true rfl⟩) hG (fun r_608 M_609 H locs hw hG => ?_)
  rw [hw.1]
  obtain ⟨hm_610, fr_611⟩ := hw.2
  have fr_612 : mfr M M_609 mo ad := mfr.tr mfr.rf fr_611
  obtain ⟨p_613_b, p_613_o, p_613_0, p_613_1, p_613_2, p_613_3, p_613_4, p_613_ne⟩ := id hm_610
  refine lv_if_eq hx hb (tgt := 34) dX3_value_29 (by decide) (fun hc => ?_) (fun hc => absurd (by decide) hc)
  refine lv_aload_n hx hb dX3_value_34 rfl (lv_at hl 0 rfl) ?_
  refine lv_iload_n hx hb dX3_value_35 rfl (lv_at hl 1 rfl) ?_
  refine lv_bipush (v := nI 64) hx hb dX3_value_36 (by decide) ?_
  refine lv_iload_n hx hb dX3_value_38 rfl (lv_at hl 2 rfl) ?_
  refine gw_iadd hx hb dX3_value_39 ?_
  refine lv_iload_n hx hb dX3_value_40 rfl (lv_at hl 3 rfl) ?_
  have hm_614 : md K M_609 mo ad (nI 0) nn kk tb vb sb fm tq := ⟨p0_b, p_613_o, p_613_0, p_613_1, p_613_2, p_613_3, p_613_4, p0_ne⟩
  refine gw_calli (va_runV (As := [.int (nI rk), .int (nI (64 + ks)), .int i9]) (rest := []) ⟨hx, hb, hml, hown, hts⟩ (c_origin l K M_609 mo ad _ _ _ _ _ _ _ _ rk (64 + ks) i9 hm_614 (by omega) (by omega)) (cwV 3 hts gX3_value_X3_origin rfl rfl rfl (by decide +kernel) ⟨Nat.le_of_ble_eq_true rfl, Nat.le_of_ble_eq_true rfl⟩) (gw_preV hG hT p_613_o rfl) rfl rfl hl.1 rfl (lv_room (Nat.le_of_ble_eq_true rfl)) dX3_value_41 ⟨Nat.le_of_ble_eq_true rfl, Nat.le_of_ble_eq_true rfl⟩) hG (fun r_615 M_616 H locs hw hG => ?_)
  rw [hw.1] at hG
  refine gw_as hw.2 ?_
  rcases mgo_form tb (414 * rk + 6 + 6 * (64 + ks)) i9 6 with hA | ⟨mk, hmk, hA⟩
  · refine gw_as hA ?_
    refine lv_istore (lv' := [(5, .int ((-1))), (0, .ref mo), (1, .int (nI rk)), (2, .int (nI ks)), (3, .int i9), (4, .int (nI 2))]) hx hb dX3_value_44 hl (by decide) rfl (fun ls hl => ?_)
    refine lv_iload hx hb dX3_value_46 (lv_at hl 0 rfl) ?_
    refine lv_iconst (v := (-1)) hx hb dX3_value_48 (by decide) ?_
    refine lv_icmp_ne hx hb (tgt := 64) dX3_value_49 (by decide) (fun hc => absurd rfl hc) (fun hc => ?_)
    refine lv_iload hx hb dX3_value_52 (lv_at hl 5 rfl) ?_
    refine lv_iconst (v := nI 2) hx hb dX3_value_54 (by decide) ?_
    refine gw_icmp_ne hx hb (by omega) (by omega) (tgt := 62) dX3_value_55 (by decide) (fun hc => absurd rfl hc) (fun hc => ?_)
    refine lv_iconst (v := nI 0) hx hb dX3_value_58 (by decide) ?_
    refine lv_goto (tgt := 63) hx hb dX3_value_59 (by decide) ?_
    exact gw_iret hx hb hr hlocks hG hT (by omega) (by omega) dX3_value_63 ⟨(if_pos hA).symm, ⟨p0_b, p_613_o, p_613_0, p_613_1, p_613_2, p_613_3, p_613_4, p0_ne⟩, fr_612⟩
  · refine gw_as hA ?_
    refine lv_istore (lv' := [(5, .int (nI mk)), (0, .ref mo), (1, .int (nI rk)), (2, .int (nI ks)), (3, .int i9), (4, .int (nI 2))]) hx hb dX3_value_44 hl (by decide) rfl (fun ls hl => ?_)
    refine lv_iload hx hb dX3_value_46 (lv_at hl 0 rfl) ?_
    refine lv_iconst (v := (-1)) hx hb dX3_value_48 (by decide) ?_
    refine lv_icmp_ne hx hb (tgt := 64) dX3_value_49 (by decide) (fun hc => ?_) (fun hc => absurd hc (nI_ne1 (by omega)))
    refine lv_iload hx hb dX3_value_64 (lv_at hl 5 rfl) ?_
    refine lv_if_ne hx hb (tgt := 74) dX3_value_66 (by decide) (fun hc => ?_) (fun hc => absurd hc (by decide))
    refine lv_iload hx hb dX3_value_74 (lv_at hl 5 rfl) ?_
    refine lv_iconst (v := nI 1) hx hb dX3_value_76 (by decide) ?_
    refine gw_icmp_ne hx hb (by omega) (by omega) (tgt := 99) dX3_value_77 (by decide) (fun hc => ?_) (fun hc => absurd hc (by decide))
    refine lv_aload_n hx hb dX3_value_99 rfl (lv_at hl 1 rfl) ?_
    refine gw_get (ci := 4) (C := RX3) (T := TX3) (N := 8) hx hb hts hinX3 hown hK hG p_613_o rfl 4 (by decide) hf18 (fun _ h9 => h9) rfl dX3_value_100 ?_
    refine lv_bipush (v := nI 24) hx hb dX3_value_103 (by decide) ?_
    refine lv_iload_n hx hb dX3_value_105 rfl (lv_at hl 2 rfl) ?_
    refine gw_imul hx hb dX3_value_106 ?_
    refine lv_bipush (v := nI 6) hx hb dX3_value_107 (by decide) ?_
    refine lv_iload_n hx hb dX3_value_109 rfl (lv_at hl 3 rfl) ?_
    refine gw_imul hx hb dX3_value_110 ?_
    refine gw_iadd hx hb dX3_value_111 ?_
    refine lv_iload hx hb dX3_value_112 (lv_at hl 0 rfl) ?_
    refine gw_iadd hx hb dX3_value_114 ?_
    refine gw_iald_n hx hb hK hG p_613_1 0 rfl (by omega) (by omega) dX3_value_115 ?_
    exact gw_iret hx hb hr hlocks hG hT (by omega) (by omega) dX3_value_116 ⟨by rw [if_neg (by rw [hA]; exact nI_ne1 (by omega)), hA, nI_clamp (by omega)], ⟨p0_b, p_613_o, p_613_0, p_613_1, p_613_2, p_613_3, p_613_4, p0_ne⟩, fr_612⟩
