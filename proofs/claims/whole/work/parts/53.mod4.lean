/-- clearing a set -/
def mcl (tb : Nat → Int32) (rk ks : Nat) : Nat → (Nat → Int32) × Nat
  | 0 => (tb, 0)
  | i + 1 => (mclr (mcl tb rk ks i).1 (414 * rk + 6 + 6 * (16 * ks + i)) 6, (mcl tb rk ks i).2 + (if mny (mcl tb rk ks i).1 (414 * rk + 6 + 6 * (16 * ks + i)) 6 = 0 then 0 else 1))
/-- how many elements a set has -/
def msz (tb : Nat → Int32) (rk ks : Nat) : Nat → Nat
  | 0 => 0
  | i + 1 => msz tb rk ks i + (if mny tb (414 * rk + 6 + 6 * (16 * ks + i)) 6 = 0 then 0 else 1)
/-- a counter counted -/
def mcn (sb : Nat → Int64) (at9 : Nat) (b : Int32) : Nat → Int64 := if b ≤ 0 then vp_updL sb (at9 + 24) (sb (at9 + 24) - b.toInt64) else vp_updL sb at9 (sb at9 + b.toInt64)
set_option maxHeartbeats 4000000 in
set_option maxRecDepth 100000 in
/-- m_add_no -/
theorem m_add_no (l : Launch) (K : gw_C) (M : gw_M) (mo : Nat) (ad : Nat → Nat) (cd : Int32) (nn kk : Nat) (tb vb : Nat → Int32) (sb : Nat → Int64) (fm tq : Nat → Int32) (r9 s9 e9 : Int32)  (hm : md K M mo ad cd nn kk tb vb sb fm tq) (hP : ¬ (inN r9 nn ∧ inN s9 4 ∧ inN e9 16)) : Met l yX3_add wsX3_add ({ frames := 6, cells := 0, slots := 0, locals := 160 } : Room) (va_Pc [.ref mo, .int r9, .int s9, .int e9] (gw_I K M)) (va_Qi (fun r M1 => md K M1 mo ad (nI 1) nn kk tb vb sb fm tq ∧ mfr M M1 mo ad) (gw_I K) (gw_A K)) 0 0 (gw_A K) := by
  refine Met.ofW (cc := cX3_add) (maxL := 4) (ret := (some .int)) (by decide) rfl ?_
  intro p e s m args below meth c s₁ B hml hv
  obtain ⟨hav, hI⟩ := hv
  have hx := B.exec
  have hb := B.bytes
  have hr := B.returns
  have hts := atoms_spec (ws := wsX3_add) B.pre
  have hown : s.vm.findClass RX3 = some m.cls := findClass_of_methodNamed B.named
  have hlocks : meth.locks = false := B.notSynchronized
  have hT := hI.2.2
  have hK := hT.K
  have hG := hI.B
  have hf7 := hts (.fieldLink RX3 7 "DotGossipModel" "replicas" "I") (by decide +kernel)
  have hf14 := hts (.fieldLink RX3 14 "DotGossipModel" "table" "[I") (by decide +kernel)
  have hf31 := hts (.fieldLink RX3 31 "DotGossipModel" "code" "I") (by decide +kernel)
  have hinX3 : ∀ w ∈ wsX30, w ∈ wsX3_add := by decide +kernel
  have hE : entryFrame m args 4 = entryFrame m ([.ref mo, .int r9, .int s9, .int e9] : List Value).toArray 4 := by rw [hav]
  rw [hE]
  have hl := lv_entry ([.ref mo, .int r9, .int s9, .int e9]) (n := 4) (Nat.le_of_ble_eq_true rfl)
  rw [lg_entry_eq]
  generalize (lg_sl ([.ref mo, .int r9, .int s9, .int e9]) ++ List.replicate (4 - (lg_sl ([.ref mo, .int r9, .int s9, .int e9])).length) Slot.unset).toArray = ls at hl ⊢
  have hl : lv_has ls 4 [(0, .ref mo), (1, .int r9), (2, .int s9), (3, .int e9)] := hl
  obtain ⟨p0_b, p0_o, p0_0, p0_1, p0_2, p0_3, p0_4, p0_ne⟩ := id hm
  have ne_o0 : mo ≠ ad 0 := gw_io p0_o p0_0
  have ne_o1 : mo ≠ ad 1 := gw_io p0_o p0_1
  have ne_o2 : mo ≠ ad 2 := gw_io p0_o p0_2
  have ne_o3 : mo ≠ ad 3 := gw_io p0_o p0_3
  have ne_o4 : mo ≠ ad 4 := gw_io p0_o p0_4
  refine lv_aload_n hx hb dX3_add_0 rfl (lv_at hl 0 rfl) ?_
  refine lv_aload_n hx hb dX3_add_1 rfl (lv_at hl 0 rfl) ?_
  refine lv_iload_n hx hb dX3_add_2 rfl (lv_at hl 1 rfl) ?_
  refine lv_iload_n hx hb dX3_add_3 rfl (lv_at hl 2 rfl) ?_
  refine lv_iload_n hx hb dX3_add_4 rfl (lv_at hl 3 rfl) ?_
  refine gw_calli (va_runV (As := [.int r9, .int s9, .int e9]) (rest := [.ref mo]) ⟨hx, hb, hml, hown, hts⟩ (c_isEl l K M mo ad _ _ _ _ _ _ _ _ r9 s9 e9 hm) (cwV 3 hts gX3_add_X3_isElement rfl rfl rfl (by decide +kernel) ⟨Nat.le_of_ble_eq_true rfl, Nat.le_of_ble_eq_true rfl⟩) (gw_preV hG hT p0_o rfl) rfl rfl hl.1 rfl (lv_room (Nat.le_of_ble_eq_true rfl)) dX3_add_5 ⟨Nat.le_of_ble_eq_true rfl, Nat.le_of_ble_eq_true rfl⟩) hG (fun r_15 M_16 H locs hw hG => ?_)
  rw [hw.1] at hG
  refine gw_as (tst_n hw.2 hP) ?_
  refine lv_if_eq hx hb (tgt := 15) dX3_add_8 (by decide) (fun hc => ?_) (fun hc => absurd (by decide) hc)
  refine lv_iconst (v := nI 1) hx hb dX3_add_15 (by decide) ?_
  refine gw_calli (va_runV (As := [.int (nI 1)]) (rest := []) ⟨hx, hb, hml, hown, hts⟩ (c_refp l K M mo ad _ _ _ _ _ _ _ _ 1 hm (by decide)) (cwV 1 hts gX3_add_X3_refuses rfl rfl rfl (by decide +kernel) ⟨Nat.le_of_ble_eq_true rfl, Nat.le_of_ble_eq_true rfl⟩) (gw_preV hG hT p0_o rfl) rfl rfl hl.1 rfl (lv_room (Nat.le_of_ble_eq_true rfl)) dX3_add_16 ⟨Nat.le_of_ble_eq_true rfl, Nat.le_of_ble_eq_true rfl⟩) hG (fun r_17 M_18 H locs hw hG => ?_)
  rw [hw.1]
  obtain ⟨hm_19, fr_20⟩ := hw.2
  have fr_21 : mfr M M_18 mo ad := mfr.tr mfr.rf fr_20
  obtain ⟨p_22_b, p_22_o, p_22_0, p_22_1, p_22_2, p_22_3, p_22_4, p_22_ne⟩ := id hm_19
  refine lv_if_eq hx hb (tgt := 26) dX3_add_19 (by decide) (fun hc => absurd hc (by decide)) (fun hc => ?_)
  refine lv_iconst (v := nI 0) hx hb dX3_add_22 (by decide) ?_
  refine lv_goto (tgt := 37) hx hb dX3_add_23 (by decide) ?_
  exact gw_iret hx hb hr hlocks hG hT (by omega) (by omega) dX3_add_37 ⟨⟨p0_b, p_22_o, p_22_0, p_22_1, p_22_2, p_22_3, p_22_4, p0_ne⟩, fr_21⟩

set_option maxHeartbeats 4000000 in
set_option maxRecDepth 100000 in
/-- m_remove_no -/
theorem m_remove_no (l : Launch) (K : gw_C) (M : gw_M) (mo : Nat) (ad : Nat → Nat) (cd : Int32) (nn kk : Nat) (tb vb : Nat → Int32) (sb : Nat → Int64) (fm tq : Nat → Int32) (r9 s9 e9 : Int32)  (hm : md K M mo ad cd nn kk tb vb sb fm tq) (hP : ¬ (inN r9 nn ∧ inN s9 4 ∧ inN e9 16)) : Met l yX3_remove wsX3_remove ({ frames := 6, cells := 0, slots := 0, locals := 160 } : Room) (va_Pc [.ref mo, .int r9, .int s9, .int e9] (gw_I K M)) (va_Qi (fun r M1 => md K M1 mo ad (nI 1) nn kk tb vb sb fm tq ∧ mfr M M1 mo ad) (gw_I K) (gw_A K)) 0 0 (gw_A K) := by
  refine Met.ofW (cc := cX3_remove) (maxL := 5) (ret := (some .int)) (by decide) rfl ?_
  intro p e s m args below meth c s₁ B hml hv
  obtain ⟨hav, hI⟩ := hv
  have hx := B.exec
  have hb := B.bytes
  have hr := B.returns
  have hts := atoms_spec (ws := wsX3_remove) B.pre
  have hown : s.vm.findClass RX3 = some m.cls := findClass_of_methodNamed B.named
  have hlocks : meth.locks = false := B.notSynchronized
  have hT := hI.2.2
  have hK := hT.K
  have hG := hI.B
  have hf7 := hts (.fieldLink RX3 7 "DotGossipModel" "replicas" "I") (by decide +kernel)
  have hf14 := hts (.fieldLink RX3 14 "DotGossipModel" "table" "[I") (by decide +kernel)
  have hf31 := hts (.fieldLink RX3 31 "DotGossipModel" "code" "I") (by decide +kernel)
  have hinX3 : ∀ w ∈ wsX30, w ∈ wsX3_remove := by decide +kernel
  have hE : entryFrame m args 5 = entryFrame m ([.ref mo, .int r9, .int s9, .int e9] : List Value).toArray 5 := by rw [hav]
  rw [hE]
  have hl := lv_entry ([.ref mo, .int r9, .int s9, .int e9]) (n := 5) (Nat.le_of_ble_eq_true rfl)
  rw [lg_entry_eq]
  generalize (lg_sl ([.ref mo, .int r9, .int s9, .int e9]) ++ List.replicate (5 - (lg_sl ([.ref mo, .int r9, .int s9, .int e9])).length) Slot.unset).toArray = ls at hl ⊢
  have hl : lv_has ls 5 [(0, .ref mo), (1, .int r9), (2, .int s9), (3, .int e9)] := hl
  obtain ⟨p0_b, p0_o, p0_0, p0_1, p0_2, p0_3, p0_4, p0_ne⟩ := id hm
  have ne_o0 : mo ≠ ad 0 := gw_io p0_o p0_0
  have ne_o1 : mo ≠ ad 1 := gw_io p0_o p0_1
  have ne_o2 : mo ≠ ad 2 := gw_io p0_o p0_2
  have ne_o3 : mo ≠ ad 3 := gw_io p0_o p0_3
  have ne_o4 : mo ≠ ad 4 := gw_io p0_o p0_4
  refine lv_aload_n hx hb dX3_remove_0 rfl (lv_at hl 0 rfl) ?_
  refine lv_aload_n hx hb dX3_remove_1 rfl (lv_at hl 0 rfl) ?_
  refine lv_iload_n hx hb dX3_remove_2 rfl (lv_at hl 1 rfl) ?_
  refine lv_iload_n hx hb dX3_remove_3 rfl (lv_at hl 2 rfl) ?_
  refine lv_iload_n hx hb dX3_remove_4 rfl (lv_at hl 3 rfl) ?_
  refine gw_calli (va_runV (As := [.int r9, .int s9, .int e9]) (rest := [.ref mo]) ⟨hx, hb, hml, hown, hts⟩ (c_isEl l K M mo ad _ _ _ _ _ _ _ _ r9 s9 e9 hm) (cwV 3 hts gX3_remove_X3_isElement rfl rfl rfl (by decide +kernel) ⟨Nat.le_of_ble_eq_true rfl, Nat.le_of_ble_eq_true rfl⟩) (gw_preV hG hT p0_o rfl) rfl rfl hl.1 rfl (lv_room (Nat.le_of_ble_eq_true rfl)) dX3_remove_5 ⟨Nat.le_of_ble_eq_true rfl, Nat.le_of_ble_eq_true rfl⟩) hG (fun r_23 M_24 H locs hw hG => ?_)
  rw [hw.1] at hG
  refine gw_as (tst_n hw.2 hP) ?_
  refine lv_if_eq hx hb (tgt := 15) dX3_remove_8 (by decide) (fun hc => ?_) (fun hc => absurd (by decide) hc)
  refine lv_iconst (v := nI 1) hx hb dX3_remove_15 (by decide) ?_
  refine gw_calli (va_runV (As := [.int (nI 1)]) (rest := []) ⟨hx, hb, hml, hown, hts⟩ (c_refp l K M mo ad _ _ _ _ _ _ _ _ 1 hm (by decide)) (cwV 1 hts gX3_remove_X3_refuses rfl rfl rfl (by decide +kernel) ⟨Nat.le_of_ble_eq_true rfl, Nat.le_of_ble_eq_true rfl⟩) (gw_preV hG hT p0_o rfl) rfl rfl hl.1 rfl (lv_room (Nat.le_of_ble_eq_true rfl)) dX3_remove_16 ⟨Nat.le_of_ble_eq_true rfl, Nat.le_of_ble_eq_true rfl⟩) hG (fun r_25 M_26 H locs hw hG => ?_)
  rw [hw.1]
  obtain ⟨hm_27, fr_28⟩ := hw.2
  have fr_29 : mfr M M_26 mo ad := mfr.tr mfr.rf fr_28
  obtain ⟨p_30_b, p_30_o, p_30_0, p_30_1, p_30_2, p_30_3, p_30_4, p_30_ne⟩ := id hm_27
  refine lv_if_eq hx hb (tgt := 24) dX3_remove_19 (by decide) (fun hc => absurd hc (by decide)) (fun hc => ?_)
  refine lv_iconst (v := nI 0) hx hb dX3_remove_22 (by decide) ?_
  exact gw_iret hx hb hr hlocks hG hT (by omega) (by omega) dX3_remove_23 ⟨⟨p0_b, p_30_o, p_30_0, p_30_1, p_30_2, p_30_3, p_30_4, p0_ne⟩, fr_29⟩

set_option maxHeartbeats 4000000 in
set_option maxRecDepth 100000 in
/-- m_contains_no -/
theorem m_contains_no (l : Launch) (K : gw_C) (M : gw_M) (mo : Nat) (ad : Nat → Nat) (cd : Int32) (nn kk : Nat) (tb vb : Nat → Int32) (sb : Nat → Int64) (fm tq : Nat → Int32) (r9 s9 e9 : Int32)  (hm : md K M mo ad cd nn kk tb vb sb fm tq) (hP : ¬ (inN r9 nn ∧ inN s9 4 ∧ inN e9 16)) : Met l yX3_contains wsX3_contains ({ frames := 6, cells := 0, slots := 0, locals := 160 } : Room) (va_Pc [.ref mo, .int r9, .int s9, .int e9] (gw_I K M)) (va_Qi (fun r M1 => md K M1 mo ad (nI 1) nn kk tb vb sb fm tq ∧ mfr M M1 mo ad) (gw_I K) (gw_A K)) 0 0 (gw_A K) := by
  refine Met.ofW (cc := cX3_contains) (maxL := 4) (ret := (some .boolean)) (by decide) rfl ?_
  intro p e s m args below meth c s₁ B hml hv
  obtain ⟨hav, hI⟩ := hv
  have hx := B.exec
  have hb := B.bytes
  have hr := B.returns
  have hts := atoms_spec (ws := wsX3_contains) B.pre
  have hown : s.vm.findClass RX3 = some m.cls := findClass_of_methodNamed B.named
  have hlocks : meth.locks = false := B.notSynchronized
  have hT := hI.2.2
  have hK := hT.K
  have hG := hI.B
  have hf7 := hts (.fieldLink RX3 7 "DotGossipModel" "replicas" "I") (by decide +kernel)
  have hf14 := hts (.fieldLink RX3 14 "DotGossipModel" "table" "[I") (by decide +kernel)
  have hf31 := hts (.fieldLink RX3 31 "DotGossipModel" "code" "I") (by decide +kernel)
  have hinX3 : ∀ w ∈ wsX30, w ∈ wsX3_contains := by decide +kernel
  have hE : entryFrame m args 4 = entryFrame m ([.ref mo, .int r9, .int s9, .int e9] : List Value).toArray 4 := by rw [hav]
  rw [hE]
  have hl := lv_entry ([.ref mo, .int r9, .int s9, .int e9]) (n := 4) (Nat.le_of_ble_eq_true rfl)
  rw [lg_entry_eq]
  generalize (lg_sl ([.ref mo, .int r9, .int s9, .int e9]) ++ List.replicate (4 - (lg_sl ([.ref mo, .int r9, .int s9, .int e9])).length) Slot.unset).toArray = ls at hl ⊢
  have hl : lv_has ls 4 [(0, .ref mo), (1, .int r9), (2, .int s9), (3, .int e9)] := hl
  obtain ⟨p0_b, p0_o, p0_0, p0_1, p0_2, p0_3, p0_4, p0_ne⟩ := id hm
  have ne_o0 : mo ≠ ad 0 := gw_io p0_o p0_0
  have ne_o1 : mo ≠ ad 1 := gw_io p0_o p0_1
  have ne_o2 : mo ≠ ad 2 := gw_io p0_o p0_2
  have ne_o3 : mo ≠ ad 3 := gw_io p0_o p0_3
  have ne_o4 : mo ≠ ad 4 := gw_io p0_o p0_4
  refine lv_aload_n hx hb dX3_contains_0 rfl (lv_at hl 0 rfl) ?_
  refine lv_aload_n hx hb dX3_contains_1 rfl (lv_at hl 0 rfl) ?_
  refine lv_iload_n hx hb dX3_contains_2 rfl (lv_at hl 1 rfl) ?_
  refine lv_iload_n hx hb dX3_contains_3 rfl (lv_at hl 2 rfl) ?_
  refine lv_iload_n hx hb dX3_contains_4 rfl (lv_at hl 3 rfl) ?_
  refine gw_calli (va_runV (As := [.int r9, .int s9, .int e9]) (rest := [.ref mo]) ⟨hx, hb, hml, hown, hts⟩ (c_isEl l K M mo ad _ _ _ _ _ _ _ _ r9 s9 e9 hm) (cwV 3 hts gX3_contains_X3_isElement rfl rfl rfl (by decide +kernel) ⟨Nat.le_of_ble_eq_true rfl, Nat.le_of_ble_eq_true rfl⟩) (gw_preV hG hT p0_o rfl) rfl rfl hl.1 rfl (lv_room (Nat.le_of_ble_eq_true rfl)) dX3_contains_5 ⟨Nat.le_of_ble_eq_true rfl, Nat.le_of_ble_eq_true rfl⟩) hG (fun r_31 M_32 H locs hw hG => ?_)
  rw [hw.1] at hG
  refine gw_as (tst_n hw.2 hP) ?_
  refine lv_if_eq hx hb (tgt := 15) dX3_contains_8 (by decide) (fun hc => ?_) (fun hc => absurd (by decide) hc)
  refine lv_iconst (v := nI 1) hx hb dX3_contains_15 (by decide) ?_
  refine gw_calli (va_runV (As := [.int (nI 1)]) (rest := []) ⟨hx, hb, hml, hown, hts⟩ (c_refp l K M mo ad _ _ _ _ _ _ _ _ 1 hm (by decide)) (cwV 1 hts gX3_contains_X3_refuses rfl rfl rfl (by decide +kernel) ⟨Nat.le_of_ble_eq_true rfl, Nat.le_of_ble_eq_true rfl⟩) (gw_preV hG hT p0_o rfl) rfl rfl hl.1 rfl (lv_room (Nat.le_of_ble_eq_true rfl)) dX3_contains_16 ⟨Nat.le_of_ble_eq_true rfl, Nat.le_of_ble_eq_true rfl⟩) hG (fun r_33 M_34 H locs hw hG => ?_)
  rw [hw.1]
  obtain ⟨hm_35, fr_36⟩ := hw.2
  have fr_37 : mfr M M_34 mo ad := mfr.tr mfr.rf fr_36
  obtain ⟨p_38_b, p_38_o, p_38_0, p_38_1, p_38_2, p_38_3, p_38_4, p_38_ne⟩ := id hm_35
  refine lv_if_ne hx hb (tgt := 40) dX3_contains_19 (by decide) (fun hc => ?_) (fun hc => absurd hc (by decide))
  refine lv_iconst (v := nI 0) hx hb dX3_contains_40 (by decide) ?_
  exact gw_zret hx hb hr hlocks hG hT (by omega) (by omega) dX3_contains_41 (by decide) ⟨⟨p0_b, p_38_o, p_38_0, p_38_1, p_38_2, p_38_3, p_38_4, p0_ne⟩, fr_37⟩

set_option maxHeartbeats 4000000 in
set_option maxRecDepth 100000 in
/-- m_clear_no -/
theorem m_clear_no (l : Launch) (K : gw_C) (M : gw_M) (mo : Nat) (ad : Nat → Nat) (cd : Int32) (nn kk : Nat) (tb vb : Nat → Int32) (sb : Nat → Int64) (fm tq : Nat → Int32) (r9 s9 : Int32)  (hm : md K M mo ad cd nn kk tb vb sb fm tq) (hP : ¬ (inN r9 nn ∧ inN s9 4)) : Met l yX3_clear wsX3_clear ({ frames := 6, cells := 0, slots := 0, locals := 160 } : Room) (va_Pc [.ref mo, .int r9, .int s9] (gw_I K M)) (va_Qi (fun r M1 => md K M1 mo ad (nI 1) nn kk tb vb sb fm tq ∧ mfr M M1 mo ad) (gw_I K) (gw_A K)) 0 0 (gw_A K) := by
  refine Met.ofW (cc := cX3_clear) (maxL := 5) (ret := (some .int)) (by decide) rfl ?_
  intro p e s m args below meth c s₁ B hml hv
  obtain ⟨hav, hI⟩ := hv
  have hx := B.exec
  have hb := B.bytes
  have hr := B.returns
  have hts := atoms_spec (ws := wsX3_clear) B.pre
  have hown : s.vm.findClass RX3 = some m.cls := findClass_of_methodNamed B.named
  have hlocks : meth.locks = false := B.notSynchronized
  have hT := hI.2.2
  have hK := hT.K
  have hG := hI.B
  have hf7 := hts (.fieldLink RX3 7 "DotGossipModel" "replicas" "I") (by decide +kernel)
  have hf14 := hts (.fieldLink RX3 14 "DotGossipModel" "table" "[I") (by decide +kernel)
  have hf31 := hts (.fieldLink RX3 31 "DotGossipModel" "code" "I") (by decide +kernel)
  have hinX3 : ∀ w ∈ wsX30, w ∈ wsX3_clear := by decide +kernel
  have hE : entryFrame m args 5 = entryFrame m ([.ref mo, .int r9, .int s9] : List Value).toArray 5 := by rw [hav]
  rw [hE]
  have hl := lv_entry ([.ref mo, .int r9, .int s9]) (n := 5) (Nat.le_of_ble_eq_true rfl)
  rw [lg_entry_eq]
  generalize (lg_sl ([.ref mo, .int r9, .int s9]) ++ List.replicate (5 - (lg_sl ([.ref mo, .int r9, .int s9])).length) Slot.unset).toArray = ls at hl ⊢
  have hl : lv_has ls 5 [(0, .ref mo), (1, .int r9), (2, .int s9)] := hl
  obtain ⟨p0_b, p0_o, p0_0, p0_1, p0_2, p0_3, p0_4, p0_ne⟩ := id hm
  have ne_o0 : mo ≠ ad 0 := gw_io p0_o p0_0
  have ne_o1 : mo ≠ ad 1 := gw_io p0_o p0_1
  have ne_o2 : mo ≠ ad 2 := gw_io p0_o p0_2
  have ne_o3 : mo ≠ ad 3 := gw_io p0_o p0_3
  have ne_o4 : mo ≠ ad 4 := gw_io p0_o p0_4
  refine lv_aload_n hx hb dX3_clear_0 rfl (lv_at hl 0 rfl) ?_
  refine lv_aload_n hx hb dX3_clear_1 rfl (lv_at hl 0 rfl) ?_
  refine lv_iload_n hx hb dX3_clear_2 rfl (lv_at hl 1 rfl) ?_
  refine lv_iload_n hx hb dX3_clear_3 rfl (lv_at hl 2 rfl) ?_
  refine lv_iconst (v := nI 0) hx hb dX3_clear_4 (by decide) ?_
  refine gw_calli (va_runV (As := [.int r9, .int s9, .int (nI 0)]) (rest := [.ref mo]) ⟨hx, hb, hml, hown, hts⟩ (c_isEl l K M mo ad _ _ _ _ _ _ _ _ r9 s9 (nI 0) hm) (cwV 3 hts gX3_clear_X3_isElement rfl rfl rfl (by decide +kernel) ⟨Nat.le_of_ble_eq_true rfl, Nat.le_of_ble_eq_true rfl⟩) (gw_preV hG hT p0_o rfl) rfl rfl hl.1 rfl (lv_room (Nat.le_of_ble_eq_true rfl)) dX3_clear_5 ⟨Nat.le_of_ble_eq_true rfl, Nat.le_of_ble_eq_true rfl⟩) hG (fun r_39 M_40 H locs hw hG => ?_)
  rw [hw.1] at hG
  refine gw_as (tst_n hw.2 (fun q => hP ⟨q.1, q.2.1⟩)) ?_
  refine lv_if_eq hx hb (tgt := 15) dX3_clear_8 (by decide) (fun hc => ?_) (fun hc => absurd (by decide) hc)
  refine lv_iconst (v := nI 1) hx hb dX3_clear_15 (by decide) ?_
  refine gw_calli (va_runV (As := [.int (nI 1)]) (rest := []) ⟨hx, hb, hml, hown, hts⟩ (c_refp l K M mo ad _ _ _ _ _ _ _ _ 1 hm (by decide)) (cwV 1 hts gX3_clear_X3_refuses rfl rfl rfl (by decide +kernel) ⟨Nat.le_of_ble_eq_true rfl, Nat.le_of_ble_eq_true rfl⟩) (gw_preV hG hT p0_o rfl) rfl rfl hl.1 rfl (lv_room (Nat.le_of_ble_eq_true rfl)) dX3_clear_16 ⟨Nat.le_of_ble_eq_true rfl, Nat.le_of_ble_eq_true rfl⟩) hG (fun r_41 M_42 H locs hw hG => ?_)
  rw [hw.1]
  obtain ⟨hm_43, fr_44⟩ := hw.2
  have fr_45 : mfr M M_42 mo ad := mfr.tr mfr.rf fr_44
  obtain ⟨p_46_b, p_46_o, p_46_0, p_46_1, p_46_2, p_46_3, p_46_4, p_46_ne⟩ := id hm_43
  refine lv_if_eq hx hb (tgt := 24) dX3_clear_19 (by decide) (fun hc => absurd hc (by decide)) (fun hc => ?_)
  refine lv_iconst (v := nI 0) hx hb dX3_clear_22 (by decide) ?_
  exact gw_iret hx hb hr hlocks hG hT (by omega) (by omega) dX3_clear_23 ⟨⟨p0_b, p_46_o, p_46_0, p_46_1, p_46_2, p_46_3, p_46_4, p0_ne⟩, fr_45⟩

set_option maxHeartbeats 4000000 in
set_option maxRecDepth 100000 in
/-- m_size_no -/
theorem m_size_no (l : Launch) (K : gw_C) (M : gw_M) (mo : Nat) (ad : Nat → Nat) (cd : Int32) (nn kk : Nat) (tb vb : Nat → Int32) (sb : Nat → Int64) (fm tq : Nat → Int32) (r9 s9 : Int32)  (hm : md K M mo ad cd nn kk tb vb sb fm tq) (hP : ¬ (inN r9 nn ∧ inN s9 4)) : Met l yX3_size wsX3_size ({ frames := 6, cells := 0, slots := 0, locals := 160 } : Room) (va_Pc [.ref mo, .int r9, .int s9] (gw_I K M)) (va_Qi (fun r M1 => md K M1 mo ad (nI 1) nn kk tb vb sb fm tq ∧ mfr M M1 mo ad) (gw_I K) (gw_A K)) 0 0 (gw_A K) := by
  refine Met.ofW (cc := cX3_size) (maxL := 5) (ret := (some .int)) (by decide) rfl ?_
  intro p e s m args below meth c s₁ B hml hv
  obtain ⟨hav, hI⟩ := hv
  have hx := B.exec
  have hb := B.bytes
  have hr := B.returns
  have hts := atoms_spec (ws := wsX3_size) B.pre
  have hown : s.vm.findClass RX3 = some m.cls := findClass_of_methodNamed B.named
  have hlocks : meth.locks = false := B.notSynchronized
  have hT := hI.2.2
  have hK := hT.K
  have hG := hI.B
  have hf7 := hts (.fieldLink RX3 7 "DotGossipModel" "replicas" "I") (by decide +kernel)
  have hf14 := hts (.fieldLink RX3 14 "DotGossipModel" "table" "[I") (by decide +kernel)
  have hf31 := hts (.fieldLink RX3 31 "DotGossipModel" "code" "I") (by decide +kernel)
  have hinX3 : ∀ w ∈ wsX30, w ∈ wsX3_size := by decide +kernel
  have hE : entryFrame m args 5 = entryFrame m ([.ref mo, .int r9, .int s9] : List Value).toArray 5 := by rw [hav]
  rw [hE]
  have hl := lv_entry ([.ref mo, .int r9, .int s9]) (n := 5) (Nat.le_of_ble_eq_true rfl)
  rw [lg_entry_eq]
  generalize (lg_sl ([.ref mo, .int r9, .int s9]) ++ List.replicate (5 - (lg_sl ([.ref mo, .int r9, .int s9])).length) Slot.unset).toArray = ls at hl ⊢
  have hl : lv_has ls 5 [(0, .ref mo), (1, .int r9), (2, .int s9)] := hl
  obtain ⟨p0_b, p0_o, p0_0, p0_1, p0_2, p0_3, p0_4, p0_ne⟩ := id hm
  have ne_o0 : mo ≠ ad 0 := gw_io p0_o p0_0
  have ne_o1 : mo ≠ ad 1 := gw_io p0_o p0_1
  have ne_o2 : mo ≠ ad 2 := gw_io p0_o p0_2
  have ne_o3 : mo ≠ ad 3 := gw_io p0_o p0_3
  have ne_o4 : mo ≠ ad 4 := gw_io p0_o p0_4
  refine lv_aload_n hx hb dX3_size_0 rfl (lv_at hl 0 rfl) ?_
  refine lv_aload_n hx hb dX3_size_1 rfl (lv_at hl 0 rfl) ?_
  refine lv_iload_n hx hb dX3_size_2 rfl (lv_at hl 1 rfl) ?_
  refine lv_iload_n hx hb dX3_size_3 rfl (lv_at hl 2 rfl) ?_
  refine lv_iconst (v := nI 0) hx hb dX3_size_4 (by decide) ?_
  refine gw_calli (va_runV (As := [.int r9, .int s9, .int (nI 0)]) (rest := [.ref mo]) ⟨hx, hb, hml, hown, hts⟩ (c_isEl l K M mo ad _ _ _ _ _ _ _ _ r9 s9 (nI 0) hm) (cwV 3 hts gX3_size_X3_isElement rfl rfl rfl (by decide +kernel) ⟨Nat.le_of_ble_eq_true rfl, Nat.le_of_ble_eq_true rfl⟩) (gw_preV hG hT p0_o rfl) rfl rfl hl.1 rfl (lv_room (Nat.le_of_ble_eq_true rfl)) dX3_size_5 ⟨Nat.le_of_ble_eq_true rfl, Nat.le_of_ble_eq_true rfl⟩) hG (fun r_47 M_48 H locs hw hG => ?_)
  rw [hw.1] at hG
  refine gw_as (tst_n hw.2 (fun q => hP ⟨q.1, q.2.1⟩)) ?_
  refine lv_if_eq hx hb (tgt := 15) dX3_size_8 (by decide) (fun hc => ?_) (fun hc => absurd (by decide) hc)
  refine lv_iconst (v := nI 1) hx hb dX3_size_15 (by decide) ?_
  refine gw_calli (va_runV (As := [.int (nI 1)]) (rest := []) ⟨hx, hb, hml, hown, hts⟩ (c_refp l K M mo ad _ _ _ _ _ _ _ _ 1 hm (by decide)) (cwV 1 hts gX3_size_X3_refuses rfl rfl rfl (by decide +kernel) ⟨Nat.le_of_ble_eq_true rfl, Nat.le_of_ble_eq_true rfl⟩) (gw_preV hG hT p0_o rfl) rfl rfl hl.1 rfl (lv_room (Nat.le_of_ble_eq_true rfl)) dX3_size_16 ⟨Nat.le_of_ble_eq_true rfl, Nat.le_of_ble_eq_true rfl⟩) hG (fun r_49 M_50 H locs hw hG => ?_)
  rw [hw.1]
  obtain ⟨hm_51, fr_52⟩ := hw.2
  have fr_53 : mfr M M_50 mo ad := mfr.tr mfr.rf fr_52
  obtain ⟨p_54_b, p_54_o, p_54_0, p_54_1, p_54_2, p_54_3, p_54_4, p_54_ne⟩ := id hm_51
  refine lv_if_eq hx hb (tgt := 24) dX3_size_19 (by decide) (fun hc => absurd hc (by decide)) (fun hc => ?_)
  refine lv_iconst (v := nI 0) hx hb dX3_size_22 (by decide) ?_
  exact gw_iret hx hb hr hlocks hG hT (by omega) (by omega) dX3_size_23 ⟨⟨p0_b, p_54_o, p_54_0, p_54_1, p_54_2, p_54_3, p_54_4, p0_ne⟩, fr_53⟩

set_option maxHeartbeats 4000000 in
set_option maxRecDepth 100000 in
/-- m_write_no -/
theorem m_write_no (l : Launch) (K : gw_C) (M : gw_M) (mo : Nat) (ad : Nat → Nat) (cd : Int32) (nn kk : Nat) (tb vb : Nat → Int32) (sb : Nat → Int64) (fm tq : Nat → Int32) (r9 s9 v9 : Int32)  (hm : md K M mo ad cd nn kk tb vb sb fm tq) (hP : ¬ (inN r9 nn ∧ inN s9 4)) : Met l yX3_write wsX3_write ({ frames := 6, cells := 0, slots := 0, locals := 160 } : Room) (va_Pc [.ref mo, .int r9, .int s9, .int v9] (gw_I K M)) (va_Qi (fun r M1 => md K M1 mo ad (nI 1) nn kk tb vb sb fm tq ∧ mfr M M1 mo ad) (gw_I K) (gw_A K)) 0 0 (gw_A K) := by
  refine Met.ofW (cc := cX3_write) (maxL := 5) (ret := (some .int)) (by decide) rfl ?_
  intro p e s m args below meth c s₁ B hml hv
  obtain ⟨hav, hI⟩ := hv
  have hx := B.exec
  have hb := B.bytes
  have hr := B.returns
  have hts := atoms_spec (ws := wsX3_write) B.pre
  have hown : s.vm.findClass RX3 = some m.cls := findClass_of_methodNamed B.named
  have hlocks : meth.locks = false := B.notSynchronized
  have hT := hI.2.2
  have hK := hT.K
  have hG := hI.B
  have hf7 := hts (.fieldLink RX3 7 "DotGossipModel" "replicas" "I") (by decide +kernel)
  have hf14 := hts (.fieldLink RX3 14 "DotGossipModel" "table" "[I") (by decide +kernel)
  have hf18 := hts (.fieldLink RX3 18 "DotGossipModel" "values" "[I") (by decide +kernel)
  have hf31 := hts (.fieldLink RX3 31 "DotGossipModel" "code" "I") (by decide +kernel)
  have hinX3 : ∀ w ∈ wsX30, w ∈ wsX3_write := by decide +kernel
  have hE : entryFrame m args 5 = entryFrame m ([.ref mo, .int r9, .int s9, .int v9] : List Value).toArray 5 := by rw [hav]
  rw [hE]
  have hl := lv_entry ([.ref mo, .int r9, .int s9, .int v9]) (n := 5) (Nat.le_of_ble_eq_true rfl)
  rw [lg_entry_eq]
  generalize (lg_sl ([.ref mo, .int r9, .int s9, .int v9]) ++ List.replicate (5 - (lg_sl ([.ref mo, .int r9, .int s9, .int v9])).length) Slot.unset).toArray = ls at hl ⊢
  have hl : lv_has ls 5 [(0, .ref mo), (1, .int r9), (2, .int s9), (3, .int v9)] := hl
  obtain ⟨p0_b, p0_o, p0_0, p0_1, p0_2, p0_3, p0_4, p0_ne⟩ := id hm
  have ne_o0 : mo ≠ ad 0 := gw_io p0_o p0_0
  have ne_o1 : mo ≠ ad 1 := gw_io p0_o p0_1
  have ne_o2 : mo ≠ ad 2 := gw_io p0_o p0_2
  have ne_o3 : mo ≠ ad 3 := gw_io p0_o p0_3
  have ne_o4 : mo ≠ ad 4 := gw_io p0_o p0_4
  refine lv_aload_n hx hb dX3_write_0 rfl (lv_at hl 0 rfl) ?_
  refine lv_aload_n hx hb dX3_write_1 rfl (lv_at hl 0 rfl) ?_
  refine lv_iload_n hx hb dX3_write_2 rfl (lv_at hl 1 rfl) ?_
  refine lv_iload_n hx hb dX3_write_3 rfl (lv_at hl 2 rfl) ?_
  refine gw_calli (va_runV (As := [.int r9, .int s9]) (rest := [.ref mo]) ⟨hx, hb, hml, hown, hts⟩ (c_isReg l K M mo ad _ _ _ _ _ _ _ _ r9 s9 hm) (cwV 2 hts gX3_write_X3_isRegister rfl rfl rfl (by decide +kernel) ⟨Nat.le_of_ble_eq_true rfl, Nat.le_of_ble_eq_true rfl⟩) (gw_preV hG hT p0_o rfl) rfl rfl hl.1 rfl (lv_room (Nat.le_of_ble_eq_true rfl)) dX3_write_4 ⟨Nat.le_of_ble_eq_true rfl, Nat.le_of_ble_eq_true rfl⟩) hG (fun r_55 M_56 H locs hw hG => ?_)
  rw [hw.1] at hG
  refine gw_as (tst_n hw.2 hP) ?_
  refine lv_if_eq hx hb (tgt := 14) dX3_write_7 (by decide) (fun hc => ?_) (fun hc => absurd (by decide) hc)
  refine lv_iconst (v := nI 1) hx hb dX3_write_14 (by decide) ?_
  refine gw_calli (va_runV (As := [.int (nI 1)]) (rest := []) ⟨hx, hb, hml, hown, hts⟩ (c_refp l K M mo ad _ _ _ _ _ _ _ _ 1 hm (by decide)) (cwV 1 hts gX3_write_X3_refuses rfl rfl rfl (by decide +kernel) ⟨Nat.le_of_ble_eq_true rfl, Nat.le_of_ble_eq_true rfl⟩) (gw_preV hG hT p0_o rfl) rfl rfl hl.1 rfl (lv_room (Nat.le_of_ble_eq_true rfl)) dX3_write_15 ⟨Nat.le_of_ble_eq_true rfl, Nat.le_of_ble_eq_true rfl⟩) hG (fun r_57 M_58 H locs hw hG => ?_)
  rw [hw.1]
  obtain ⟨hm_59, fr_60⟩ := hw.2
  have fr_61 : mfr M M_58 mo ad := mfr.tr mfr.rf fr_60
  obtain ⟨p_62_b, p_62_o, p_62_0, p_62_1, p_62_2, p_62_3, p_62_4, p_62_ne⟩ := id hm_59
  refine lv_if_eq hx hb (tgt := 23) dX3_write_18 (by decide) (fun hc => absurd hc (by decide)) (fun hc => ?_)
  refine lv_iconst (v := nI 0) hx hb dX3_write_21 (by decide) ?_
  exact gw_iret hx hb hr hlocks hG hT (by omega) (by omega) dX3_write_22 ⟨⟨p0_b, p_62_o, p_62_0, p_62_1, p_62_2, p_62_3, p_62_4, p0_ne⟩, fr_61⟩

set_option maxHeartbeats 4000000 in
set_option maxRecDepth 100000 in
/-- m_count_no -/
theorem m_count_no (l : Launch) (K : gw_C) (M : gw_M) (mo : Nat) (ad : Nat → Nat) (cd : Int32) (nn kk : Nat) (tb vb : Nat → Int32) (sb : Nat → Int64) (fm tq : Nat → Int32) (r9 s9 v9 : Int32)  (hm : md K M mo ad cd nn kk tb vb sb fm tq) (hP : ¬ (inN r9 nn ∧ inN s9 4)) : Met l yX3_count wsX3_count ({ frames := 6, cells := 0, slots := 0, locals := 160 } : Room) (va_Pc [.ref mo, .int r9, .int s9, .int v9] (gw_I K M)) (va_Qi (fun r M1 => md K M1 mo ad (nI 1) nn kk tb vb sb fm tq ∧ mfr M M1 mo ad) (gw_I K) (gw_A K)) 0 0 (gw_A K) := by
  refine Met.ofW (cc := cX3_count) (maxL := 5) (ret := (some .int)) (by decide) rfl ?_
  intro p e s m args below meth c s₁ B hml hv
  obtain ⟨hav, hI⟩ := hv
  have hx := B.exec
  have hb := B.bytes
  have hr := B.returns
  have hts := atoms_spec (ws := wsX3_count) B.pre
  have hown : s.vm.findClass RX3 = some m.cls := findClass_of_methodNamed B.named
  have hlocks : meth.locks = false := B.notSynchronized
  have hT := hI.2.2
  have hK := hT.K
  have hG := hI.B
  have hf7 := hts (.fieldLink RX3 7 "DotGossipModel" "replicas" "I") (by decide +kernel)
  have hf21 := hts (.fieldLink RX3 21 "DotGossipModel" "sums" "[J") (by decide +kernel)
  have hf31 := hts (.fieldLink RX3 31 "DotGossipModel" "code" "I") (by decide +kernel)
  have hinX3 : ∀ w ∈ wsX30, w ∈ wsX3_count := by decide +kernel
  have hE : entryFrame m args 5 = entryFrame m ([.ref mo, .int r9, .int s9, .int v9] : List Value).toArray 5 := by rw [hav]
  rw [hE]
  have hl := lv_entry ([.ref mo, .int r9, .int s9, .int v9]) (n := 5) (Nat.le_of_ble_eq_true rfl)
  rw [lg_entry_eq]
  generalize (lg_sl ([.ref mo, .int r9, .int s9, .int v9]) ++ List.replicate (5 - (lg_sl ([.ref mo, .int r9, .int s9, .int v9])).length) Slot.unset).toArray = ls at hl ⊢
  have hl : lv_has ls 5 [(0, .ref mo), (1, .int r9), (2, .int s9), (3, .int v9)] := hl
  obtain ⟨p0_b, p0_o, p0_0, p0_1, p0_2, p0_3, p0_4, p0_ne⟩ := id hm
  have ne_o0 : mo ≠ ad 0 := gw_io p0_o p0_0
  have ne_o1 : mo ≠ ad 1 := gw_io p0_o p0_1
  have ne_o2 : mo ≠ ad 2 := gw_io p0_o p0_2
  have ne_o3 : mo ≠ ad 3 := gw_io p0_o p0_3
  have ne_o4 : mo ≠ ad 4 := gw_io p0_o p0_4
  refine lv_aload_n hx hb dX3_count_0 rfl (lv_at hl 0 rfl) ?_
  refine lv_aload_n hx hb dX3_count_1 rfl (lv_at hl 0 rfl) ?_
  refine lv_iload_n hx hb dX3_count_2 rfl (lv_at hl 1 rfl) ?_
  refine lv_iload_n hx hb dX3_count_3 rfl (lv_at hl 2 rfl) ?_
  refine gw_calli (va_runV (As := [.int r9, .int s9]) (rest := [.ref mo]) ⟨hx, hb, hml, hown, hts⟩ (c_isReg l K M mo ad _ _ _ _ _ _ _ _ r9 s9 hm) (cwV 2 hts gX3_count_X3_isRegister rfl rfl rfl (by decide +kernel) ⟨Nat.le_of_ble_eq_true rfl, Nat.le_of_ble_eq_true rfl⟩) (gw_preV hG hT p0_o rfl) rfl rfl hl.1 rfl (lv_room (Nat.le_of_ble_eq_true rfl)) dX3_count_4 ⟨Nat.le_of_ble_eq_true rfl, Nat.le_of_ble_eq_true rfl⟩) hG (fun r_63 M_64 H locs hw hG => ?_)
  rw [hw.1] at hG
  refine gw_as (tst_n hw.2 hP) ?_
  refine lv_if_eq hx hb (tgt := 14) dX3_count_7 (by decide) (fun hc => ?_) (fun hc => absurd (by decide) hc)
  refine lv_iconst (v := nI 1) hx hb dX3_count_14 (by decide) ?_
  refine gw_calli (va_runV (As := [.int (nI 1)]) (rest := []) ⟨hx, hb, hml, hown, hts⟩ (c_refp l K M mo ad _ _ _ _ _ _ _ _ 1 hm (by decide)) (cwV 1 hts gX3_count_X3_refuses rfl rfl rfl (by decide +kernel) ⟨Nat.le_of_ble_eq_true rfl, Nat.le_of_ble_eq_true rfl⟩) (gw_preV hG hT p0_o rfl) rfl rfl hl.1 rfl (lv_room (Nat.le_of_ble_eq_true rfl)) dX3_count_15 ⟨Nat.le_of_ble_eq_true rfl, Nat.le_of_ble_eq_true rfl⟩) hG (fun r_65 M_66 H locs hw hG => ?_)
  rw [hw.1]
  obtain ⟨hm_67, fr_68⟩ := hw.2
  have fr_69 : mfr M M_66 mo ad := mfr.tr mfr.rf fr_68
  obtain ⟨p_70_b, p_70_o, p_70_0, p_70_1, p_70_2, p_70_3, p_70_4, p_70_ne⟩ := id hm_67
  refine lv_if_eq hx hb (tgt := 23) dX3_count_18 (by decide) (fun hc => absurd hc (by decide)) (fun hc => ?_)
  refine lv_iconst (v := nI 0) hx hb dX3_count_21 (by decide) ?_
  exact gw_iret hx hb hr hlocks hG hT (by omega) (by omega) dX3_count_22 ⟨⟨p0_b, p_70_o, p_70_0, p_70_1, p_70_2, p_70_3, p_70_4, p0_ne⟩, fr_69⟩

set_option maxHeartbeats 4000000 in
set_option maxRecDepth 100000 in
/-- m_values_no -/
theorem m_values_no (l : Launch) (K : gw_C) (M : gw_M) (mo : Nat) (ad : Nat → Nat) (cd : Int32) (nn kk : Nat) (tb vb : Nat → Int32) (sb : Nat → Int64) (fm tq : Nat → Int32) (r9 s9 : Int32)  (hm : md K M mo ad cd nn kk tb vb sb fm tq) (hP : ¬ (inN r9 nn ∧ inN s9 4)) : Met l yX3_values wsX3_values ({ frames := 6, cells := 0, slots := 0, locals := 160 } : Room) (va_Pc [.ref mo, .int r9, .int s9] (gw_I K M)) (va_Qi (fun r M1 => md K M1 mo ad (nI 1) nn kk tb vb sb fm tq ∧ mfr M M1 mo ad) (gw_I K) (gw_A K)) 0 0 (gw_A K) := by
  refine Met.ofW (cc := cX3_values) (maxL := 3) (ret := (some .int)) (by decide) rfl ?_
  intro p e s m args below meth c s₁ B hml hv
  obtain ⟨hav, hI⟩ := hv
  have hx := B.exec
  have hb := B.bytes
  have hr := B.returns
  have hts := atoms_spec (ws := wsX3_values) B.pre
  have hown : s.vm.findClass RX3 = some m.cls := findClass_of_methodNamed B.named
  have hlocks : meth.locks = false := B.notSynchronized
  have hT := hI.2.2
  have hK := hT.K
  have hG := hI.B
  have hf7 := hts (.fieldLink RX3 7 "DotGossipModel" "replicas" "I") (by decide +kernel)
  have hf14 := hts (.fieldLink RX3 14 "DotGossipModel" "table" "[I") (by decide +kernel)
  have hf31 := hts (.fieldLink RX3 31 "DotGossipModel" "code" "I") (by decide +kernel)
  have hinX3 : ∀ w ∈ wsX30, w ∈ wsX3_values := by decide +kernel
  have hE : entryFrame m args 3 = entryFrame m ([.ref mo, .int r9, .int s9] : List Value).toArray 3 := by rw [hav]
  rw [hE]
  have hl := lv_entry ([.ref mo, .int r9, .int s9]) (n := 3) (Nat.le_of_ble_eq_true rfl)
  rw [lg_entry_eq]
  generalize (lg_sl ([.ref mo, .int r9, .int s9]) ++ List.replicate (3 - (lg_sl ([.ref mo, .int r9, .int s9])).length) Slot.unset).toArray = ls at hl ⊢
  have hl : lv_has ls 3 [(0, .ref mo), (1, .int r9), (2, .int s9)] := hl
  obtain ⟨p0_b, p0_o, p0_0, p0_1, p0_2, p0_3, p0_4, p0_ne⟩ := id hm
  have ne_o0 : mo ≠ ad 0 := gw_io p0_o p0_0
  have ne_o1 : mo ≠ ad 1 := gw_io p0_o p0_1
  have ne_o2 : mo ≠ ad 2 := gw_io p0_o p0_2
  have ne_o3 : mo ≠ ad 3 := gw_io p0_o p0_3
  have ne_o4 : mo ≠ ad 4 := gw_io p0_o p0_4
  refine lv_aload_n hx hb dX3_values_0 rfl (lv_at hl 0 rfl) ?_
  refine lv_aload_n hx hb dX3_values_1 rfl (lv_at hl 0 rfl) ?_
  refine lv_iload_n hx hb dX3_values_2 rfl (lv_at hl 1 rfl) ?_
  refine lv_iload_n hx hb dX3_values_3 rfl (lv_at hl 2 rfl) ?_
  refine gw_calli (va_runV (As := [.int r9, .int s9]) (rest := [.ref mo]) ⟨hx, hb, hml, hown, hts⟩ (c_isReg l K M mo ad _ _ _ _ _ _ _ _ r9 s9 hm) (cwV 2 hts gX3_values_X3_isRegister rfl rfl rfl (by decide +kernel) ⟨Nat.le_of_ble_eq_true rfl, Nat.le_of_ble_eq_true rfl⟩) (gw_preV hG hT p0_o rfl) rfl rfl hl.1 rfl (lv_room (Nat.le_of_ble_eq_true rfl)) dX3_values_4 ⟨Nat.le_of_ble_eq_true rfl, Nat.le_of_ble_eq_true rfl⟩) hG (fun r_71 M_72 H locs hw hG => ?_)
  rw [hw.1] at hG
  refine gw_as (tst_n hw.2 hP) ?_
  refine lv_if_eq hx hb (tgt := 14) dX3_values_7 (by decide) (fun hc => ?_) (fun hc => absurd (by decide) hc)
  refine lv_iconst (v := nI 1) hx hb dX3_values_14 (by decide) ?_
  refine gw_calli (va_runV (As := [.int (nI 1)]) (rest := []) ⟨hx, hb, hml, hown, hts⟩ (c_refp l K M mo ad _ _ _ _ _ _ _ _ 1 hm (by decide)) (cwV 1 hts gX3_values_X3_refuses rfl rfl rfl (by decide +kernel) ⟨Nat.le_of_ble_eq_true rfl, Nat.le_of_ble_eq_true rfl⟩) (gw_preV hG hT p0_o rfl) rfl rfl hl.1 rfl (lv_room (Nat.le_of_ble_eq_true rfl)) dX3_values_15 ⟨Nat.le_of_ble_eq_true rfl, Nat.le_of_ble_eq_true rfl⟩) hG (fun r_73 M_74 H locs hw hG => ?_)
  rw [hw.1]
  obtain ⟨hm_75, fr_76⟩ := hw.2
  have fr_77 : mfr M M_74 mo ad := mfr.tr mfr.rf fr_76
  obtain ⟨p_78_b, p_78_o, p_78_0, p_78_1, p_78_2, p_78_3, p_78_4, p_78_ne⟩ := id hm_75
  refine lv_if_eq hx hb (tgt := 25) dX3_values_18 (by decide) (fun hc => absurd hc (by decide)) (fun hc => ?_)
  refine lv_iconst (v := nI 0) hx hb dX3_values_21 (by decide) ?_
  refine lv_goto (tgt := 34) hx hb dX3_values_22 (by decide) ?_
  exact gw_iret hx hb hr hlocks hG hT (by omega) (by omega) dX3_values_34 ⟨⟨p0_b, p_78_o, p_78_0, p_78_1, p_78_2, p_78_3, p_78_4, p0_ne⟩, fr_77⟩

set_option maxHeartbeats 4000000 in
set_option maxRecDepth 100000 in
/-- m_total_no -/
theorem m_total_no (l : Launch) (K : gw_C) (M : gw_M) (mo : Nat) (ad : Nat → Nat) (cd : Int32) (nn kk : Nat) (tb vb : Nat → Int32) (sb : Nat → Int64) (fm tq : Nat → Int32) (r9 s9 : Int32)  (hm : md K M mo ad cd nn kk tb vb sb fm tq) (hP : ¬ (inN r9 nn ∧ inN s9 4)) : Met l yX3_total wsX3_total ({ frames := 6, cells := 0, slots := 0, locals := 160 } : Room) (va_Pc [.ref mo, .int r9, .int s9] (gw_I K M)) (va_Qi (fun r M1 => md K M1 mo ad (nI 1) nn kk tb vb sb fm tq ∧ mfr M M1 mo ad) (gw_I K) (gw_A K)) 0 0 (gw_A K) := by
  refine Met.ofW (cc := cX3_total) (maxL := 3) (ret := (some .int)) (by decide) rfl ?_
  intro p e s m args below meth c s₁ B hml hv
  obtain ⟨hav, hI⟩ := hv
  have hx := B.exec
  have hb := B.bytes
  have hr := B.returns
  have hts := atoms_spec (ws := wsX3_total) B.pre
  have hown : s.vm.findClass RX3 = some m.cls := findClass_of_methodNamed B.named
  have hlocks : meth.locks = false := B.notSynchronized
  have hT := hI.2.2
  have hK := hT.K
  have hG := hI.B
  have hf7 := hts (.fieldLink RX3 7 "DotGossipModel" "replicas" "I") (by decide +kernel)
  have hf21 := hts (.fieldLink RX3 21 "DotGossipModel" "sums" "[J") (by decide +kernel)
  have hf31 := hts (.fieldLink RX3 31 "DotGossipModel" "code" "I") (by decide +kernel)
  have hinX3 : ∀ w ∈ wsX30, w ∈ wsX3_total := by decide +kernel
  have hE : entryFrame m args 3 = entryFrame m ([.ref mo, .int r9, .int s9] : List Value).toArray 3 := by rw [hav]
  rw [hE]
  have hl := lv_entry ([.ref mo, .int r9, .int s9]) (n := 3) (Nat.le_of_ble_eq_true rfl)
  rw [lg_entry_eq]
  generalize (lg_sl ([.ref mo, .int r9, .int s9]) ++ List.replicate (3 - (lg_sl ([.ref mo, .int r9, .int s9])).length) Slot.unset).toArray = ls at hl ⊢
  have hl : lv_has ls 3 [(0, .ref mo), (1, .int r9), (2, .int s9)] := hl
  obtain ⟨p0_b, p0_o, p0_0, p0_1, p0_2, p0_3, p0_4, p0_ne⟩ := id hm
  have ne_o0 : mo ≠ ad 0 := gw_io p0_o p0_0
  have ne_o1 : mo ≠ ad 1 := gw_io p0_o p0_1
  have ne_o2 : mo ≠ ad 2 := gw_io p0_o p0_2
  have ne_o3 : mo ≠ ad 3 := gw_io p0_o p0_3
  have ne_o4 : mo ≠ ad 4 := gw_io p0_o p0_4
  refine lv_aload_n hx hb dX3_total_0 rfl (lv_at hl 0 rfl) ?_
  refine lv_aload_n hx hb dX3_total_1 rfl (lv_at hl 0 rfl) ?_
  refine lv_iload_n hx hb dX3_total_2 rfl (lv_at hl 1 rfl) ?_
  refine lv_iload_n hx hb dX3_total_3 rfl (lv_at hl 2 rfl) ?_
  refine gw_calli (va_runV (As := [.int r9, .int s9]) (rest := [.ref mo]) ⟨hx, hb, hml, hown, hts⟩ (c_isReg l K M mo ad _ _ _ _ _ _ _ _ r9 s9 hm) (cwV 2 hts gX3_total_X3_isRegister rfl rfl rfl (by decide +kernel) ⟨Nat.le_of_ble_eq_true rfl, Nat.le_of_ble_eq_true rfl⟩) (gw_preV hG hT p0_o rfl) rfl rfl hl.1 rfl (lv_room (Nat.le_of_ble_eq_true rfl)) dX3_total_4 ⟨Nat.le_of_ble_eq_true rfl, Nat.le_of_ble_eq_true rfl⟩) hG (fun r_79 M_80 H locs hw hG => ?_)
  rw [hw.1] at hG
  refine gw_as (tst_n hw.2 hP) ?_
  refine lv_if_eq hx hb (tgt := 14) dX3_total_7 (by decide) (fun hc => ?_) (fun hc => absurd (by decide) hc)
  refine lv_iconst (v := nI 1) hx hb dX3_total_14 (by decide) ?_
  refine gw_calli (va_runV (As := [.int (nI 1)]) (rest := []) ⟨hx, hb, hml, hown, hts⟩ (c_refp l K M mo ad _ _ _ _ _ _ _ _ 1 hm (by decide)) (cwV 1 hts gX3_total_X3_refuses rfl rfl rfl (by decide +kernel) ⟨Nat.le_of_ble_eq_true rfl, Nat.le_of_ble_eq_true rfl⟩) (gw_preV hG hT p0_o rfl) rfl rfl hl.1 rfl (lv_room (Nat.le_of_ble_eq_true rfl)) dX3_total_15 ⟨Nat.le_of_ble_eq_true rfl, Nat.le_of_ble_eq_true rfl⟩) hG (fun r_81 M_82 H locs hw hG => ?_)
  rw [hw.1]
  obtain ⟨hm_83, fr_84⟩ := hw.2
  have fr_85 : mfr M M_82 mo ad := mfr.tr mfr.rf fr_84
  obtain ⟨p_86_b, p_86_o, p_86_0, p_86_1, p_86_2, p_86_3, p_86_4, p_86_ne⟩ := id hm_83
  refine lv_if_eq hx hb (tgt := 25) dX3_total_18 (by decide) (fun hc => absurd hc (by decide)) (fun hc => ?_)
  refine lv_iconst (v := nI 0) hx hb dX3_total_21 (by decide) ?_
  refine lv_goto (tgt := 31) hx hb dX3_total_22 (by decide) ?_
  exact gw_iret hx hb hr hlocks hG hT (by omega) (by omega) dX3_total_31 ⟨⟨p0_b, p_86_o, p_86_0, p_86_1, p_86_2, p_86_3, p_86_4, p0_ne⟩, fr_85⟩

set_option maxHeartbeats 4000000 in
set_option maxRecDepth 100000 in
/-- m_deliver_no -/
theorem m_deliver_no (l : Launch) (K : gw_C) (M : gw_M) (mo : Nat) (ad : Nat → Nat) (cd : Int32) (nn kk : Nat) (tb vb : Nat → Int32) (sb : Nat → Int64) (fm tq : Nat → Int32) (i9 : Int32)  (hm : md K M mo ad cd nn kk tb vb sb fm tq) (hP : ¬ inN i9 kk) : Met l yX3_deliver wsX3_deliver ({ frames := 6, cells := 0, slots := 0, locals := 160 } : Room) (va_Pc [.ref mo, .int i9] (gw_I K M)) (va_Qi (fun r M1 => md K M1 mo ad (nI 1) nn kk tb vb sb fm tq ∧ mfr M M1 mo ad) (gw_I K) (gw_A K)) 0 0 (gw_A K) := by
  refine Met.ofW (cc := cX3_deliver) (maxL := 3) (ret := (some .int)) (by decide) rfl ?_
  intro p e s m args below meth c s₁ B hml hv
  obtain ⟨hav, hI⟩ := hv
  have hx := B.exec
  have hb := B.bytes
  have hr := B.returns
  have hts := atoms_spec (ws := wsX3_deliver) B.pre
  have hown : s.vm.findClass RX3 = some m.cls := findClass_of_methodNamed B.named
  have hlocks : meth.locks = false := B.notSynchronized
  have hT := hI.2.2
  have hK := hT.K
  have hG := hI.B
  have hf14 := hts (.fieldLink RX3 14 "DotGossipModel" "table" "[I") (by decide +kernel)
  have hf18 := hts (.fieldLink RX3 18 "DotGossipModel" "values" "[I") (by decide +kernel)
  have hf21 := hts (.fieldLink RX3 21 "DotGossipModel" "sums" "[J") (by decide +kernel)
  have hf25 := hts (.fieldLink RX3 25 "DotGossipModel" "from" "[I") (by decide +kernel)
  have hf28 := hts (.fieldLink RX3 28 "DotGossipModel" "to" "[I") (by decide +kernel)
  have hf31 := hts (.fieldLink RX3 31 "DotGossipModel" "code" "I") (by decide +kernel)
  have hf41 := hts (.fieldLink RX3 41 "DotGossipModel" "messages" "I") (by decide +kernel)
  have hinX3 : ∀ w ∈ wsX30, w ∈ wsX3_deliver := by decide +kernel
  have hE : entryFrame m args 3 = entryFrame m ([.ref mo, .int i9] : List Value).toArray 3 := by rw [hav]
  rw [hE]
  have hl := lv_entry ([.ref mo, .int i9]) (n := 3) (Nat.le_of_ble_eq_true rfl)
  rw [lg_entry_eq]
  generalize (lg_sl ([.ref mo, .int i9]) ++ List.replicate (3 - (lg_sl ([.ref mo, .int i9])).length) Slot.unset).toArray = ls at hl ⊢
  have hl : lv_has ls 3 [(0, .ref mo), (1, .int i9)] := hl
  obtain ⟨p0_b, p0_o, p0_0, p0_1, p0_2, p0_3, p0_4, p0_ne⟩ := id hm
  have ne_o0 : mo ≠ ad 0 := gw_io p0_o p0_0
  have ne_o1 : mo ≠ ad 1 := gw_io p0_o p0_1
  have ne_o2 : mo ≠ ad 2 := gw_io p0_o p0_2
  have ne_o3 : mo ≠ ad 3 := gw_io p0_o p0_3
  have ne_o4 : mo ≠ ad 4 := gw_io p0_o p0_4
  refine lv_aload_n hx hb dX3_deliver_0 rfl (lv_at hl 0 rfl) ?_
  refine lv_aload_n hx hb dX3_deliver_1 rfl (lv_at hl 0 rfl) ?_
  refine lv_iload_n hx hb dX3_deliver_2 rfl (lv_at hl 1 rfl) ?_
  refine gw_calli (va_runV (As := [.int i9]) (rest := [.ref mo]) ⟨hx, hb, hml, hown, hts⟩ (c_isMsg l K M mo ad _ _ _ _ _ _ _ _ i9 hm) (cwV 1 hts gX3_deliver_X3_isMessage rfl rfl rfl (by decide +kernel) ⟨Nat.le_of_ble_eq_true rfl, Nat.le_of_ble_eq_true rfl⟩) (gw_preV hG hT p0_o rfl) rfl rfl hl.1 rfl (lv_room (Nat.le_of_ble_eq_true rfl)) dX3_deliver_3 ⟨Nat.le_of_ble_eq_true rfl, Nat.le_of_ble_eq_true rfl⟩) hG (fun r_87 M_88 H locs hw hG => ?_)
  rw [hw.1] at hG
  refine gw_as (tst_n hw.2 hP) ?_
  refine lv_if_eq hx hb (tgt := 13) dX3_deliver_6 (by decide) (fun hc => ?_) (fun hc => absurd (by decide) hc)
  refine lv_iconst (v := nI 1) hx hb dX3_deliver_13 (by decide) ?_
  refine gw_calli (va_runV (As := [.int (nI 1)]) (rest := []) ⟨hx, hb, hml, hown, hts⟩ (c_refp l K M mo ad _ _ _ _ _ _ _ _ 1 hm (by decide)) (cwV 1 hts gX3_deliver_X3_refuses rfl rfl rfl (by decide +kernel) ⟨Nat.le_of_ble_eq_true rfl, Nat.le_of_ble_eq_true rfl⟩) (gw_preV hG hT p0_o rfl) rfl rfl hl.1 rfl (lv_room (Nat.le_of_ble_eq_true rfl)) dX3_deliver_14 ⟨Nat.le_of_ble_eq_true rfl, Nat.le_of_ble_eq_true rfl⟩) hG (fun r_89 M_90 H locs hw hG => ?_)
  rw [hw.1]
  obtain ⟨hm_91, fr_92⟩ := hw.2
  have fr_93 : mfr M M_90 mo ad := mfr.tr mfr.rf fr_92
  obtain ⟨p_94_b, p_94_o, p_94_0, p_94_1, p_94_2, p_94_3, p_94_4, p_94_ne⟩ := id hm_91
  refine lv_if_eq hx hb (tgt := 22) dX3_deliver_17 (by decide) (fun hc => absurd hc (by decide)) (fun hc => ?_)
  refine lv_iconst (v := nI 0) hx hb dX3_deliver_20 (by decide) ?_
  exact gw_iret hx hb hr hlocks hG hT (by omega) (by omega) dX3_deliver_21 ⟨⟨p0_b, p_94_o, p_94_0, p_94_1, p_94_2, p_94_3, p_94_4, p0_ne⟩, fr_93⟩

set_option maxHeartbeats 4000000 in
set_option maxRecDepth 100000 in
/-- m_drop_no -/
theorem m_drop_no (l : Launch) (K : gw_C) (M : gw_M) (mo : Nat) (ad : Nat → Nat) (cd : Int32) (nn kk : Nat) (tb vb : Nat → Int32) (sb : Nat → Int64) (fm tq : Nat → Int32) (i9 : Int32)  (hm : md K M mo ad cd nn kk tb vb sb fm tq) (hP : ¬ inN i9 kk) : Met l yX3_drop wsX3_drop ({ frames := 6, cells := 0, slots := 0, locals := 160 } : Room) (va_Pc [.ref mo, .int i9] (gw_I K M)) (va_Qi (fun r M1 => md K M1 mo ad (nI 1) nn kk tb vb sb fm tq ∧ mfr M M1 mo ad) (gw_I K) (gw_A K)) 0 0 (gw_A K) := by
  refine Met.ofW (cc := cX3_drop) (maxL := 3) (ret := (some .int)) (by decide) rfl ?_
  intro p e s m args below meth c s₁ B hml hv
  obtain ⟨hav, hI⟩ := hv
  have hx := B.exec
  have hb := B.bytes
  have hr := B.returns
  have hts := atoms_spec (ws := wsX3_drop) B.pre
  have hown : s.vm.findClass RX3 = some m.cls := findClass_of_methodNamed B.named
  have hlocks : meth.locks = false := B.notSynchronized
  have hT := hI.2.2
  have hK := hT.K
  have hG := hI.B
  have hf14 := hts (.fieldLink RX3 14 "DotGossipModel" "table" "[I") (by decide +kernel)
  have hf18 := hts (.fieldLink RX3 18 "DotGossipModel" "values" "[I") (by decide +kernel)
  have hf21 := hts (.fieldLink RX3 21 "DotGossipModel" "sums" "[J") (by decide +kernel)
  have hf25 := hts (.fieldLink RX3 25 "DotGossipModel" "from" "[I") (by decide +kernel)
  have hf28 := hts (.fieldLink RX3 28 "DotGossipModel" "to" "[I") (by decide +kernel)
  have hf31 := hts (.fieldLink RX3 31 "DotGossipModel" "code" "I") (by decide +kernel)
  have hf41 := hts (.fieldLink RX3 41 "DotGossipModel" "messages" "I") (by decide +kernel)
  have hinX3 : ∀ w ∈ wsX30, w ∈ wsX3_drop := by decide +kernel
  have hE : entryFrame m args 3 = entryFrame m ([.ref mo, .int i9] : List Value).toArray 3 := by rw [hav]
  rw [hE]
  have hl := lv_entry ([.ref mo, .int i9]) (n := 3) (Nat.le_of_ble_eq_true rfl)
  rw [lg_entry_eq]
  generalize (lg_sl ([.ref mo, .int i9]) ++ List.replicate (3 - (lg_sl ([.ref mo, .int i9])).length) Slot.unset).toArray = ls at hl ⊢
  have hl : lv_has ls 3 [(0, .ref mo), (1, .int i9)] := hl
  obtain ⟨p0_b, p0_o, p0_0, p0_1, p0_2, p0_3, p0_4, p0_ne⟩ := id hm
  have ne_o0 : mo ≠ ad 0 := gw_io p0_o p0_0
  have ne_o1 : mo ≠ ad 1 := gw_io p0_o p0_1
  have ne_o2 : mo ≠ ad 2 := gw_io p0_o p0_2
  have ne_o3 : mo ≠ ad 3 := gw_io p0_o p0_3
  have ne_o4 : mo ≠ ad 4 := gw_io p0_o p0_4
  refine lv_aload_n hx hb dX3_drop_0 rfl (lv_at hl 0 rfl) ?_
  refine lv_aload_n hx hb dX3_drop_1 rfl (lv_at hl 0 rfl) ?_
  refine lv_iload_n hx hb dX3_drop_2 rfl (lv_at hl 1 rfl) ?_
  refine gw_calli (va_runV (As := [.int i9]) (rest := [.ref mo]) ⟨hx, hb, hml, hown, hts⟩ (c_isMsg l K M mo ad _ _ _ _ _ _ _ _ i9 hm) (cwV 1 hts gX3_drop_X3_isMessage rfl rfl rfl (by decide +kernel) ⟨Nat.le_of_ble_eq_true rfl, Nat.le_of_ble_eq_true rfl⟩) (gw_preV hG hT p0_o rfl) rfl rfl hl.1 rfl (lv_room (Nat.le_of_ble_eq_true rfl)) dX3_drop_3 ⟨Nat.le_of_ble_eq_true rfl, Nat.le_of_ble_eq_true rfl⟩) hG (fun r_95 M_96 H locs hw hG => ?_)
  rw [hw.1] at hG
  refine gw_as (tst_n hw.2 hP) ?_
  refine lv_if_eq hx hb (tgt := 13) dX3_drop_6 (by decide) (fun hc => ?_) (fun hc => absurd (by decide) hc)
  refine lv_iconst (v := nI 1) hx hb dX3_drop_13 (by decide) ?_
  refine gw_calli (va_runV (As := [.int (nI 1)]) (rest := []) ⟨hx, hb, hml, hown, hts⟩ (c_refp l K M mo ad _ _ _ _ _ _ _ _ 1 hm (by decide)) (cwV 1 hts gX3_drop_X3_refuses rfl rfl rfl (by decide +kernel) ⟨Nat.le_of_ble_eq_true rfl, Nat.le_of_ble_eq_true rfl⟩) (gw_preV hG hT p0_o rfl) rfl rfl hl.1 rfl (lv_room (Nat.le_of_ble_eq_true rfl)) dX3_drop_14 ⟨Nat.le_of_ble_eq_true rfl, Nat.le_of_ble_eq_true rfl⟩) hG (fun r_97 M_98 H locs hw hG => ?_)
  rw [hw.1]
  obtain ⟨hm_99, fr_100⟩ := hw.2
  have fr_101 : mfr M M_98 mo ad := mfr.tr mfr.rf fr_100
  obtain ⟨p_102_b, p_102_o, p_102_0, p_102_1, p_102_2, p_102_3, p_102_4, p_102_ne⟩ := id hm_99
  refine lv_if_eq hx hb (tgt := 22) dX3_drop_17 (by decide) (fun hc => absurd hc (by decide)) (fun hc => ?_)
  refine lv_iconst (v := nI 0) hx hb dX3_drop_20 (by decide) ?_
  exact gw_iret hx hb hr hlocks hG hT (by omega) (by omega) dX3_drop_21 ⟨⟨p0_b, p_102_o, p_102_0, p_102_1, p_102_2, p_102_3, p_102_4, p0_ne⟩, fr_101⟩

set_option maxHeartbeats 4000000 in
set_option maxRecDepth 100000 in
/-- m_copy_no -/
theorem m_copy_no (l : Launch) (K : gw_C) (M : gw_M) (mo : Nat) (ad : Nat → Nat) (cd : Int32) (nn kk : Nat) (tb vb : Nat → Int32) (sb : Nat → Int64) (fm tq : Nat → Int32) (i9 : Int32)  (hm : md K M mo ad cd nn kk tb vb sb fm tq) (hP : ¬ inN i9 kk) : Met l yX3_copy wsX3_copy ({ frames := 6, cells := 0, slots := 0, locals := 160 } : Room) (va_Pc [.ref mo, .int i9] (gw_I K M)) (va_Qi (fun r M1 => md K M1 mo ad (nI 1) nn kk tb vb sb fm tq ∧ mfr M M1 mo ad) (gw_I K) (gw_A K)) 0 0 (gw_A K) := by
  refine Met.ofW (cc := cX3_copy) (maxL := 2) (ret := (some .boolean)) (by decide) rfl ?_
  intro p e s m args below meth c s₁ B hml hv
  obtain ⟨hav, hI⟩ := hv
  have hx := B.exec
  have hb := B.bytes
  have hr := B.returns
  have hts := atoms_spec (ws := wsX3_copy) B.pre
  have hown : s.vm.findClass RX3 = some m.cls := findClass_of_methodNamed B.named
  have hlocks : meth.locks = false := B.notSynchronized
  have hT := hI.2.2
  have hK := hT.K
  have hG := hI.B
  have hf14 := hts (.fieldLink RX3 14 "DotGossipModel" "table" "[I") (by decide +kernel)
  have hf18 := hts (.fieldLink RX3 18 "DotGossipModel" "values" "[I") (by decide +kernel)
  have hf21 := hts (.fieldLink RX3 21 "DotGossipModel" "sums" "[J") (by decide +kernel)
  have hf25 := hts (.fieldLink RX3 25 "DotGossipModel" "from" "[I") (by decide +kernel)
  have hf28 := hts (.fieldLink RX3 28 "DotGossipModel" "to" "[I") (by decide +kernel)
  have hf31 := hts (.fieldLink RX3 31 "DotGossipModel" "code" "I") (by decide +kernel)
  have hf41 := hts (.fieldLink RX3 41 "DotGossipModel" "messages" "I") (by decide +kernel)
  have hinX3 : ∀ w ∈ wsX30, w ∈ wsX3_copy := by decide +kernel
  have hE : entryFrame m args 2 = entryFrame m ([.ref mo, .int i9] : List Value).toArray 2 := by rw [hav]
  rw [hE]
  have hl := lv_entry ([.ref mo, .int i9]) (n := 2) (Nat.le_of_ble_eq_true rfl)
  rw [lg_entry_eq]
  generalize (lg_sl ([.ref mo, .int i9]) ++ List.replicate (2 - (lg_sl ([.ref mo, .int i9])).length) Slot.unset).toArray = ls at hl ⊢
  have hl : lv_has ls 2 [(0, .ref mo), (1, .int i9)] := hl
  obtain ⟨p0_b, p0_o, p0_0, p0_1, p0_2, p0_3, p0_4, p0_ne⟩ := id hm
  have ne_o0 : mo ≠ ad 0 := gw_io p0_o p0_0
  have ne_o1 : mo ≠ ad 1 := gw_io p0_o p0_1
  have ne_o2 : mo ≠ ad 2 := gw_io p0_o p0_2
  have ne_o3 : mo ≠ ad 3 := gw_io p0_o p0_3
  have ne_o4 : mo ≠ ad 4 := gw_io p0_o p0_4
  refine lv_aload_n hx hb dX3_copy_0 rfl (lv_at hl 0 rfl) ?_
  refine lv_aload_n hx hb dX3_copy_1 rfl (lv_at hl 0 rfl) ?_
  refine lv_iload_n hx hb dX3_copy_2 rfl (lv_at hl 1 rfl) ?_
  refine gw_calli (va_runV (As := [.int i9]) (rest := [.ref mo]) ⟨hx, hb, hml, hown, hts⟩ (c_isMsg l K M mo ad _ _ _ _ _ _ _ _ i9 hm) (cwV 1 hts gX3_copy_X3_isMessage rfl rfl rfl (by decide +kernel) ⟨Nat.le_of_ble_eq_true rfl, Nat.le_of_ble_eq_true rfl⟩) (gw_preV hG hT p0_o rfl) rfl rfl hl.1 rfl (lv_room (Nat.le_of_ble_eq_true rfl)) dX3_copy_3 ⟨Nat.le_of_ble_eq_true rfl, Nat.le_of_ble_eq_true rfl⟩) hG (fun r_103 M_104 H locs hw hG => ?_)
  rw [hw.1] at hG
  refine gw_as (tst_n hw.2 hP) ?_
  refine lv_if_eq hx hb (tgt := 13) dX3_copy_6 (by decide) (fun hc => ?_) (fun hc => absurd (by decide) hc)
  refine lv_iconst (v := nI 1) hx hb dX3_copy_13 (by decide) ?_
  refine gw_calli (va_runV (As := [.int (nI 1)]) (rest := []) ⟨hx, hb, hml, hown, hts⟩ (c_refp l K M mo ad _ _ _ _ _ _ _ _ 1 hm (by decide)) (cwV 1 hts gX3_copy_X3_refuses rfl rfl rfl (by decide +kernel) ⟨Nat.le_of_ble_eq_true rfl, Nat.le_of_ble_eq_true rfl⟩) (gw_preV hG hT p0_o rfl) rfl rfl hl.1 rfl (lv_room (Nat.le_of_ble_eq_true rfl)) dX3_copy_14 ⟨Nat.le_of_ble_eq_true rfl, Nat.le_of_ble_eq_true rfl⟩) hG (fun r_105 M_106 H locs hw hG => ?_)
  rw [hw.1]
  obtain ⟨hm_107, fr_108⟩ := hw.2
  have fr_109 : mfr M M_106 mo ad := mfr.tr mfr.rf fr_108
  obtain ⟨p_110_b, p_110_o, p_110_0, p_110_1, p_110_2, p_110_3, p_110_4, p_110_ne⟩ := id hm_107
  refine lv_if_ne hx hb (tgt := 29) dX3_copy_17 (by decide) (fun hc => ?_) (fun hc => absurd hc (by decide))
  refine lv_iconst (v := nI 0) hx hb dX3_copy_29 (by decide) ?_
  exact gw_zret hx hb hr hlocks hG hT (by omega) (by omega) dX3_copy_30 (by decide) ⟨⟨p0_b, p_110_o, p_110_0, p_110_1, p_110_2, p_110_3, p_110_4, p0_ne⟩, fr_109⟩

set_option maxHeartbeats 4000000 in
set_option maxRecDepth 100000 in
/-- m_add -/
theorem m_add (l : Launch) (K : gw_C) (M : gw_M) (mo : Nat) (ad : Nat → Nat) (cd : Int32) (nn kk : Nat) (tb vb : Nat → Int32) (sb : Nat → Int64) (fm tq : Nat → Int32) (rk ks ke : Nat)  (hm : md K M mo ad cd nn kk tb vb sb fm tq) (hrk : rk < nn) (hks : ks < 4) (hke : ke < 16) : Met l yX3_add wsX3_add ({ frames := 6, cells := 0, slots := 0, locals := 160 } : Room) (va_Pc [.ref mo, .int (nI rk), .int (nI ks), .int (nI ke)] (gw_I K M)) (va_Qi (fun r M1 => r = tb (414 * rk + rk) + nI 1 ∧ md K M1 mo ad (nI 0) nn kk (mnew tb rk (16 * ks + ke)) vb sb fm tq ∧ mfr M M1 mo ad) (gw_I K) (gw_A K)) 0 0 (gw_A K) := by
  refine Met.ofW (cc := cX3_add) (maxL := 4) (ret := (some .int)) (by decide) rfl ?_
  intro p e s m args below meth c s₁ B hml hv
  obtain ⟨hav, hI⟩ := hv
  have hx := B.exec
  have hb := B.bytes
  have hr := B.returns
  have hts := atoms_spec (ws := wsX3_add) B.pre
  have hown : s.vm.findClass RX3 = some m.cls := findClass_of_methodNamed B.named
  have hlocks : meth.locks = false := B.notSynchronized
  have hT := hI.2.2
  have hK := hT.K
  have hG := hI.B
  have hf7 := hts (.fieldLink RX3 7 "DotGossipModel" "replicas" "I") (by decide +kernel)
  have hf14 := hts (.fieldLink RX3 14 "DotGossipModel" "table" "[I") (by decide +kernel)
  have hf31 := hts (.fieldLink RX3 31 "DotGossipModel" "code" "I") (by decide +kernel)
  have hinX3 : ∀ w ∈ wsX30, w ∈ wsX3_add := by decide +kernel
  have hE : entryFrame m args 4 = entryFrame m ([.ref mo, .int (nI rk), .int (nI ks), .int (nI ke)] : List Value).toArray 4 := by rw [hav]
  rw [hE]
  have hl := lv_entry ([.ref mo, .int (nI rk), .int (nI ks), .int (nI ke)]) (n := 4) (Nat.le_of_ble_eq_true rfl)
  rw [lg_entry_eq]
  generalize (lg_sl ([.ref mo, .int (nI rk), .int (nI ks), .int (nI ke)]) ++ List.replicate (4 - (lg_sl ([.ref mo, .int (nI rk), .int (nI ks), .int (nI ke)])).length) Slot.unset).toArray = ls at hl ⊢
  have hl : lv_has ls 4 [(0, .ref mo), (1, .int (nI rk)), (2, .int (nI ks)), (3, .int (nI ke))] := hl
  obtain ⟨p0_b, p0_o, p0_0, p0_1, p0_2, p0_3, p0_4, p0_ne⟩ := id hm
  have ne_o0 : mo ≠ ad 0 := gw_io p0_o p0_0
  have ne_o1 : mo ≠ ad 1 := gw_io p0_o p0_1
  have ne_o2 : mo ≠ ad 2 := gw_io p0_o p0_2
  have ne_o3 : mo ≠ ad 3 := gw_io p0_o p0_3
  have ne_o4 : mo ≠ ad 4 := gw_io p0_o p0_4
  have hn6 := p0_b.1
  refine lv_aload_n hx hb dX3_add_0 rfl (lv_at hl 0 rfl) ?_
  refine lv_aload_n hx hb dX3_add_1 rfl (lv_at hl 0 rfl) ?_
  refine lv_iload_n hx hb dX3_add_2 rfl (lv_at hl 1 rfl) ?_
  refine lv_iload_n hx hb dX3_add_3 rfl (lv_at hl 2 rfl) ?_
  refine lv_iload_n hx hb dX3_add_4 rfl (lv_at hl 3 rfl) ?_
  refine gw_calli (va_runV (As := [.int (nI rk), .int (nI ks), .int (nI ke)]) (rest := [.ref mo]) ⟨hx, hb, hml, hown, hts⟩ (c_isEl l K M mo ad _ _ _ _ _ _ _ _ (nI rk) (nI ks) (nI ke) hm) (cwV 3 hts gX3_add_X3_isElement rfl rfl rfl (by decide +kernel) ⟨Nat.le_of_ble_eq_true rfl, Nat.le_of_ble_eq_true rfl⟩) (gw_preV hG hT p0_o rfl) rfl rfl hl.1 rfl (lv_room (Nat.le_of_ble_eq_true rfl)) dX3_add_5 ⟨Nat.le_of_ble_eq_true rfl, Nat.le_of_ble_eq_true rfl⟩) hG (fun r_111 M_112 H locs hw hG => ?_)
  rw [hw.1] at hG
  refine gw_as (tst_y hw.2 ⟨⟨rk, hrk, rfl⟩, ⟨ks, hks, rfl⟩, ⟨ke, hke, rfl⟩⟩) ?_
  refine lv_if_eq hx hb (tgt := 15) dX3_add_8 (by decide) (fun hc => absurd hc (by decide)) (fun hc => ?_)
  refine lv_iconst (v := nI 0) hx hb dX3_add_11 (by decide) ?_
  refine lv_goto (tgt := 16) hx hb dX3_add_12 (by decide) ?_
  refine gw_calli (va_runV (As := [.int (nI 0)]) (rest := []) ⟨hx, hb, hml, hown, hts⟩ (c_ref0 l K M mo ad _ _ _ _ _ _ _ _ 0 hm) (cwV 1 hts gX3_add_X3_refuses rfl rfl rfl (by decide +kernel) ⟨Nat.le_of_ble_eq_true rfl, Nat.le_of_ble_eq_true rfl⟩) (gw_preV hG hT p0_o rfl) rfl rfl hl.1 rfl (lv_room (Nat.le_of_ble_eq_true rfl)) dX3_add_16 ⟨Nat.le_of_ble_eq_true rfl, Nat.le_of_ble_eq_true rfl⟩) hG (fun r_113 M_114 H locs hw hG => ?_)
  rw [hw.1]
  obtain ⟨hm_115, fr_116⟩ := hw.2
  have fr_117 : mfr M M_114 mo ad := mfr.tr mfr.rf fr_116
  obtain ⟨p_118_b, p_118_o, p_118_0, p_118_1, p_118_2, p_118_3, p_118_4, p_118_ne⟩ := id hm_115
  refine lv_if_eq hx hb (tgt := 26) dX3_add_19 (by decide) (fun hc => ?_) (fun hc => absurd (by decide) hc)
  refine lv_aload_n hx hb dX3_add_26 rfl (lv_at hl 0 rfl) ?_
  refine lv_iload_n hx hb dX3_add_27 rfl (lv_at hl 1 rfl) ?_
  refine lv_bipush (v := nI 16) hx hb dX3_add_28 (by decide) ?_
  refine lv_iload_n hx hb dX3_add_30 rfl (lv_at hl 2 rfl) ?_
  refine gw_imul hx hb dX3_add_31 ?_
  refine lv_iload_n hx hb dX3_add_32 rfl (lv_at hl 3 rfl) ?_
  refine gw_iadd hx hb dX3_add_33 ?_
  have hm_119 : md K M_114 mo ad (nI 0) nn kk tb vb sb fm tq := ⟨p0_b, p_118_o, p_118_0, p_118_1, p_118_2, p_118_3, p_118_4, p0_ne⟩
  refine gw_calli (va_runV (As := [.int (nI rk), .int (nI ((16 * ks) + ke))]) (rest := []) ⟨hx, hb, hml, hown, hts⟩ (c_news l K M_114 mo ad _ _ _ _ _ _ _ _ rk (16 * ks + ke) hm_119 (by omega) (by omega)) (cwV 2 hts gX3_add_X3_news rfl rfl rfl (by decide +kernel) ⟨Nat.le_of_ble_eq_true rfl, Nat.le_of_ble_eq_true rfl⟩) (gw_preV hG hT p_118_o rfl) rfl rfl hl.1 rfl (lv_room (Nat.le_of_ble_eq_true rfl)) dX3_add_34 ⟨Nat.le_of_ble_eq_true rfl, Nat.le_of_ble_eq_true rfl⟩) hG (fun r_120 M_121 H locs hw hG => ?_)
  rw [hw.1]
  obtain ⟨hm_122, fr_123⟩ := hw.2
  have fr_124 : mfr M M_121 mo ad := mfr.tr fr_117 fr_123
  obtain ⟨p_125_b, p_125_o, p_125_0, p_125_1, p_125_2, p_125_3, p_125_4, p_125_ne⟩ := id hm_122
  exact gw_iret hx hb hr hlocks hG hT (by omega) (by omega) dX3_add_37 ⟨rfl, ⟨p0_b, p_125_o, p_125_0, p_125_1, p_125_2, p_125_3, p_125_4, p0_ne⟩, fr_124⟩

set_option maxHeartbeats 4000000 in
set_option maxRecDepth 100000 in
/-- m_remove -/
theorem m_remove (l : Launch) (K : gw_C) (M : gw_M) (mo : Nat) (ad : Nat → Nat) (cd : Int32) (nn kk : Nat) (tb vb : Nat → Int32) (sb : Nat → Int64) (fm tq : Nat → Int32) (rk ks ke : Nat)  (hm : md K M mo ad cd nn kk tb vb sb fm tq) (hrk : rk < nn) (hks : ks < 4) (hke : ke < 16) : Met l yX3_remove wsX3_remove ({ frames := 6, cells := 0, slots := 0, locals := 160 } : Room) (va_Pc [.ref mo, .int (nI rk), .int (nI ks), .int (nI ke)] (gw_I K M)) (va_Qi (fun r M1 => r = nI (mny tb (414 * rk + 6 + 6 * (16 * ks + ke)) 6) ∧ md K M1 mo ad (nI 0) nn kk (mclr tb (414 * rk + 6 + 6 * (16 * ks + ke)) 6) vb sb fm tq ∧ mfr M M1 mo ad) (gw_I K) (gw_A K)) 0 0 (gw_A K) := by
  refine Met.ofW (cc := cX3_remove) (maxL := 5) (ret := (some .int)) (by decide) rfl ?_
  intro p e s m args below meth c s₁ B hml hv
  obtain ⟨hav, hI⟩ := hv
  have hx := B.exec
  have hb := B.bytes
  have hr := B.returns
  have hts := atoms_spec (ws := wsX3_remove) B.pre
  have hown : s.vm.findClass RX3 = some m.cls := findClass_of_methodNamed B.named
  have hlocks : meth.locks = false := B.notSynchronized
  have hT := hI.2.2
  have hK := hT.K
  have hG := hI.B
  have hf7 := hts (.fieldLink RX3 7 "DotGossipModel" "replicas" "I") (by decide +kernel)
  have hf14 := hts (.fieldLink RX3 14 "DotGossipModel" "table" "[I") (by decide +kernel)
  have hf31 := hts (.fieldLink RX3 31 "DotGossipModel" "code" "I") (by decide +kernel)
  have hinX3 : ∀ w ∈ wsX30, w ∈ wsX3_remove := by decide +kernel
  have hE : entryFrame m args 5 = entryFrame m ([.ref mo, .int (nI rk), .int (nI ks), .int (nI ke)] : List Value).toArray 5 := by rw [hav]
  rw [hE]
  have hl := lv_entry ([.ref mo, .int (nI rk), .int (nI ks), .int (nI ke)]) (n := 5) (Nat.le_of_ble_eq_true rfl)
  rw [lg_entry_eq]
  generalize (lg_sl ([.ref mo, .int (nI rk), .int (nI ks), .int (nI ke)]) ++ List.replicate (5 - (lg_sl ([.ref mo, .int (nI rk), .int (nI ks), .int (nI ke)])).length) Slot.unset).toArray = ls at hl ⊢
  have hl : lv_has ls 5 [(0, .ref mo), (1, .int (nI rk)), (2, .int (nI ks)), (3, .int (nI ke))] := hl
  obtain ⟨p0_b, p0_o, p0_0, p0_1, p0_2, p0_3, p0_4, p0_ne⟩ := id hm
  have ne_o0 : mo ≠ ad 0 := gw_io p0_o p0_0
  have ne_o1 : mo ≠ ad 1 := gw_io p0_o p0_1
  have ne_o2 : mo ≠ ad 2 := gw_io p0_o p0_2
  have ne_o3 : mo ≠ ad 3 := gw_io p0_o p0_3
  have ne_o4 : mo ≠ ad 4 := gw_io p0_o p0_4
  have hn6 := p0_b.1
  refine lv_aload_n hx hb dX3_remove_0 rfl (lv_at hl 0 rfl) ?_
  refine lv_aload_n hx hb dX3_remove_1 rfl (lv_at hl 0 rfl) ?_
  refine lv_iload_n hx hb dX3_remove_2 rfl (lv_at hl 1 rfl) ?_
  refine lv_iload_n hx hb dX3_remove_3 rfl (lv_at hl 2 rfl) ?_
  refine lv_iload_n hx hb dX3_remove_4 rfl (lv_at hl 3 rfl) ?_
  refine gw_calli (va_runV (As := [.int (nI rk), .int (nI ks), .int (nI ke)]) (rest := [.ref mo]) ⟨hx, hb, hml, hown, hts⟩ (c_isEl l K M mo ad _ _ _ _ _ _ _ _ (nI rk) (nI ks) (nI ke) hm) (cwV 3 hts gX3_remove_X3_isElement rfl rfl rfl (by decide +kernel) ⟨Nat.le_of_ble_eq_true rfl, Nat.le_of_ble_eq_true rfl⟩) (gw_preV hG hT p0_o rfl) rfl rfl hl.1 rfl (lv_room (Nat.le_of_ble_eq_true rfl)) dX3_remove_5 ⟨Nat.le_of_ble_eq_true rfl, Nat.le_of_ble_eq_true rfl⟩) hG (fun r_126 M_127 H locs hw hG => ?_)
  rw [hw.1] at hG
  refine gw_as (tst_y hw.2 ⟨⟨rk, hrk, rfl⟩, ⟨ks, hks, rfl⟩, ⟨ke, hke, rfl⟩⟩) ?_
  refine lv_if_eq hx hb (tgt := 15) dX3_remove_8 (by decide) (fun hc => absurd hc (by decide)) (fun hc => ?_)
  refine lv_iconst (v := nI 0) hx hb dX3_remove_11 (by decide) ?_
  refine lv_goto (tgt := 16) hx hb dX3_remove_12 (by decide) ?_
  refine gw_calli (va_runV (As := [.int (nI 0)]) (rest := []) ⟨hx, hb, hml, hown, hts⟩ (c_ref0 l K M mo ad _ _ _ _ _ _ _ _ 0 hm) (cwV 1 hts gX3_remove_X3_refuses rfl rfl rfl (by decide +kernel) ⟨Nat.le_of_ble_eq_true rfl, Nat.le_of_ble_eq_true rfl⟩) (gw_preV hG hT p0_o rfl) rfl rfl hl.1 rfl (lv_room (Nat.le_of_ble_eq_true rfl)) dX3_remove_16 ⟨Nat.le_of_ble_eq_true rfl, Nat.le_of_ble_eq_true rfl⟩) hG (fun r_128 M_129 H locs hw hG => ?_)
  rw [hw.1]
  obtain ⟨hm_130, fr_131⟩ := hw.2
  have fr_132 : mfr M M_129 mo ad := mfr.tr mfr.rf fr_131
  obtain ⟨p_133_b, p_133_o, p_133_0, p_133_1, p_133_2, p_133_3, p_133_4, p_133_ne⟩ := id hm_130
  refine lv_if_eq hx hb (tgt := 24) dX3_remove_19 (by decide) (fun hc => ?_) (fun hc => absurd (by decide) hc)
  refine lv_aload_n hx hb dX3_remove_24 rfl (lv_at hl 0 rfl) ?_
  refine lv_iload_n hx hb dX3_remove_25 rfl (lv_at hl 1 rfl) ?_
  refine lv_bipush (v := nI 16) hx hb dX3_remove_26 (by decide) ?_
  refine lv_iload_n hx hb dX3_remove_28 rfl (lv_at hl 2 rfl) ?_
  refine gw_imul hx hb dX3_remove_29 ?_
  refine lv_iload_n hx hb dX3_remove_30 rfl (lv_at hl 3 rfl) ?_
  refine gw_iadd hx hb dX3_remove_31 ?_
  have hm_134 : md K M_129 mo ad (nI 0) nn kk tb vb sb fm tq := ⟨p0_b, p_133_o, p_133_0, p_133_1, p_133_2, p_133_3, p_133_4, p0_ne⟩
  refine gw_calli (va_runV (As := [.int (nI rk), .int (nI ((16 * ks) + ke))]) (rest := []) ⟨hx, hb, hml, hown, hts⟩ (c_many l K M_129 mo ad _ _ _ _ _ _ _ _ rk (16 * ks + ke) hm_134 (by omega) (by omega)) (cwV 2 hts gX3_remove_X3_many rfl rfl rfl (by decide +kernel) ⟨Nat.le_of_ble_eq_true rfl, Nat.le_of_ble_eq_true rfl⟩) (gw_preV hG hT p_133_o rfl) rfl rfl hl.1 rfl (lv_room (Nat.le_of_ble_eq_true rfl)) dX3_remove_32 ⟨Nat.le_of_ble_eq_true rfl, Nat.le_of_ble_eq_true rfl⟩) hG (fun r_135 M_136 H locs hw hG => ?_)
  rw [hw.1] at hG
  refine gw_as hw.2 ?_
  refine lv_istore (lv' := [(4, .int (nI (mny tb (414 * rk + 6 + 6 * (16 * ks + ke)) 6))), (0, .ref mo), (1, .int (nI rk)), (2, .int (nI ks)), (3, .int (nI ke))]) hx hb dX3_remove_35 hl (by decide) rfl (fun ls hl => ?_)
  refine lv_aload_n hx hb dX3_remove_37 rfl (lv_at hl 1 rfl) ?_
  refine lv_iload_n hx hb dX3_remove_38 rfl (lv_at hl 2 rfl) ?_
  refine lv_bipush (v := nI 16) hx hb dX3_remove_39 (by decide) ?_
  refine lv_iload_n hx hb dX3_remove_41 rfl (lv_at hl 3 rfl) ?_
  refine gw_imul hx hb dX3_remove_42 ?_
  refine lv_iload_n hx hb dX3_remove_43 rfl (lv_at hl 4 rfl) ?_
  refine gw_iadd hx hb dX3_remove_44 ?_
  have hm_137 : md K M_129 mo ad (nI 0) nn kk tb vb sb fm tq := ⟨p0_b, p_133_o, p_133_0, p_133_1, p_133_2, p_133_3, p_133_4, p0_ne⟩
  refine gw_callv (va_runV (As := [.int (nI rk), .int (nI ((16 * ks) + ke))]) (rest := []) ⟨hx, hb, hml, hown, hts⟩ (c_empties l K M_129 mo ad _ _ _ _ _ _ _ _ rk (16 * ks + ke) hm_137 (by omega) (by omega)) (cwV 2 hts gX3_remove_X3_empties rfl rfl rfl (by decide +kernel) ⟨Nat.le_of_ble_eq_true rfl, Nat.le_of_ble_eq_true rfl⟩) (gw_preV hG hT p_133_o rfl) rfl rfl hl.1 rfl (lv_room (Nat.le_of_ble_eq_true rfl)) dX3_remove_45 ⟨Nat.le_of_ble_eq_true rfl, Nat.le_of_ble_eq_true rfl⟩) hG (fun M_139 H locs hw hG => ?_)
  obtain ⟨hm_140, fr_141⟩ := hw
  have fr_142 : mfr M M_139 mo ad := mfr.tr fr_132 fr_141
  obtain ⟨p_143_b, p_143_o, p_143_0, p_143_1, p_143_2, p_143_3, p_143_4, p_143_ne⟩ := id hm_140
  refine lv_iload hx hb dX3_remove_48 (lv_at hl 0 rfl) ?_
  exact gw_iret hx hb hr hlocks hG hT (by omega) (by omega) dX3_remove_50 ⟨rfl, ⟨p0_b, p_143_o, p_143_0, p_143_1, p_143_2, p_143_3, p_143_4, p0_ne⟩, fr_142⟩

set_option maxHeartbeats 4000000 in
set_option maxRecDepth 100000 in
/-- m_contains -/
theorem m_contains (l : Launch) (K : gw_C) (M : gw_M) (mo : Nat) (ad : Nat → Nat) (cd : Int32) (nn kk : Nat) (tb vb : Nat → Int32) (sb : Nat → Int64) (fm tq : Nat → Int32) (rk ks ke : Nat)  (hm : md K M mo ad cd nn kk tb vb sb fm tq) (hrk : rk < nn) (hks : ks < 4) (hke : ke < 16) : Met l yX3_contains wsX3_contains ({ frames := 6, cells := 0, slots := 0, locals := 160 } : Room) (va_Pc [.ref mo, .int (nI rk), .int (nI ks), .int (nI ke)] (gw_I K M)) (va_Qi (fun r M1 => r = (if mny tb (414 * rk + 6 + 6 * (16 * ks + ke)) 6 = 0 then nI 0 else nI 1) ∧ md K M1 mo ad (nI 0) nn kk tb vb sb fm tq ∧ mfr M M1 mo ad) (gw_I K) (gw_A K)) 0 0 (gw_A K) := by
  refine Met.ofW (cc := cX3_contains) (maxL := 4) (ret := (some .boolean)) (by decide) rfl ?_
  intro p e s m args below meth c s₁ B hml hv
  obtain ⟨hav, hI⟩ := hv
  have hx := B.exec
  have hb := B.bytes
  have hr := B.returns
  have hts := atoms_spec (ws := wsX3_contains) B.pre
  have hown : s.vm.findClass RX3 = some m.cls := findClass_of_methodNamed B.named
  have hlocks : meth.locks = false := B.notSynchronized
  have hT := hI.2.2
  have hK := hT.K
  have hG := hI.B
  have hf7 := hts (.fieldLink RX3 7 "DotGossipModel" "replicas" "I") (by decide +kernel)
  have hf14 := hts (.fieldLink RX3 14 "DotGossipModel" "table" "[I") (by decide +kernel)
  have hf31 := hts (.fieldLink RX3 31 "DotGossipModel" "code" "I") (by decide +kernel)
  have hinX3 : ∀ w ∈ wsX30, w ∈ wsX3_contains := by decide +kernel
  have hE : entryFrame m args 4 = entryFrame m ([.ref mo, .int (nI rk), .int (nI ks), .int (nI ke)] : List Value).toArray 4 := by rw [hav]
  rw [hE]
  have hl := lv_entry ([.ref mo, .int (nI rk), .int (nI ks), .int (nI ke)]) (n := 4) (Nat.le_of_ble_eq_true rfl)
  rw [lg_entry_eq]
  generalize (lg_sl ([.ref mo, .int (nI rk), .int (nI ks), .int (nI ke)]) ++ List.replicate (4 - (lg_sl ([.ref mo, .int (nI rk), .int (nI ks), .int (nI ke)])).length) Slot.unset).toArray = ls at hl ⊢
  have hl : lv_has ls 4 [(0, .ref mo), (1, .int (nI rk)), (2, .int (nI ks)), (3, .int (nI ke))] := hl
  obtain ⟨p0_b, p0_o, p0_0, p0_1, p0_2, p0_3, p0_4, p0_ne⟩ := id hm
  have ne_o0 : mo ≠ ad 0 := gw_io p0_o p0_0
  have ne_o1 : mo ≠ ad 1 := gw_io p0_o p0_1
  have ne_o2 : mo ≠ ad 2 := gw_io p0_o p0_2
  have ne_o3 : mo ≠ ad 3 := gw_io p0_o p0_3
  have ne_o4 : mo ≠ ad 4 := gw_io p0_o p0_4
  have hn6 := p0_b.1
  refine lv_aload_n hx hb dX3_contains_0 rfl (lv_at hl 0 rfl) ?_
  refine lv_aload_n hx hb dX3_contains_1 rfl (lv_at hl 0 rfl) ?_
  refine lv_iload_n hx hb dX3_contains_2 rfl (lv_at hl 1 rfl) ?_
  refine lv_iload_n hx hb dX3_contains_3 rfl (lv_at hl 2 rfl) ?_
  refine lv_iload_n hx hb dX3_contains_4 rfl (lv_at hl 3 rfl) ?_
  refine gw_calli (va_runV (As := [.int (nI rk), .int (nI ks), .int (nI ke)]) (rest := [.ref mo]) ⟨hx, hb, hml, hown, hts⟩ (c_isEl l K M mo ad _ _ _ _ _ _ _ _ (nI rk) (nI ks) (nI ke) hm) (cwV 3 hts gX3_contains_X3_isElement rfl rfl rfl (by decide +kernel) ⟨Nat.le_of_ble_eq_true rfl, Nat.le_of_ble_eq_true rfl⟩) (gw_preV hG hT p0_o rfl) rfl rfl hl.1 rfl (lv_room (Nat.le_of_ble_eq_true rfl)) dX3_contains_5 ⟨Nat.le_of_ble_eq_true rfl, Nat.le_of_ble_eq_true rfl⟩) hG (fun r_144 M_145 H locs hw hG => ?_)
  rw [hw.1] at hG
  refine gw_as (tst_y hw.2 ⟨⟨rk, hrk, rfl⟩, ⟨ks, hks, rfl⟩, ⟨ke, hke, rfl⟩⟩) ?_
  refine lv_if_eq hx hb (tgt := 15) dX3_contains_8 (by decide) (fun hc => absurd hc (by decide)) (fun hc => ?_)
  refine lv_iconst (v := nI 0) hx hb dX3_contains_11 (by decide) ?_
  refine lv_goto (tgt := 16) hx hb dX3_contains_12 (by decide) ?_
  refine gw_calli (va_runV (As := [.int (nI 0)]) (rest := []) ⟨hx, hb, hml, hown, hts⟩ (c_ref0 l K M mo ad _ _ _ _ _ _ _ _ 0 hm) (cwV 1 hts gX3_contains_X3_refuses rfl rfl rfl (by decide +kernel) ⟨Nat.le_of_ble_eq_true rfl, Nat.le_of_ble_eq_true rfl⟩) (gw_preV hG hT p0_o rfl) rfl rfl hl.1 rfl (lv_room (Nat.le_of_ble_eq_true rfl)) dX3_contains_16 ⟨Nat.le_of_ble_eq_true rfl, Nat.le_of_ble_eq_true rfl⟩) hG (fun r_146 M_147 H locs hw hG => ?_)
  rw [hw.1]
  obtain ⟨hm_148, fr_149⟩ := hw.2
  have fr_150 : mfr M M_147 mo ad := mfr.tr mfr.rf fr_149
  obtain ⟨p_151_b, p_151_o, p_151_0, p_151_1, p_151_2, p_151_3, p_151_4, p_151_ne⟩ := id hm_148
  refine lv_if_ne hx hb (tgt := 40) dX3_contains_19 (by decide) (fun hc => absurd rfl hc) (fun hc => ?_)
  refine lv_aload_n hx hb dX3_contains_22 rfl (lv_at hl 0 rfl) ?_
  refine lv_iload_n hx hb dX3_contains_23 rfl (lv_at hl 1 rfl) ?_
  refine lv_bipush (v := nI 16) hx hb dX3_contains_24 (by decide) ?_
  refine lv_iload_n hx hb dX3_contains_26 rfl (lv_at hl 2 rfl) ?_
  refine gw_imul hx hb dX3_contains_27 ?_
  refine lv_iload_n hx hb dX3_contains_28 rfl (lv_at hl 3 rfl) ?_
  refine gw_iadd hx hb dX3_contains_29 ?_
  have hm_152 : md K M_147 mo ad (nI 0) nn kk tb vb sb fm tq := ⟨p0_b, p_151_o, p_151_0, p_151_1, p_151_2, p_151_3, p_151_4, p0_ne⟩
  refine gw_calli (va_runV (As := [.int (nI rk), .int (nI ((16 * ks) + ke))]) (rest := []) ⟨hx, hb, hml, hown, hts⟩ (c_many l K M_147 mo ad _ _ _ _ _ _ _ _ rk (16 * ks + ke) hm_152 (by omega) (by omega)) (cwV 2 hts gX3_contains_X3_many rfl rfl rfl (by decide +kernel) ⟨Nat.le_of_ble_eq_true rfl, Nat.le_of_ble_eq_true rfl⟩) (gw_preV hG hT p_151_o rfl) rfl rfl hl.1 rfl (lv_room (Nat.le_of_ble_eq_true rfl)) dX3_contains_30 ⟨Nat.le_of_ble_eq_true rfl, Nat.le_of_ble_eq_true rfl⟩) hG (fun r_153 M_154 H locs hw hG => ?_)
  rw [hw.1] at hG
  refine gw_as hw.2 ?_
  have hl9 := mny_le tb (414 * rk + 6 + 6 * (16 * ks + ke)) 6
  refine lv_if_le hx hb (tgt := 40) dX3_contains_33 (by decide) (fun hz => ?_) (fun hz => ?_)
  · refine lv_iconst (v := nI 0) hx hb dX3_contains_40 (by decide) ?_
    exact gw_zret hx hb hr hlocks hG hT (by omega) (by omega) dX3_contains_41 (by decide) ⟨(if_pos ((nI_le0 (by omega)).mp hz)).symm, ⟨p0_b, p_151_o, p_151_0, p_151_1, p_151_2, p_151_3, p_151_4, p0_ne⟩, fr_150⟩
  · refine lv_iconst (v := nI 1) hx hb dX3_contains_36 (by decide) ?_
    refine lv_goto (tgt := 41) hx hb dX3_contains_37 (by decide) ?_
    exact gw_zret hx hb hr hlocks hG hT (by omega) (by omega) dX3_contains_41 (by decide) ⟨(if_neg (fun z => hz ((nI_le0 (by omega)).mpr z))).symm, ⟨p0_b, p_151_o, p_151_0, p_151_1, p_151_2, p_151_3, p_151_4, p0_ne⟩, fr_150⟩

set_option maxHeartbeats 4000000 in
set_option maxRecDepth 100000 in
/-- m_size -/
theorem m_size (l : Launch) (K : gw_C) (M : gw_M) (mo : Nat) (ad : Nat → Nat) (cd : Int32) (nn kk : Nat) (tb vb : Nat → Int32) (sb : Nat → Int64) (fm tq : Nat → Int32) (rk ks : Nat)  (hm : md K M mo ad cd nn kk tb vb sb fm tq) (hrk : rk < nn) (hks : ks < 4)  : Met l yX3_size wsX3_size ({ frames := 6, cells := 0, slots := 0, locals := 160 } : Room) (va_Pc [.ref mo, .int (nI rk), .int (nI ks)] (gw_I K M)) (va_Qi (fun r M1 => r = nI (msz tb rk ks 16) ∧ md K M1 mo ad (nI 0) nn kk tb vb sb fm tq ∧ mfr M M1 mo ad) (gw_I K) (gw_A K)) 0 0 (gw_A K) := by
  refine Met.ofW (cc := cX3_size) (maxL := 5) (ret := (some .int)) (by decide) rfl ?_
  intro p e s m args below meth c s₁ B hml hv
  obtain ⟨hav, hI⟩ := hv
  have hx := B.exec
  have hb := B.bytes
  have hr := B.returns
  have hts := atoms_spec (ws := wsX3_size) B.pre
  have hown : s.vm.findClass RX3 = some m.cls := findClass_of_methodNamed B.named
  have hlocks : meth.locks = false := B.notSynchronized
  have hT := hI.2.2
  have hK := hT.K
  have hG := hI.B
  have hf7 := hts (.fieldLink RX3 7 "DotGossipModel" "replicas" "I") (by decide +kernel)
  have hf14 := hts (.fieldLink RX3 14 "DotGossipModel" "table" "[I") (by decide +kernel)
  have hf31 := hts (.fieldLink RX3 31 "DotGossipModel" "code" "I") (by decide +kernel)
  have hinX3 : ∀ w ∈ wsX30, w ∈ wsX3_size := by decide +kernel
  have hE : entryFrame m args 5 = entryFrame m ([.ref mo, .int (nI rk), .int (nI ks)] : List Value).toArray 5 := by rw [hav]
  rw [hE]
  have hl := lv_entry ([.ref mo, .int (nI rk), .int (nI ks)]) (n := 5) (Nat.le_of_ble_eq_true rfl)
  rw [lg_entry_eq]
  generalize (lg_sl ([.ref mo, .int (nI rk), .int (nI ks)]) ++ List.replicate (5 - (lg_sl ([.ref mo, .int (nI rk), .int (nI ks)])).length) Slot.unset).toArray = ls at hl ⊢
  have hl : lv_has ls 5 [(0, .ref mo), (1, .int (nI rk)), (2, .int (nI ks))] := hl
  obtain ⟨p0_b, p0_o, p0_0, p0_1, p0_2, p0_3, p0_4, p0_ne⟩ := id hm
  have ne_o0 : mo ≠ ad 0 := gw_io p0_o p0_0
  have ne_o1 : mo ≠ ad 1 := gw_io p0_o p0_1
  have ne_o2 : mo ≠ ad 2 := gw_io p0_o p0_2
  have ne_o3 : mo ≠ ad 3 := gw_io p0_o p0_3
  have ne_o4 : mo ≠ ad 4 := gw_io p0_o p0_4
  have hn6 := p0_b.1
  refine lv_aload_n hx hb dX3_size_0 rfl (lv_at hl 0 rfl) ?_
  refine lv_aload_n hx hb dX3_size_1 rfl (lv_at hl 0 rfl) ?_
  refine lv_iload_n hx hb dX3_size_2 rfl (lv_at hl 1 rfl) ?_
  refine lv_iload_n hx hb dX3_size_3 rfl (lv_at hl 2 rfl) ?_
  refine lv_iconst (v := nI 0) hx hb dX3_size_4 (by decide) ?_
  refine gw_calli (va_runV (As := [.int (nI rk), .int (nI ks), .int (nI 0)]) (rest := [.ref mo]) ⟨hx, hb, hml, hown, hts⟩ (c_isEl l K M mo ad _ _ _ _ _ _ _ _ (nI rk) (nI ks) (nI 0) hm) (cwV 3 hts gX3_size_X3_isElement rfl rfl rfl (by decide +kernel) ⟨Nat.le_of_ble_eq_true rfl, Nat.le_of_ble_eq_true rfl⟩) (gw_preV hG hT p0_o rfl) rfl rfl hl.1 rfl (lv_room (Nat.le_of_ble_eq_true rfl)) dX3_size_5 ⟨Nat.le_of_ble_eq_true rfl, Nat.le_of_ble_eq_true rfl⟩) hG (fun r_155 M_156 H locs hw hG => ?_)
  rw [hw.1] at hG
  refine gw_as (tst_y hw.2 ⟨⟨rk, hrk, rfl⟩, ⟨ks, hks, rfl⟩, ⟨0, by decide, rfl⟩⟩) ?_
  refine lv_if_eq hx hb (tgt := 15) dX3_size_8 (by decide) (fun hc => absurd hc (by decide)) (fun hc => ?_)
  refine lv_iconst (v := nI 0) hx hb dX3_size_11 (by decide) ?_
  refine lv_goto (tgt := 16) hx hb dX3_size_12 (by decide) ?_
  refine gw_calli (va_runV (As := [.int (nI 0)]) (rest := []) ⟨hx, hb, hml, hown, hts⟩ (c_ref0 l K M mo ad _ _ _ _ _ _ _ _ 0 hm) (cwV 1 hts gX3_size_X3_refuses rfl rfl rfl (by decide +kernel) ⟨Nat.le_of_ble_eq_true rfl, Nat.le_of_ble_eq_true rfl⟩) (gw_preV hG hT p0_o rfl) rfl rfl hl.1 rfl (lv_room (Nat.le_of_ble_eq_true rfl)) dX3_size_16 ⟨Nat.le_of_ble_eq_true rfl, Nat.le_of_ble_eq_true rfl⟩) hG (fun r_157 M_158 H locs hw hG => ?_)
  rw [hw.1]
  obtain ⟨hm_159, fr_160⟩ := hw.2
  have fr_161 : mfr M M_158 mo ad := mfr.tr mfr.rf fr_160
  obtain ⟨p_162_b, p_162_o, p_162_0, p_162_1, p_162_2, p_162_3, p_162_4, p_162_ne⟩ := id hm_159
  refine lv_if_eq hx hb (tgt := 24) dX3_size_19 (by decide) (fun hc => ?_) (fun hc => absurd (by decide) hc)
  refine lv_iconst (v := nI 0) hx hb dX3_size_24 (by decide) ?_
  refine lv_istore_n (lv' := [(3, .int (nI 0)), (0, .ref mo), (1, .int (nI rk)), (2, .int (nI ks))]) hx hb dX3_size_25 rfl hl (by decide) rfl (fun ls hl => ?_)
  refine lv_iconst (v := nI 0) hx hb dX3_size_26 (by decide) ?_
  refine lv_istore (lv' := [(4, .int (nI 0)), (3, .int (nI 0)), (0, .ref mo), (1, .int (nI rk)), (2, .int (nI ks))]) hx hb dX3_size_27 hl (by decide) rfl (fun ls hl => ?_)
  have hm_163 : md K M_158 mo ad (nI 0) nn kk tb vb sb fm tq := ⟨p0_b, p_162_o, p_162_0, p_162_1, p_162_2, p_162_3, p_162_4, p0_ne⟩
  have hloop : ∀ (z9 : Nat) (i : Nat), i ≤ 16 → 16 + 1 ≤ i + z9 → ∀ (Mi : gw_M), Mi = M_158 → ∀ (H : Heap) (locs : List Loc), gw_B K Mi s.heap H locs → ∀ (ls : Array Slot), lv_has ls 5 [(4, .int (nI i)), (3, .int (nI (msz tb rk ks i))), (0, .ref mo), (1, .int (nI rk)), (2, .int (nI ks))] → W p l e ({ frames := 6, cells := 0, slots := 0, locals := 160 } : Room) s m args below meth c H locs (0) (0) (MQ below (va_Qi (fun r M1 => r = nI (msz tb rk ks 16) ∧ md K M1 mo ad (nI 0) nn kk tb vb sb fm tq ∧ mfr M M1 mo ad) (gw_I K) (gw_A K)) args s 0 0 (gw_A K)) (F0 m 29 ls []) := by
    intro z9
    induction z9 with
    | zero =>
      intro i hg0 hm
      exact absurd hm (by omega)
    | succ z9 ih =>
      intro i hg0 hm Mi hMi H locs hG ls hl
      rw [hMi] at hG
      refine lv_iload hx hb dX3_size_29 (lv_at hl 0 rfl) ?_
      refine lv_bipush (v := nI 16) hx hb dX3_size_31 (by decide) ?_
      refine gw_icmp_ge hx hb (by omega) (by omega) (tgt := 65) dX3_size_33 (by decide) (fun hc => ?_) (fun hc => ?_)
      · have e6 : i = 16 := by omega
        refine lv_iload_n hx hb dX3_size_65 rfl (lv_at hl 1 rfl) ?_
        exact gw_iret hx hb hr hlocks hG hT (by omega) (by omega) dX3_size_66 ⟨by rw [e6], ⟨p0_b, p_162_o, p_162_0, p_162_1, p_162_2, p_162_3, p_162_4, p0_ne⟩, fr_161⟩
      · refine lv_iload_n hx hb dX3_size_36 rfl (lv_at hl 1 rfl) ?_
        refine lv_aload_n hx hb dX3_size_37 rfl (lv_at hl 2 rfl) ?_
        refine lv_iload_n hx hb dX3_size_38 rfl (lv_at hl 3 rfl) ?_
        refine lv_bipush (v := nI 16) hx hb dX3_size_39 (by decide) ?_
        refine lv_iload_n hx hb dX3_size_41 rfl (lv_at hl 4 rfl) ?_
        refine gw_imul hx hb dX3_size_42 ?_
        refine lv_iload hx hb dX3_size_43 (lv_at hl 0 rfl) ?_
        refine gw_iadd hx hb dX3_size_45 ?_
        have hm_164 : md K M_158 mo ad (nI 0) nn kk tb vb sb fm tq := ⟨p0_b, p_162_o, p_162_0, p_162_1, p_162_2, p_162_3, p_162_4, p0_ne⟩
        refine gw_calli (va_runV (As := [.int (nI rk), .int (nI ((16 * ks) + i))]) (rest := [.int (nI (msz tb rk ks i))]) ⟨hx, hb, hml, hown, hts⟩ (c_many l K M_158 mo ad _ _ _ _ _ _ _ _ rk (16 * ks + i) hm_164 (by omega) (by omega)) (cwV 2 hts gX3_size_X3_many rfl rfl rfl (by decide +kernel) ⟨Nat.le_of_ble_eq_true rfl, Nat.le_of_ble_eq_true rfl⟩) (gw_preV hG hT p_162_o rfl) rfl rfl hl.1 rfl (lv_room (Nat.le_of_ble_eq_true rfl)) dX3_size_46 ⟨Nat.le_of_ble_eq_true rfl, Nat.le_of_ble_eq_true rfl⟩) hG (fun r_165 M_166 H locs hw hG => ?_)
        rw [hw.1] at hG
        refine gw_as hw.2 ?_
        have hl9 := mny_le tb (414 * rk + 6 + 6 * (16 * ks + i)) 6
        refine lv_if_le hx hb (tgt := 56) dX3_size_49 (by decide) (fun hz => ?_) (fun hz => ?_)
        · refine lv_iconst (v := nI 0) hx hb dX3_size_56 (by decide) ?_
          refine gw_iadd hx hb dX3_size_57 ?_
          have e9 : msz tb rk ks i + 0 = msz tb rk ks (i + 1) := by show _ = msz tb rk ks i + (if mny tb (414 * rk + 6 + 6 * (16 * ks + i)) 6 = 0 then 0 else 1); rw [if_pos ((nI_le0 (by omega)).mp hz)]
          rw [e9]
          refine lv_istore_n (lv' := [(3, .int (nI (msz tb rk ks (i + 1)))), (4, .int (nI i)), (0, .ref mo), (1, .int (nI rk)), (2, .int (nI ks))]) hx hb dX3_size_58 rfl hl (by decide) rfl (fun ls hl => ?_)
          refine lv_iinc (v := nI (i + 1)) (lv' := [(4, .int (nI (i + 1))), (3, .int (nI (msz tb rk ks (i + 1)))), (0, .ref mo), (1, .int (nI rk)), (2, .int (nI ks))]) hx hb dX3_size_59 hl (k := 1) rfl (gw_inc _) (by decide) rfl (fun ls hl => ?_)
          refine lv_goto (tgt := 29) hx hb dX3_size_62 (by decide) ?_
          exact ih (i + 1) (by omega) (by omega) _ rfl _ _ hG ls (lv_sub hl [0, 1, 2, 3, 4] rfl)
        · refine lv_iconst (v := nI 1) hx hb dX3_size_52 (by decide) ?_
          refine lv_goto (tgt := 57) hx hb dX3_size_53 (by decide) ?_
          refine gw_iadd hx hb dX3_size_57 ?_
          have e9 : msz tb rk ks i + 1 = msz tb rk ks (i + 1) := by show _ = msz tb rk ks i + (if mny tb (414 * rk + 6 + 6 * (16 * ks + i)) 6 = 0 then 0 else 1); rw [if_neg (fun z => hz ((nI_le0 (by omega)).mpr z))]
          rw [e9]
          refine lv_istore_n (lv' := [(3, .int (nI (msz tb rk ks (i + 1)))), (4, .int (nI i)), (0, .ref mo), (1, .int (nI rk)), (2, .int (nI ks))]) hx hb dX3_size_58 rfl hl (by decide) rfl (fun ls hl => ?_)
          refine lv_iinc (v := nI (i + 1)) (lv' := [(4, .int (nI (i + 1))), (3, .int (nI (msz tb rk ks (i + 1)))), (0, .ref mo), (1, .int (nI rk)), (2, .int (nI ks))]) hx hb dX3_size_59 hl (k := 1) rfl (gw_inc _) (by decide) rfl (fun ls hl => ?_)
          refine lv_goto (tgt := 29) hx hb dX3_size_62 (by decide) ?_
          exact ih (i + 1) (by omega) (by omega) _ rfl _ _ hG ls (lv_sub hl [0, 1, 2, 3, 4] rfl)
  exact hloop 17 0 (by omega) (by omega) _ rfl _ _ hG ls (lv_sub hl [0, 1, 2, 3, 4] rfl)

set_option maxHeartbeats 4000000 in
set_option maxRecDepth 100000 in
/-- m_clearF -/
theorem m_clearF (l : Launch) (K : gw_C) (M : gw_M) (mo : Nat) (ad : Nat → Nat) (cd : Int32) (nn kk : Nat) (tb vb : Nat → Int32) (sb : Nat → Int64) (fm tq : Nat → Int32) (rk ks : Nat) (F : Nat → (Nat → Int32) × Nat)  (hm : md K M mo ad cd nn kk tb vb sb fm tq) (hrk : rk < nn) (hks : ks < 4) (hF0 : F 0 = (tb, 0)) (hFs : ∀ i, F (i + 1) = (mclr (F i).1 (414 * rk + 6 + 6 * (16 * ks + i)) 6, (F i).2 + (if mny (F i).1 (414 * rk + 6 + 6 * (16 * ks + i)) 6 = 0 then 0 else 1))) : Met l yX3_clear wsX3_clear ({ frames := 6, cells := 0, slots := 0, locals := 160 } : Room) (va_Pc [.ref mo, .int (nI rk), .int (nI ks)] (gw_I K M)) (va_Qi (fun r M1 => r = nI (F 16).2 ∧ md K M1 mo ad (nI 0) nn kk ((F 16).1) vb sb fm tq ∧ mfr M M1 mo ad) (gw_I K) (gw_A K)) 0 0 (gw_A K) := by
  refine Met.ofW (cc := cX3_clear) (maxL := 5) (ret := (some .int)) (by decide) rfl ?_
  intro p e s m args below meth c s₁ B hml hv
  obtain ⟨hav, hI⟩ := hv
  have hx := B.exec
  have hb := B.bytes
  have hr := B.returns
  have hts := atoms_spec (ws := wsX3_clear) B.pre
  have hown : s.vm.findClass RX3 = some m.cls := findClass_of_methodNamed B.named
  have hlocks : meth.locks = false := B.notSynchronized
  have hT := hI.2.2
  have hK := hT.K
  have hG := hI.B
  have hf7 := hts (.fieldLink RX3 7 "DotGossipModel" "replicas" "I") (by decide +kernel)
  have hf14 := hts (.fieldLink RX3 14 "DotGossipModel" "table" "[I") (by decide +kernel)
  have hf31 := hts (.fieldLink RX3 31 "DotGossipModel" "code" "I") (by decide +kernel)
  have hinX3 : ∀ w ∈ wsX30, w ∈ wsX3_clear := by decide +kernel
  have hE : entryFrame m args 5 = entryFrame m ([.ref mo, .int (nI rk), .int (nI ks)] : List Value).toArray 5 := by rw [hav]
  rw [hE]
  have hl := lv_entry ([.ref mo, .int (nI rk), .int (nI ks)]) (n := 5) (Nat.le_of_ble_eq_true rfl)
  rw [lg_entry_eq]
  generalize (lg_sl ([.ref mo, .int (nI rk), .int (nI ks)]) ++ List.replicate (5 - (lg_sl ([.ref mo, .int (nI rk), .int (nI ks)])).length) Slot.unset).toArray = ls at hl ⊢
  have hl : lv_has ls 5 [(0, .ref mo), (1, .int (nI rk)), (2, .int (nI ks))] := hl
  obtain ⟨p0_b, p0_o, p0_0, p0_1, p0_2, p0_3, p0_4, p0_ne⟩ := id hm
  have ne_o0 : mo ≠ ad 0 := gw_io p0_o p0_0
  have ne_o1 : mo ≠ ad 1 := gw_io p0_o p0_1
  have ne_o2 : mo ≠ ad 2 := gw_io p0_o p0_2
  have ne_o3 : mo ≠ ad 3 := gw_io p0_o p0_3
  have ne_o4 : mo ≠ ad 4 := gw_io p0_o p0_4
  have hn6 := p0_b.1
  refine lv_aload_n hx hb dX3_clear_0 rfl (lv_at hl 0 rfl) ?_
  refine lv_aload_n hx hb dX3_clear_1 rfl (lv_at hl 0 rfl) ?_
  refine lv_iload_n hx hb dX3_clear_2 rfl (lv_at hl 1 rfl) ?_
  refine lv_iload_n hx hb dX3_clear_3 rfl (lv_at hl 2 rfl) ?_
  refine lv_iconst (v := nI 0) hx hb dX3_clear_4 (by decide) ?_
  refine gw_calli (va_runV (As := [.int (nI rk), .int (nI ks), .int (nI 0)]) (rest := [.ref mo]) ⟨hx, hb, hml, hown, hts⟩ (c_isEl l K M mo ad _ _ _ _ _ _ _ _ (nI rk) (nI ks) (nI 0) hm) (cwV 3 hts gX3_clear_X3_isElement rfl rfl rfl (by decide +kernel) ⟨Nat.le_of_ble_eq_true rfl, Nat.le_of_ble_eq_true rfl⟩) (gw_preV hG hT p0_o rfl) rfl rfl hl.1 rfl (lv_room (Nat.le_of_ble_eq_true rfl)) dX3_clear_5 ⟨Nat.le_of_ble_eq_true rfl, Nat.le_of_ble_eq_true rfl⟩) hG (fun r_167 M_168 H locs hw hG => ?_)
  rw [hw.1] at hG
  refine gw_as (tst_y hw.2 ⟨⟨rk, hrk, rfl⟩, ⟨ks, hks, rfl⟩, ⟨0, by decide, rfl⟩⟩) ?_
  refine lv_if_eq hx hb (tgt := 15) dX3_clear_8 (by decide) (fun hc => absurd hc (by decide)) (fun hc => ?_)
  refine lv_iconst (v := nI 0) hx hb dX3_clear_11 (by decide) ?_
  refine lv_goto (tgt := 16) hx hb dX3_clear_12 (by decide) ?_
  refine gw_calli (va_runV (As := [.int (nI 0)]) (rest := []) ⟨hx, hb, hml, hown, hts⟩ (c_ref0 l K M mo ad _ _ _ _ _ _ _ _ 0 hm) (cwV 1 hts gX3_clear_X3_refuses rfl rfl rfl (by decide +kernel) ⟨Nat.le_of_ble_eq_true rfl, Nat.le_of_ble_eq_true rfl⟩) (gw_preV hG hT p0_o rfl) rfl rfl hl.1 rfl (lv_room (Nat.le_of_ble_eq_true rfl)) dX3_clear_16 ⟨Nat.le_of_ble_eq_true rfl, Nat.le_of_ble_eq_true rfl⟩) hG (fun r_169 M_170 H locs hw hG => ?_)
  rw [hw.1]
  obtain ⟨hm_171, fr_172⟩ := hw.2
  have fr_173 : mfr M M_170 mo ad := mfr.tr mfr.rf fr_172
  obtain ⟨p_174_b, p_174_o, p_174_0, p_174_1, p_174_2, p_174_3, p_174_4, p_174_ne⟩ := id hm_171
  refine lv_if_eq hx hb (tgt := 24) dX3_clear_19 (by decide) (fun hc => ?_) (fun hc => absurd (by decide) hc)
  refine lv_iconst (v := nI 0) hx hb dX3_clear_24 (by decide) ?_
  refine lv_istore_n (lv' := [(3, .int (nI 0)), (0, .ref mo), (1, .int (nI rk)), (2, .int (nI ks))]) hx hb dX3_clear_25 rfl hl (by decide) rfl (fun ls hl => ?_)
  refine lv_bipush (v := nI 16) hx hb dX3_clear_26 (by decide) ?_
  refine lv_iload_n hx hb dX3_clear_28 rfl (lv_at hl 3 rfl) ?_
  refine gw_imul hx hb dX3_clear_29 ?_
  refine lv_istore (lv' := [(4, .int (nI (16 * ks))), (3, .int (nI 0)), (0, .ref mo), (1, .int (nI rk)), (2, .int (nI ks))]) hx hb dX3_clear_30 hl (by decide) rfl (fun ls hl => ?_)
  have hm_175 : md K M_170 mo ad (nI 0) nn kk tb vb sb fm tq := ⟨p0_b, p_174_o, p_174_0, p_174_1, p_174_2, p_174_3, p_174_4, p0_ne⟩
  have hloop : ∀ (z9 : Nat) (i : Nat), i ≤ 16 → 16 + 1 ≤ i + z9 → ∀ (Mi : gw_M), (md K Mi mo ad (nI 0) nn kk ((F i).1) vb sb fm tq ∧ mfr M Mi mo ad) → ∀ (H : Heap) (locs : List Loc), gw_B K Mi s.heap H locs → ∀ (ls : Array Slot), lv_has ls 5 [(4, .int (nI (16 * ks + i))), (3, .int (nI ((F i).2))), (0, .ref mo), (1, .int (nI rk)), (2, .int (nI ks))] → W p l e ({ frames := 6, cells := 0, slots := 0, locals := 160 } : Room) s m args below meth c H locs (0) (0) (MQ below (va_Qi (fun r M1 => r = nI (F 16).2 ∧ md K M1 mo ad (nI 0) nn kk ((F 16).1) vb sb fm tq ∧ mfr M M1 mo ad) (gw_I K) (gw_A K)) args s 0 0 (gw_A K)) (F0 m 32 ls []) := by
    intro z9
    induction z9 with
    | zero =>
      intro i hg0 hm
      exact absurd hm (by omega)
    | succ z9 ih =>
      intro i hg0 hm Mi hMi H locs hG ls hl
      obtain ⟨hmi, hfi⟩ := hMi
      obtain ⟨T9, c9, hF9⟩ : ∃ T c, F i = (T, c) := ⟨_, _, rfl⟩
      have hl : lv_has ls 5 [(4, .int (nI (16 * ks + i))), (3, .int (nI c9)), (0, .ref mo), (1, .int (nI rk)), (2, .int (nI ks))] := by rw [hF9] at hl; exact hl
      have hmi : md K Mi mo ad (nI 0) nn kk T9 vb sb fm tq := by rw [hF9] at hmi; exact hmi
      have hs9 := hFs i
      rw [hF9] at hs9
      obtain ⟨p_176_b, p_176_o, p_176_0, p_176_1, p_176_2, p_176_3, p_176_4, p_176_ne⟩ := id hmi
      refine lv_iload hx hb dX3_clear_32 (lv_at hl 0 rfl) ?_
      refine lv_bipush (v := nI 16) hx hb dX3_clear_34 (by decide) ?_
      refine lv_iload_n hx hb dX3_clear_36 rfl (lv_at hl 4 rfl) ?_
      refine gw_imul hx hb dX3_clear_37 ?_
      refine lv_bipush (v := nI 16) hx hb dX3_clear_38 (by decide) ?_
      refine gw_iadd hx hb dX3_clear_40 ?_
      refine gw_icmp_ge hx hb (by omega) (by omega) (tgt := 75) dX3_clear_41 (by decide) (fun hc => ?_) (fun hc => ?_)
      · have e6 : i = 16 := by omega
        rw [e6] at hF9
        refine lv_iload_n hx hb dX3_clear_75 rfl (lv_at hl 1 rfl) ?_
        exact gw_iret hx hb hr hlocks hG hT (by omega) (by omega) dX3_clear_76 ⟨by rw [hF9], by rw [hF9]; exact hmi, hfi⟩
      · refine lv_iload_n hx hb dX3_clear_44 rfl (lv_at hl 1 rfl) ?_
        refine lv_aload_n hx hb dX3_clear_45 rfl (lv_at hl 2 rfl) ?_
        refine lv_iload_n hx hb dX3_clear_46 rfl (lv_at hl 3 rfl) ?_
        refine lv_iload hx hb dX3_clear_47 (lv_at hl 0 rfl) ?_
        have hm_177 : md K Mi mo ad (nI 0) nn kk T9 vb sb fm tq := ⟨p0_b, p_176_o, p_176_0, p_176_1, p_176_2, p_176_3, p_176_4, p0_ne⟩
        refine gw_calli (va_runV (As := [.int (nI rk), .int (nI (16 * ks + i))]) (rest := [.int (nI c9)]) ⟨hx, hb, hml, hown, hts⟩ (c_many l K Mi mo ad _ _ _ _ _ _ _ _ rk (16 * ks + i) hm_177 (by omega) (by omega)) (cwV 2 hts gX3_clear_X3_many rfl rfl rfl (by decide +kernel) ⟨Nat.le_of_ble_eq_true rfl, Nat.le_of_ble_eq_true rfl⟩) (gw_preV hG hT p_176_o rfl) rfl rfl hl.1 rfl (lv_room (Nat.le_of_ble_eq_true rfl)) dX3_clear_49 ⟨Nat.le_of_ble_eq_true rfl, Nat.le_of_ble_eq_true rfl⟩) hG (fun r_178 M_179 H locs hw hG => ?_)
        rw [hw.1] at hG
        refine gw_as hw.2 ?_
        have hl9 := mny_le T9 (414 * rk + 6 + 6 * (16 * ks + i)) 6
        refine lv_if_le hx hb (tgt := 59) dX3_clear_52 (by decide) (fun hz => ?_) (fun hz => ?_)
        · have hs8 : F (i + 1) = (mclr T9 (414 * rk + 6 + 6 * (16 * ks + i)) 6, c9 + 0) := by rw [hs9]; show (_, c9 + (if mny T9 (414 * rk + 6 + 6 * (16 * ks + i)) 6 = 0 then 0 else 1)) = _; rw [if_pos ((nI_le0 (by omega)).mp hz)]
          refine lv_iconst (v := nI 0) hx hb dX3_clear_59 (by decide) ?_
          refine gw_iadd hx hb dX3_clear_60 ?_
          refine lv_istore_n (lv' := [(3, .int (nI (c9 + 0))), (4, .int (nI (16 * ks + i))), (0, .ref mo), (1, .int (nI rk)), (2, .int (nI ks))]) hx hb dX3_clear_61 rfl hl (by decide) rfl (fun ls hl => ?_)
          refine lv_aload_n hx hb dX3_clear_62 rfl (lv_at hl 2 rfl) ?_
          refine lv_iload_n hx hb dX3_clear_63 rfl (lv_at hl 3 rfl) ?_
          refine lv_iload hx hb dX3_clear_64 (lv_at hl 1 rfl) ?_
          have hm_180 : md K Mi mo ad (nI 0) nn kk T9 vb sb fm tq := ⟨p0_b, p_176_o, p_176_0, p_176_1, p_176_2, p_176_3, p_176_4, p0_ne⟩
          refine gw_callv (va_runV (As := [.int (nI rk), .int (nI (16 * ks + i))]) (rest := []) ⟨hx, hb, hml, hown, hts⟩ (c_empties l K Mi mo ad _ _ _ _ _ _ _ _ rk (16 * ks + i) hm_180 (by omega) (by omega)) (cwV 2 hts gX3_clear_X3_empties rfl rfl rfl (by decide +kernel) ⟨Nat.le_of_ble_eq_true rfl, Nat.le_of_ble_eq_true rfl⟩) (gw_preV hG hT p_176_o rfl) rfl rfl hl.1 rfl (lv_room (Nat.le_of_ble_eq_true rfl)) dX3_clear_66 ⟨Nat.le_of_ble_eq_true rfl, Nat.le_of_ble_eq_true rfl⟩) hG (fun M_182 H locs hw hG => ?_)
          obtain ⟨hm_183, fr_184⟩ := hw
          have fr_185 : mfr M M_182 mo ad := mfr.tr hfi fr_184
          obtain ⟨p_186_b, p_186_o, p_186_0, p_186_1, p_186_2, p_186_3, p_186_4, p_186_ne⟩ := id hm_183
          refine lv_iinc (v := nI ((16 * ks + i) + 1)) (lv' := [(4, .int (nI ((16 * ks + i) + 1))), (3, .int (nI (c9 + 0))), (0, .ref mo), (1, .int (nI rk)), (2, .int (nI ks))]) hx hb dX3_clear_69 hl (k := 1) rfl (gw_inc _) (by decide) rfl (fun ls hl => ?_)
          refine lv_goto (tgt := 32) hx hb dX3_clear_72 (by decide) ?_
          exact ih (i + 1) (by omega) (by omega) _ ⟨by rw [hs8]; exact ⟨p0_b, p_186_o, p_186_0, p_186_1, p_186_2, p_186_3, p_186_4, p0_ne⟩, fr_185⟩ _ _ hG ls (by rw [hs8]; exact lv_sub hl [0, 1, 2, 3, 4] rfl)
        · have hs8 : F (i + 1) = (mclr T9 (414 * rk + 6 + 6 * (16 * ks + i)) 6, c9 + 1) := by rw [hs9]; show (_, c9 + (if mny T9 (414 * rk + 6 + 6 * (16 * ks + i)) 6 = 0 then 0 else 1)) = _; rw [if_neg (fun z => hz ((nI_le0 (by omega)).mpr z))]
          refine lv_iconst (v := nI 1) hx hb dX3_clear_55 (by decide) ?_
          refine lv_goto (tgt := 60) hx hb dX3_clear_56 (by decide) ?_
          refine gw_iadd hx hb dX3_clear_60 ?_
          refine lv_istore_n (lv' := [(3, .int (nI (c9 + 1))), (4, .int (nI (16 * ks + i))), (0, .ref mo), (1, .int (nI rk)), (2, .int (nI ks))]) hx hb dX3_clear_61 rfl hl (by decide) rfl (fun ls hl => ?_)
          refine lv_aload_n hx hb dX3_clear_62 rfl (lv_at hl 2 rfl) ?_
          refine lv_iload_n hx hb dX3_clear_63 rfl (lv_at hl 3 rfl) ?_
          refine lv_iload hx hb dX3_clear_64 (lv_at hl 1 rfl) ?_
          have hm_187 : md K Mi mo ad (nI 0) nn kk T9 vb sb fm tq := ⟨p0_b, p_176_o, p_176_0, p_176_1, p_176_2, p_176_3, p_176_4, p0_ne⟩
          refine gw_callv (va_runV (As := [.int (nI rk), .int (nI (16 * ks + i))]) (rest := []) ⟨hx, hb, hml, hown, hts⟩ (c_empties l K Mi mo ad _ _ _ _ _ _ _ _ rk (16 * ks + i) hm_187 (by omega) (by omega)) (cwV 2 hts gX3_clear_X3_empties rfl rfl rfl (by decide +kernel) ⟨Nat.le_of_ble_eq_true rfl, Nat.le_of_ble_eq_true rfl⟩) (gw_preV hG hT p_176_o rfl) rfl rfl hl.1 rfl (lv_room (Nat.le_of_ble_eq_true rfl)) dX3_clear_66 ⟨Nat.le_of_ble_eq_true rfl, Nat.le_of_ble_eq_true rfl⟩) hG (fun M_189 H locs hw hG => ?_)
          obtain ⟨hm_190, fr_191⟩ := hw
          have fr_192 : mfr M M_189 mo ad := mfr.tr hfi fr_191
          obtain ⟨p_193_b, p_193_o, p_193_0, p_193_1, p_193_2, p_193_3, p_193_4, p_193_ne⟩ := id hm_190
          refine lv_iinc (v := nI ((16 * ks + i) + 1)) (lv' := [(4, .int (nI ((16 * ks + i) + 1))), (3, .int (nI (c9 + 1))), (0, .ref mo), (1, .int (nI rk)), (2, .int (nI ks))]) hx hb dX3_clear_69 hl (k := 1) rfl (gw_inc _) (by decide) rfl (fun ls hl => ?_)
          refine lv_goto (tgt := 32) hx hb dX3_clear_72 (by decide) ?_
          exact ih (i + 1) (by omega) (by omega) _ ⟨by rw [hs8]; exact ⟨p0_b, p_193_o, p_193_0, p_193_1, p_193_2, p_193_3, p_193_4, p0_ne⟩, fr_192⟩ _ _ hG ls (by rw [hs8]; exact lv_sub hl [0, 1, 2, 3, 4] rfl)
  exact hloop 17 0 (by omega) (by omega) _ ⟨by rw [hF0]; exact hm_175, fr_173⟩ _ _ hG ls (by rw [hF0]; exact lv_sub hl [0, 1, 2, 3, 4] rfl)

theorem m_clear (l : Launch) (K : gw_C) (M : gw_M) (mo : Nat) (ad : Nat → Nat) (cd : Int32) (nn kk : Nat) (tb vb : Nat → Int32) (sb : Nat → Int64) (fm tq : Nat → Int32) (rk ks : Nat) (hm : md K M mo ad cd nn kk tb vb sb fm tq) (hrk : rk < nn) (hks : ks < 4) : Met l yX3_clear wsX3_clear ({ frames := 6, cells := 0, slots := 0, locals := 160 } : Room) (va_Pc [.ref mo, .int (nI rk), .int (nI ks)] (gw_I K M)) (va_Qi (fun r M1 => r = nI (mcl tb rk ks 16).2 ∧ md K M1 mo ad (nI 0) nn kk (mcl tb rk ks 16).1 vb sb fm tq ∧ mfr M M1 mo ad) (gw_I K) (gw_A K)) 0 0 (gw_A K) :=
  m_clearF l K M mo ad cd nn kk tb vb sb fm tq rk ks (mcl tb rk ks) hm hrk hks rfl (fun _ => rfl)

set_option maxHeartbeats 4000000 in
set_option maxRecDepth 100000 in
/-- m_values -/
theorem m_values (l : Launch) (K : gw_C) (M : gw_M) (mo : Nat) (ad : Nat → Nat) (cd : Int32) (nn kk : Nat) (tb vb : Nat → Int32) (sb : Nat → Int64) (fm tq : Nat → Int32) (rk ks : Nat)  (hm : md K M mo ad cd nn kk tb vb sb fm tq) (hrk : rk < nn) (hks : ks < 4)  : Met l yX3_values wsX3_values ({ frames := 6, cells := 0, slots := 0, locals := 160 } : Room) (va_Pc [.ref mo, .int (nI rk), .int (nI ks)] (gw_I K M)) (va_Qi (fun r M1 => r = nI (mny tb (414 * rk + 6 + 6 * (64 + ks)) 6) ∧ md K M1 mo ad (nI 0) nn kk tb vb sb fm tq ∧ mfr M M1 mo ad) (gw_I K) (gw_A K)) 0 0 (gw_A K) := by
  refine Met.ofW (cc := cX3_values) (maxL := 3) (ret := (some .int)) (by decide) rfl ?_
  intro p e s m args below meth c s₁ B hml hv
  obtain ⟨hav, hI⟩ := hv
  have hx := B.exec
  have hb := B.bytes
  have hr := B.returns
  have hts := atoms_spec (ws := wsX3_values) B.pre
  have hown : s.vm.findClass RX3 = some m.cls := findClass_of_methodNamed B.named
  have hlocks : meth.locks = false := B.notSynchronized
  have hT := hI.2.2
  have hK := hT.K
  have hG := hI.B
  have hf7 := hts (.fieldLink RX3 7 "DotGossipModel" "replicas" "I") (by decide +kernel)
  have hf14 := hts (.fieldLink RX3 14 "DotGossipModel" "table" "[I") (by decide +kernel)
  have hf31 := hts (.fieldLink RX3 31 "DotGossipModel" "code" "I") (by decide +kernel)
  have hinX3 : ∀ w ∈ wsX30, w ∈ wsX3_values := by decide +kernel
  have hE : entryFrame m args 3 = entryFrame m ([.ref mo, .int (nI rk), .int (nI ks)] : List Value).toArray 3 := by rw [hav]
  rw [hE]
  have hl := lv_entry ([.ref mo, .int (nI rk), .int (nI ks)]) (n := 3) (Nat.le_of_ble_eq_true rfl)
  rw [lg_entry_eq]
  generalize (lg_sl ([.ref mo, .int (nI rk), .int (nI ks)]) ++ List.replicate (3 - (lg_sl ([.ref mo, .int (nI rk), .int (nI ks)])).length) Slot.unset).toArray = ls at hl ⊢
  have hl : lv_has ls 3 [(0, .ref mo), (1, .int (nI rk)), (2, .int (nI ks))] := hl
  obtain ⟨p0_b, p0_o, p0_0, p0_1, p0_2, p0_3, p0_4, p0_ne⟩ := id hm
  have ne_o0 : mo ≠ ad 0 := gw_io p0_o p0_0
  have ne_o1 : mo ≠ ad 1 := gw_io p0_o p0_1
  have ne_o2 : mo ≠ ad 2 := gw_io p0_o p0_2
  have ne_o3 : mo ≠ ad 3 := gw_io p0_o p0_3
  have ne_o4 : mo ≠ ad 4 := gw_io p0_o p0_4
  have hn6 := p0_b.1
  refine lv_aload_n hx hb dX3_values_0 rfl (lv_at hl 0 rfl) ?_
  refine lv_aload_n hx hb dX3_values_1 rfl (lv_at hl 0 rfl) ?_
  refine lv_iload_n hx hb dX3_values_2 rfl (lv_at hl 1 rfl) ?_
  refine lv_iload_n hx hb dX3_values_3 rfl (lv_at hl 2 rfl) ?_
  refine gw_calli (va_runV (As := [.int (nI rk), .int (nI ks)]) (rest := [.ref mo]) ⟨hx, hb, hml, hown, hts⟩ (c_isReg l K M mo ad _ _ _ _ _ _ _ _ (nI rk) (nI ks) hm) (cwV 2 hts gX3_values_X3_isRegister rfl rfl rfl (by decide +kernel) ⟨Nat.le_of_ble_eq_true rfl, Nat.le_of_ble_eq_true rfl⟩) (gw_preV hG hT p0_o rfl) rfl rfl hl.1 rfl (lv_room (Nat.le_of_ble_eq_true rfl)) dX3_values_4 ⟨Nat.le_of_ble_eq_true rfl, Nat.le_of_ble_eq_true rfl⟩) hG (fun r_194 M_195 H locs hw hG => ?_)
  rw [hw.1] at hG
  refine gw_as (tst_y hw.2 ⟨⟨rk, hrk, rfl⟩, ⟨ks, hks, rfl⟩⟩) ?_
  refine lv_if_eq hx hb (tgt := 14) dX3_values_7 (by decide) (fun hc => absurd hc (by decide)) (fun hc => ?_)
  refine lv_iconst (v := nI 0) hx hb dX3_values_10 (by decide) ?_
  refine lv_goto (tgt := 15) hx hb dX3_values_11 (by decide) ?_
  refine gw_calli (va_runV (As := [.int (nI 0)]) (rest := []) ⟨hx, hb, hml, hown, hts⟩ (c_ref0 l K M mo ad _ _ _ _ _ _ _ _ 0 hm) (cwV 1 hts gX3_values_X3_refuses rfl rfl rfl (by decide +kernel) ⟨Nat.le_of_ble_eq_true rfl, Nat.le_of_ble_eq_true rfl⟩) (gw_preV hG hT p0_o rfl) rfl rfl hl.1 rfl (lv_room (Nat.le_of_ble_eq_true rfl)) dX3_values_15 ⟨Nat.le_of_ble_eq_true rfl, Nat.le_of_ble_eq_true rfl⟩) hG (fun r_196 M_197 H locs hw hG => ?_)
  rw [hw.1]
  obtain ⟨hm_198, fr_199⟩ := hw.2
  have fr_200 : mfr M M_197 mo ad := mfr.tr mfr.rf fr_199
  obtain ⟨p_201_b, p_201_o, p_201_0, p_201_1, p_201_2, p_201_3, p_201_4, p_201_ne⟩ := id hm_198
  refine lv_if_eq hx hb (tgt := 25) dX3_values_18 (by decide) (fun hc => ?_) (fun hc => absurd (by decide) hc)
  refine lv_aload_n hx hb dX3_values_25 rfl (lv_at hl 0 rfl) ?_
  refine lv_iload_n hx hb dX3_values_26 rfl (lv_at hl 1 rfl) ?_
  refine lv_bipush (v := nI 64) hx hb dX3_values_27 (by decide) ?_
  refine lv_iload_n hx hb dX3_values_29 rfl (lv_at hl 2 rfl) ?_
  refine gw_iadd hx hb dX3_values_30 ?_
  have hm_202 : md K M_197 mo ad (nI 0) nn kk tb vb sb fm tq := ⟨p0_b, p_201_o, p_201_0, p_201_1, p_201_2, p_201_3, p_201_4, p0_ne⟩
  refine gw_calli (va_runV (As := [.int (nI rk), .int (nI (64 + ks))]) (rest := []) ⟨hx, hb, hml, hown, hts⟩ (c_many l K M_197 mo ad _ _ _ _ _ _ _ _ rk (64 + ks) hm_202 (by omega) (by omega)) (cwV 2 hts gX3_values_X3_many rfl rfl rfl (by decide +kernel) ⟨Nat.le_of_ble_eq_true rfl, Nat.le_of_ble_eq_true rfl⟩) (gw_preV hG hT p_201_o rfl) rfl rfl hl.1 rfl (lv_room (Nat.le_of_ble_eq_true rfl)) dX3_values_31 ⟨Nat.le_of_ble_eq_true rfl, Nat.le_of_ble_eq_true rfl⟩) hG (fun r_203 M_204 H locs hw hG => ?_)
  rw [hw.1] at hG
  refine gw_as hw.2 ?_
  exact gw_iret hx hb hr hlocks hG hT (by omega) (by omega) dX3_values_34 ⟨rfl, ⟨p0_b, p_201_o, p_201_0, p_201_1, p_201_2, p_201_3, p_201_4, p0_ne⟩, fr_200⟩

set_option maxHeartbeats 4000000 in
set_option maxRecDepth 100000 in
/-- m_write -/
theorem m_write (l : Launch) (K : gw_C) (M : gw_M) (mo : Nat) (ad : Nat → Nat) (cd : Int32) (nn kk : Nat) (tb vb : Nat → Int32) (sb : Nat → Int64) (fm tq : Nat → Int32) (rk ks : Nat) (v9 : Int32)  (hm : md K M mo ad cd nn kk tb vb sb fm tq) (hrk : rk < nn) (hks : ks < 4)  : Met l yX3_write wsX3_write ({ frames := 6, cells := 0, slots := 0, locals := 160 } : Room) (va_Pc [.ref mo, .int (nI rk), .int (nI ks), .int v9] (gw_I K M)) (va_Qi (fun r M1 => r = nI (mny tb (414 * rk + 6 + 6 * (64 + ks)) 6) ∧ md K M1 mo ad (nI 0) nn kk (mnew tb rk (64 + ks)) (upd vb (24 * rk + 6 * ks + rk) v9) sb fm tq ∧ mfr M M1 mo ad) (gw_I K) (gw_A K)) 0 0 (gw_A K) := by
  refine Met.ofW (cc := cX3_write) (maxL := 5) (ret := (some .int)) (by decide) rfl ?_
  intro p e s m args below meth c s₁ B hml hv
  obtain ⟨hav, hI⟩ := hv
  have hx := B.exec
  have hb := B.bytes
  have hr := B.returns
  have hts := atoms_spec (ws := wsX3_write) B.pre
  have hown : s.vm.findClass RX3 = some m.cls := findClass_of_methodNamed B.named
  have hlocks : meth.locks = false := B.notSynchronized
  have hT := hI.2.2
  have hK := hT.K
  have hG := hI.B
  have hf7 := hts (.fieldLink RX3 7 "DotGossipModel" "replicas" "I") (by decide +kernel)
  have hf14 := hts (.fieldLink RX3 14 "DotGossipModel" "table" "[I") (by decide +kernel)
  have hf18 := hts (.fieldLink RX3 18 "DotGossipModel" "values" "[I") (by decide +kernel)
  have hf31 := hts (.fieldLink RX3 31 "DotGossipModel" "code" "I") (by decide +kernel)
  have hinX3 : ∀ w ∈ wsX30, w ∈ wsX3_write := by decide +kernel
  have hE : entryFrame m args 5 = entryFrame m ([.ref mo, .int (nI rk), .int (nI ks), .int v9] : List Value).toArray 5 := by rw [hav]
  rw [hE]
  have hl := lv_entry ([.ref mo, .int (nI rk), .int (nI ks), .int v9]) (n := 5) (Nat.le_of_ble_eq_true rfl)
  rw [lg_entry_eq]
  generalize (lg_sl ([.ref mo, .int (nI rk), .int (nI ks), .int v9]) ++ List.replicate (5 - (lg_sl ([.ref mo, .int (nI rk), .int (nI ks), .int v9])).length) Slot.unset).toArray = ls at hl ⊢
  have hl : lv_has ls 5 [(0, .ref mo), (1, .int (nI rk)), (2, .int (nI ks)), (3, .int v9)] := hl
  obtain ⟨p0_b, p0_o, p0_0, p0_1, p0_2, p0_3, p0_4, p0_ne⟩ := id hm
  have ne_o0 : mo ≠ ad 0 := gw_io p0_o p0_0
  have ne_o1 : mo ≠ ad 1 := gw_io p0_o p0_1
  have ne_o2 : mo ≠ ad 2 := gw_io p0_o p0_2
  have ne_o3 : mo ≠ ad 3 := gw_io p0_o p0_3
  have ne_o4 : mo ≠ ad 4 := gw_io p0_o p0_4
  have hn6 := p0_b.1
  refine lv_aload_n hx hb dX3_write_0 rfl (lv_at hl 0 rfl) ?_
  refine lv_aload_n hx hb dX3_write_1 rfl (lv_at hl 0 rfl) ?_
  refine lv_iload_n hx hb dX3_write_2 rfl (lv_at hl 1 rfl) ?_
  refine lv_iload_n hx hb dX3_write_3 rfl (lv_at hl 2 rfl) ?_
  refine gw_calli (va_runV (As := [.int (nI rk), .int (nI ks)]) (rest := [.ref mo]) ⟨hx, hb, hml, hown, hts⟩ (c_isReg l K M mo ad _ _ _ _ _ _ _ _ (nI rk) (nI ks) hm) (cwV 2 hts gX3_write_X3_isRegister rfl rfl rfl (by decide +kernel) ⟨Nat.le_of_ble_eq_true rfl, Nat.le_of_ble_eq_true rfl⟩) (gw_preV hG hT p0_o rfl) rfl rfl hl.1 rfl (lv_room (Nat.le_of_ble_eq_true rfl)) dX3_write_4 ⟨Nat.le_of_ble_eq_true rfl, Nat.le_of_ble_eq_true rfl⟩) hG (fun r_205 M_206 H locs hw hG => ?_)
  rw [hw.1] at hG
  refine gw_as (tst_y hw.2 ⟨⟨rk, hrk, rfl⟩, ⟨ks, hks, rfl⟩⟩) ?_
  refine lv_if_eq hx hb (tgt := 14) dX3_write_7 (by decide) (fun hc => absurd hc (by decide)) (fun hc => ?_)
  refine lv_iconst (v := nI 0) hx hb dX3_write_10 (by decide) ?_
  refine lv_goto (tgt := 15) hx hb dX3_write_11 (by decide) ?_
  refine gw_calli (va_runV (As := [.int (nI 0)]) (rest := []) ⟨hx, hb, hml, hown, hts⟩ (c_ref0 l K M mo ad _ _ _ _ _ _ _ _ 0 hm) (cwV 1 hts gX3_write_X3_refuses rfl rfl rfl (by decide +kernel) ⟨Nat.le_of_ble_eq_true rfl, Nat.le_of_ble_eq_true rfl⟩) (gw_preV hG hT p0_o rfl) rfl rfl hl.1 rfl (lv_room (Nat.le_of_ble_eq_true rfl)) dX3_write_15 ⟨Nat.le_of_ble_eq_true rfl, Nat.le_of_ble_eq_true rfl⟩) hG (fun r_207 M_208 H locs hw hG => ?_)
  rw [hw.1]
  obtain ⟨hm_209, fr_210⟩ := hw.2
  have fr_211 : mfr M M_208 mo ad := mfr.tr mfr.rf fr_210
  obtain ⟨p_212_b, p_212_o, p_212_0, p_212_1, p_212_2, p_212_3, p_212_4, p_212_ne⟩ := id hm_209
  refine lv_if_eq hx hb (tgt := 23) dX3_write_18 (by decide) (fun hc => ?_) (fun hc => absurd (by decide) hc)
  refine lv_aload_n hx hb dX3_write_23 rfl (lv_at hl 0 rfl) ?_
  refine lv_iload_n hx hb dX3_write_24 rfl (lv_at hl 1 rfl) ?_
  refine lv_bipush (v := nI 64) hx hb dX3_write_25 (by decide) ?_
  refine lv_iload_n hx hb dX3_write_27 rfl (lv_at hl 2 rfl) ?_
  refine gw_iadd hx hb dX3_write_28 ?_
  have hm_213 : md K M_208 mo ad (nI 0) nn kk tb vb sb fm tq := ⟨p0_b, p_212_o, p_212_0, p_212_1, p_212_2, p_212_3, p_212_4, p0_ne⟩
  refine gw_calli (va_runV (As := [.int (nI rk), .int (nI (64 + ks))]) (rest := []) ⟨hx, hb, hml, hown, hts⟩ (c_many l K M_208 mo ad _ _ _ _ _ _ _ _ rk (64 + ks) hm_213 (by omega) (by omega)) (cwV 2 hts gX3_write_X3_many rfl rfl rfl (by decide +kernel) ⟨Nat.le_of_ble_eq_true rfl, Nat.le_of_ble_eq_true rfl⟩) (gw_preV hG hT p_212_o rfl) rfl rfl hl.1 rfl (lv_room (Nat.le_of_ble_eq_true rfl)) dX3_write_29 ⟨Nat.le_of_ble_eq_true rfl, Nat.le_of_ble_eq_true rfl⟩) hG (fun r_214 M_215 H locs hw hG => ?_)
  rw [hw.1] at hG
  refine gw_as hw.2 ?_
  refine lv_istore (lv' := [(4, .int (nI (mny tb (414 * rk + 6 + 6 * (64 + ks)) 6))), (0, .ref mo), (1, .int (nI rk)), (2, .int (nI ks)), (3, .int v9)]) hx hb dX3_write_32 hl (by decide) rfl (fun ls hl => ?_)
  refine lv_aload_n hx hb dX3_write_34 rfl (lv_at hl 1 rfl) ?_
  refine lv_iload_n hx hb dX3_write_35 rfl (lv_at hl 2 rfl) ?_
  refine lv_bipush (v := nI 64) hx hb dX3_write_36 (by decide) ?_
  refine lv_iload_n hx hb dX3_write_38 rfl (lv_at hl 3 rfl) ?_
  refine gw_iadd hx hb dX3_write_39 ?_
  have hm_216 : md K M_208 mo ad (nI 0) nn kk tb vb sb fm tq := ⟨p0_b, p_212_o, p_212_0, p_212_1, p_212_2, p_212_3, p_212_4, p0_ne⟩
  refine gw_calli (va_runV (As := [.int (nI rk), .int (nI (64 + ks))]) (rest := []) ⟨hx, hb, hml, hown, hts⟩ (c_news l K M_208 mo ad _ _ _ _ _ _ _ _ rk (64 + ks) hm_216 (by omega) (by omega)) (cwV 2 hts gX3_write_X3_news rfl rfl rfl (by decide +kernel) ⟨Nat.le_of_ble_eq_true rfl, Nat.le_of_ble_eq_true rfl⟩) (gw_preV hG hT p_212_o rfl) rfl rfl hl.1 rfl (lv_room (Nat.le_of_ble_eq_true rfl)) dX3_write_40 ⟨Nat.le_of_ble_eq_true rfl, Nat.le_of_ble_eq_true rfl⟩) hG (fun r_217 M_218 H locs hw hG => ?_)
  obtain ⟨hm_219, fr_220⟩ := hw.2
  have fr_221 : mfr M M_218 mo ad := mfr.tr fr_211 fr_220
  obtain ⟨p_222_b, p_222_o, p_222_0, p_222_1, p_222_2, p_222_3, p_222_4, p_222_ne⟩ := id hm_219
  refine lv_pop hx hb dX3_write_43 rfl ?_
  refine lv_aload_n hx hb dX3_write_44 rfl (lv_at hl 1 rfl) ?_
  refine gw_get (ci := 4) (C := RX3) (T := TX3) (N := 8) hx hb hts hinX3 hown hK hG p_222_o rfl 4 (by decide) hf18 (fun _ h9 => h9) rfl dX3_write_45 ?_
  refine lv_bipush (v := nI 24) hx hb dX3_write_48 (by decide) ?_
  refine lv_iload_n hx hb dX3_write_50 rfl (lv_at hl 2 rfl) ?_
  refine gw_imul hx hb dX3_write_51 ?_
  refine lv_bipush (v := nI 6) hx hb dX3_write_52 (by decide) ?_
  refine lv_iload_n hx hb dX3_write_54 rfl (lv_at hl 3 rfl) ?_
  refine gw_imul hx hb dX3_write_55 ?_
  refine gw_iadd hx hb dX3_write_56 ?_
  refine lv_iload_n hx hb dX3_write_57 rfl (lv_at hl 2 rfl) ?_
  refine gw_iadd hx hb dX3_write_58 ?_
  refine lv_iload_n hx hb dX3_write_59 rfl (lv_at hl 4 rfl) ?_
  refine gw_iast_n hx hb hK hG p_222_1 0 rfl (by omega) (by omega) dX3_write_60 (fun H locs hG => ?_)
  obtain ⟨M_223, hM_224⟩ : ∃ M1 : gw_M, M1 = gw_up M_218 (ad 1) (.inl (K.2.1 0, 2544, .inl (upd vb (((24 * rk) + (6 * ks)) + rk) v9))) := ⟨_, rfl⟩
  have hG : gw_B K M_223 s.heap H locs := by rw [hM_224]; exact hG
  have hc_225 := (congrFun hM_224 mo).trans (gw_k ne_o1 p_222_o)
  have hc_226 := (congrFun hM_224 (ad 0)).trans (gw_k (fun z => absurd (p0_ne 0 1 (by decide) (by decide) z) (by decide)) p_222_0)
  have hc_227 : M_223 (ad 1) = some (.inl (K.2.1 0, 2544, .inl (upd vb (((24 * rk) + (6 * ks)) + rk) v9))) := (congrFun hM_224 _).trans gw_s
  have hc_228 := (congrFun hM_224 (ad 2)).trans (gw_k (fun z => absurd (p0_ne 2 1 (by decide) (by decide) z) (by decide)) p_222_2)
  have hc_229 := (congrFun hM_224 (ad 3)).trans (gw_k (fun z => absurd (p0_ne 3 1 (by decide) (by decide) z) (by decide)) p_222_3)
  have hc_230 := (congrFun hM_224 (ad 4)).trans (gw_k (fun z => absurd (p0_ne 4 1 (by decide) (by decide) z) (by decide)) p_222_4)
  have fr_231 : mfr M M_223 mo ad := fun q h1 h2 => ((congrFun hM_224 q).trans (gw_n (h2 1 (by decide)))).trans (fr_221 q h1 h2)
  refine lv_iload hx hb dX3_write_61 (lv_at hl 0 rfl) ?_
  exact gw_iret hx hb hr hlocks hG hT (by omega) (by omega) dX3_write_63 ⟨rfl, ⟨p0_b, hc_225, hc_226, hc_227, hc_228, hc_229, hc_230, p0_ne⟩, fr_231⟩

set_option maxHeartbeats 4000000 in
set_option maxRecDepth 100000 in
/-- m_total -/
theorem m_total (l : Launch) (K : gw_C) (M : gw_M) (mo : Nat) (ad : Nat → Nat) (cd : Int32) (nn kk : Nat) (tb vb : Nat → Int32) (sb : Nat → Int64) (fm tq : Nat → Int32) (rk ks : Nat)  (hm : md K M mo ad cd nn kk tb vb sb fm tq) (hrk : rk < nn) (hks : ks < 4)  : Met l yX3_total wsX3_total ({ frames := 6, cells := 0, slots := 0, locals := 160 } : Room) (va_Pc [.ref mo, .int (nI rk), .int (nI ks)] (gw_I K M)) (va_Qi (fun r M1 => r = (msum sb (48 * rk + 6 * ks) 6).toInt32 ∧ md K M1 mo ad (nI 0) nn kk tb vb sb fm tq ∧ mfr M M1 mo ad) (gw_I K) (gw_A K)) 0 0 (gw_A K) := by
  refine Met.ofW (cc := cX3_total) (maxL := 3) (ret := (some .int)) (by decide) rfl ?_
  intro p e s m args below meth c s₁ B hml hv
  obtain ⟨hav, hI⟩ := hv
  have hx := B.exec
  have hb := B.bytes
  have hr := B.returns
  have hts := atoms_spec (ws := wsX3_total) B.pre
  have hown : s.vm.findClass RX3 = some m.cls := findClass_of_methodNamed B.named
  have hlocks : meth.locks = false := B.notSynchronized
  have hT := hI.2.2
  have hK := hT.K
  have hG := hI.B
  have hf7 := hts (.fieldLink RX3 7 "DotGossipModel" "replicas" "I") (by decide +kernel)
  have hf21 := hts (.fieldLink RX3 21 "DotGossipModel" "sums" "[J") (by decide +kernel)
  have hf31 := hts (.fieldLink RX3 31 "DotGossipModel" "code" "I") (by decide +kernel)
  have hinX3 : ∀ w ∈ wsX30, w ∈ wsX3_total := by decide +kernel
  have hE : entryFrame m args 3 = entryFrame m ([.ref mo, .int (nI rk), .int (nI ks)] : List Value).toArray 3 := by rw [hav]
  rw [hE]
  have hl := lv_entry ([.ref mo, .int (nI rk), .int (nI ks)]) (n := 3) (Nat.le_of_ble_eq_true rfl)
  rw [lg_entry_eq]
  generalize (lg_sl ([.ref mo, .int (nI rk), .int (nI ks)]) ++ List.replicate (3 - (lg_sl ([.ref mo, .int (nI rk), .int (nI ks)])).length) Slot.unset).toArray = ls at hl ⊢
  have hl : lv_has ls 3 [(0, .ref mo), (1, .int (nI rk)), (2, .int (nI ks))] := hl
  obtain ⟨p0_b, p0_o, p0_0, p0_1, p0_2, p0_3, p0_4, p0_ne⟩ := id hm
  have ne_o0 : mo ≠ ad 0 := gw_io p0_o p0_0
  have ne_o1 : mo ≠ ad 1 := gw_io p0_o p0_1
  have ne_o2 : mo ≠ ad 2 := gw_io p0_o p0_2
  have ne_o3 : mo ≠ ad 3 := gw_io p0_o p0_3
  have ne_o4 : mo ≠ ad 4 := gw_io p0_o p0_4
  have hn6 := p0_b.1
  refine lv_aload_n hx hb dX3_total_0 rfl (lv_at hl 0 rfl) ?_
  refine lv_aload_n hx hb dX3_total_1 rfl (lv_at hl 0 rfl) ?_
  refine lv_iload_n hx hb dX3_total_2 rfl (lv_at hl 1 rfl) ?_
  refine lv_iload_n hx hb dX3_total_3 rfl (lv_at hl 2 rfl) ?_
  refine gw_calli (va_runV (As := [.int (nI rk), .int (nI ks)]) (rest := [.ref mo]) ⟨hx, hb, hml, hown, hts⟩ (c_isReg l K M mo ad _ _ _ _ _ _ _ _ (nI rk) (nI ks) hm) (cwV 2 hts gX3_total_X3_isRegister rfl rfl rfl (by decide +kernel) ⟨Nat.le_of_ble_eq_true rfl, Nat.le_of_ble_eq_true rfl⟩) (gw_preV hG hT p0_o rfl) rfl rfl hl.1 rfl (lv_room (Nat.le_of_ble_eq_true rfl)) dX3_total_4 ⟨Nat.le_of_ble_eq_true rfl, Nat.le_of_ble_eq_true rfl⟩) hG (fun r_232 M_233 H locs hw hG => ?_)
  rw [hw.1] at hG
  refine gw_as (tst_y hw.2 ⟨⟨rk, hrk, rfl⟩, ⟨ks, hks, rfl⟩⟩) ?_
  refine lv_if_eq hx hb (tgt := 14) dX3_total_7 (by decide) (fun hc => absurd hc (by decide)) (fun hc => ?_)
  refine lv_iconst (v := nI 0) hx hb dX3_total_10 (by decide) ?_
  refine lv_goto (tgt := 15) hx hb dX3_total_11 (by decide) ?_
  refine gw_calli (va_runV (As := [.int (nI 0)]) (rest := []) ⟨hx, hb, hml, hown, hts⟩ (c_ref0 l K M mo ad _ _ _ _ _ _ _ _ 0 hm) (cwV 1 hts gX3_total_X3_refuses rfl rfl rfl (by decide +kernel) ⟨Nat.le_of_ble_eq_true rfl, Nat.le_of_ble_eq_true rfl⟩) (gw_preV hG hT p0_o rfl) rfl rfl hl.1 rfl (lv_room (Nat.le_of_ble_eq_true rfl)) dX3_total_15 ⟨Nat.le_of_ble_eq_true rfl, Nat.le_of_ble_eq_true rfl⟩) hG (fun r_234 M_235 H locs hw hG => ?_)
  rw [hw.1]
  obtain ⟨hm_236, fr_237⟩ := hw.2
  have fr_238 : mfr M M_235 mo ad := mfr.tr mfr.rf fr_237
  obtain ⟨p_239_b, p_239_o, p_239_0, p_239_1, p_239_2, p_239_3, p_239_4, p_239_ne⟩ := id hm_236
  refine lv_if_eq hx hb (tgt := 25) dX3_total_18 (by decide) (fun hc => ?_) (fun hc => absurd (by decide) hc)
  refine lv_aload_n hx hb dX3_total_25 rfl (lv_at hl 0 rfl) ?_
  refine lv_iload_n hx hb dX3_total_26 rfl (lv_at hl 1 rfl) ?_
  refine lv_iload_n hx hb dX3_total_27 rfl (lv_at hl 2 rfl) ?_
  have hm_240 : md K M_235 mo ad (nI 0) nn kk tb vb sb fm tq := ⟨p0_b, p_239_o, p_239_0, p_239_1, p_239_2, p_239_3, p_239_4, p0_ne⟩
  refine gw_calli (va_runV (As := [.int (nI rk), .int (nI ks)]) (rest := []) ⟨hx, hb, hml, hown, hts⟩ (c_sum l K M_235 mo ad _ _ _ _ _ _ _ _ rk ks hm_240 (by omega) hks) (cwV 2 hts gX3_total_X3_sum rfl rfl rfl (by decide +kernel) ⟨Nat.le_of_ble_eq_true rfl, Nat.le_of_ble_eq_true rfl⟩) (gw_preV hG hT p_239_o rfl) rfl rfl hl.1 rfl (lv_room (Nat.le_of_ble_eq_true rfl)) dX3_total_28 ⟨Nat.le_of_ble_eq_true rfl, Nat.le_of_ble_eq_true rfl⟩) hG (fun r_241 M_242 H locs hw hG => ?_)
  rw [hw.1] at hG
  refine gw_as hw.2 ?_
  exact gw_iret hx hb hr hlocks hG hT (by omega) (by omega) dX3_total_31 ⟨rfl, ⟨p0_b, p_239_o, p_239_0, p_239_1, p_239_2, p_239_3, p_239_4, p0_ne⟩, fr_238⟩

set_option maxHeartbeats 4000000 in
set_option maxRecDepth 100000 in
/-- m_count -/
theorem m_count (l : Launch) (K : gw_C) (M : gw_M) (mo : Nat) (ad : Nat → Nat) (cd : Int32) (nn kk : Nat) (tb vb : Nat → Int32) (sb : Nat → Int64) (fm tq : Nat → Int32) (rk ks : Nat) (v9 : Int32)  (hm : md K M mo ad cd nn kk tb vb sb fm tq) (hrk : rk < nn) (hks : ks < 4)  : Met l yX3_count wsX3_count ({ frames := 6, cells := 0, slots := 0, locals := 160 } : Room) (va_Pc [.ref mo, .int (nI rk), .int (nI ks), .int v9] (gw_I K M)) (va_Qi (fun r M1 => r = (msum (mcn sb (48 * rk + 6 * ks + rk) v9) (48 * rk + 6 * ks) 6).toInt32 ∧ md K M1 mo ad (nI 0) nn kk tb vb (mcn sb (48 * rk + 6 * ks + rk) v9) fm tq ∧ mfr M M1 mo ad) (gw_I K) (gw_A K)) 0 0 (gw_A K) := by
  refine Met.ofW (cc := cX3_count) (maxL := 5) (ret := (some .int)) (by decide) rfl ?_
  intro p e s m args below meth c s₁ B hml hv
  obtain ⟨hav, hI⟩ := hv
  have hx := B.exec
  have hb := B.bytes
  have hr := B.returns
  have hts := atoms_spec (ws := wsX3_count) B.pre
  have hown : s.vm.findClass RX3 = some m.cls := findClass_of_methodNamed B.named
  have hlocks : meth.locks = false := B.notSynchronized
  have hT := hI.2.2
  have hK := hT.K
  have hG := hI.B
  have hf7 := hts (.fieldLink RX3 7 "DotGossipModel" "replicas" "I") (by decide +kernel)
  have hf21 := hts (.fieldLink RX3 21 "DotGossipModel" "sums" "[J") (by decide +kernel)
  have hf31 := hts (.fieldLink RX3 31 "DotGossipModel" "code" "I") (by decide +kernel)
  have hinX3 : ∀ w ∈ wsX30, w ∈ wsX3_count := by decide +kernel
  have hE : entryFrame m args 5 = entryFrame m ([.ref mo, .int (nI rk), .int (nI ks), .int v9] : List Value).toArray 5 := by rw [hav]
  rw [hE]
  have hl := lv_entry ([.ref mo, .int (nI rk), .int (nI ks), .int v9]) (n := 5) (Nat.le_of_ble_eq_true rfl)
  rw [lg_entry_eq]
  generalize (lg_sl ([.ref mo, .int (nI rk), .int (nI ks), .int v9]) ++ List.replicate (5 - (lg_sl ([.ref mo, .int (nI rk), .int (nI ks), .int v9])).length) Slot.unset).toArray = ls at hl ⊢
  have hl : lv_has ls 5 [(0, .ref mo), (1, .int (nI rk)), (2, .int (nI ks)), (3, .int v9)] := hl
  obtain ⟨p0_b, p0_o, p0_0, p0_1, p0_2, p0_3, p0_4, p0_ne⟩ := id hm
  have ne_o0 : mo ≠ ad 0 := gw_io p0_o p0_0
  have ne_o1 : mo ≠ ad 1 := gw_io p0_o p0_1
  have ne_o2 : mo ≠ ad 2 := gw_io p0_o p0_2
  have ne_o3 : mo ≠ ad 3 := gw_io p0_o p0_3
  have ne_o4 : mo ≠ ad 4 := gw_io p0_o p0_4
  have hn6 := p0_b.1
  refine lv_aload_n hx hb dX3_count_0 rfl (lv_at hl 0 rfl) ?_
  refine lv_aload_n hx hb dX3_count_1 rfl (lv_at hl 0 rfl) ?_
  refine lv_iload_n hx hb dX3_count_2 rfl (lv_at hl 1 rfl) ?_
  refine lv_iload_n hx hb dX3_count_3 rfl (lv_at hl 2 rfl) ?_
  refine gw_calli (va_runV (As := [.int (nI rk), .int (nI ks)]) (rest := [.ref mo]) ⟨hx, hb, hml, hown, hts⟩ (c_isReg l K M mo ad _ _ _ _ _ _ _ _ (nI rk) (nI ks) hm) (cwV 2 hts gX3_count_X3_isRegister rfl rfl rfl (by decide +kernel) ⟨Nat.le_of_ble_eq_true rfl, Nat.le_of_ble_eq_true rfl⟩) (gw_preV hG hT p0_o rfl) rfl rfl hl.1 rfl (lv_room (Nat.le_of_ble_eq_true rfl)) dX3_count_4 ⟨Nat.le_of_ble_eq_true rfl, Nat.le_of_ble_eq_true rfl⟩) hG (fun r_243 M_244 H locs hw hG => ?_)
  rw [hw.1] at hG
  refine gw_as (tst_y hw.2 ⟨⟨rk, hrk, rfl⟩, ⟨ks, hks, rfl⟩⟩) ?_
  refine lv_if_eq hx hb (tgt := 14) dX3_count_7 (by decide) (fun hc => absurd hc (by decide)) (fun hc => ?_)
  refine lv_iconst (v := nI 0) hx hb dX3_count_10 (by decide) ?_
  refine lv_goto (tgt := 15) hx hb dX3_count_11 (by decide) ?_
  refine gw_calli (va_runV (As := [.int (nI 0)]) (rest := []) ⟨hx, hb, hml, hown, hts⟩ (c_ref0 l K M mo ad _ _ _ _ _ _ _ _ 0 hm) (cwV 1 hts gX3_count_X3_refuses rfl rfl rfl (by decide +kernel) ⟨Nat.le_of_ble_eq_true rfl, Nat.le_of_ble_eq_true rfl⟩) (gw_preV hG hT p0_o rfl) rfl rfl hl.1 rfl (lv_room (Nat.le_of_ble_eq_true rfl)) dX3_count_15 ⟨Nat.le_of_ble_eq_true rfl, Nat.le_of_ble_eq_true rfl⟩) hG (fun r_245 M_246 H locs hw hG => ?_)
  rw [hw.1]
  obtain ⟨hm_247, fr_248⟩ := hw.2
  have fr_249 : mfr M M_246 mo ad := mfr.tr mfr.rf fr_248
  obtain ⟨p_250_b, p_250_o, p_250_0, p_250_1, p_250_2, p_250_3, p_250_4, p_250_ne⟩ := id hm_247
  refine lv_if_eq hx hb (tgt := 23) dX3_count_18 (by decide) (fun hc => ?_) (fun hc => absurd (by decide) hc)
  refine lv_bipush (v := nI 48) hx hb dX3_count_23 (by decide) ?_
  refine lv_iload_n hx hb dX3_count_25 rfl (lv_at hl 1 rfl) ?_
  refine gw_imul hx hb dX3_count_26 ?_
  refine lv_bipush (v := nI 6) hx hb dX3_count_27 (by decide) ?_
  refine lv_iload_n hx hb dX3_count_29 rfl (lv_at hl 2 rfl) ?_
  refine gw_imul hx hb dX3_count_30 ?_
  refine gw_iadd hx hb dX3_count_31 ?_
  refine lv_iload_n hx hb dX3_count_32 rfl (lv_at hl 1 rfl) ?_
  refine gw_iadd hx hb dX3_count_33 ?_
  refine lv_istore (lv' := [(4, .int (nI (((48 * rk) + (6 * ks)) + rk))), (0, .ref mo), (1, .int (nI rk)), (2, .int (nI ks)), (3, .int v9)]) hx hb dX3_count_34 hl (by decide) rfl (fun ls hl => ?_)
  refine lv_iload_n hx hb dX3_count_36 rfl (lv_at hl 4 rfl) ?_
  refine lv_if_le hx hb (tgt := 55) dX3_count_37 (by decide) (fun hz => ?_) (fun hz => ?_)
  · refine lv_aload_n hx hb dX3_count_55 rfl (lv_at hl 1 rfl) ?_
    refine gw_get (ci := 4) (C := RX3) (T := TX3) (N := 8) hx hb hts hinX3 hown hK hG p_250_o rfl 5 (by decide) hf21 (fun _ h9 => h9) rfl dX3_count_56 ?_
    refine lv_iload hx hb dX3_count_59 (lv_at hl 0 rfl) ?_
    refine lv_bipush (v := nI 24) hx hb dX3_count_61 (by decide) ?_
    refine gw_iadd hx hb dX3_count_63 ?_
    refine lv_dup2_11 hx hb dX3_count_64 rfl rfl ?_
    refine gw_lald_n hx hb hK hG p_250_2 1 rfl (by omega) (by omega) dX3_count_65 ?_
    refine lv_iload_n hx hb dX3_count_66 rfl (lv_at hl 4 rfl) ?_
    refine lv_i2l hx hb dX3_count_67 rfl ?_
    refine lv_lsub hx hb dX3_count_68 ?_
    refine gw_last_n hx hb hK hG p_250_2 1 rfl (by omega) (by omega) dX3_count_69 (fun H locs hG => ?_)
    obtain ⟨M_251, hM_252⟩ : ∃ M1 : gw_M, M1 = gw_up M_246 (ad 2) (.inl (K.2.1 1, 5088, .inr (.inl (vp_updL sb ((((48 * rk) + (6 * ks)) + rk) + 24) ((sb ((((48 * rk) + (6 * ks)) + rk) + 24)) - v9.toInt64))))) := ⟨_, rfl⟩
    have hG : gw_B K M_251 s.heap H locs := by rw [hM_252]; exact hG
    have hc_253 := (congrFun hM_252 mo).trans (gw_k ne_o2 p_250_o)
    have hc_254 := (congrFun hM_252 (ad 0)).trans (gw_k (fun z => absurd (p0_ne 0 2 (by decide) (by decide) z) (by decide)) p_250_0)
    have hc_255 := (congrFun hM_252 (ad 1)).trans (gw_k (fun z => absurd (p0_ne 1 2 (by decide) (by decide) z) (by decide)) p_250_1)
    have hc_256 : M_251 (ad 2) = some (.inl (K.2.1 1, 5088, .inr (.inl (vp_updL sb ((((48 * rk) + (6 * ks)) + rk) + 24) ((sb ((((48 * rk) + (6 * ks)) + rk) + 24)) - v9.toInt64))))) := (congrFun hM_252 _).trans gw_s
    have hc_257 := (congrFun hM_252 (ad 3)).trans (gw_k (fun z => absurd (p0_ne 3 2 (by decide) (by decide) z) (by decide)) p_250_3)
    have hc_258 := (congrFun hM_252 (ad 4)).trans (gw_k (fun z => absurd (p0_ne 4 2 (by decide) (by decide) z) (by decide)) p_250_4)
    have fr_259 : mfr M M_251 mo ad := fun q h1 h2 => ((congrFun hM_252 q).trans (gw_n (h2 2 (by decide)))).trans (fr_249 q h1 h2)
    refine lv_aload_n hx hb dX3_count_70 rfl (lv_at hl 1 rfl) ?_
    refine lv_iload_n hx hb dX3_count_71 rfl (lv_at hl 2 rfl) ?_
    refine lv_iload_n hx hb dX3_count_72 rfl (lv_at hl 3 rfl) ?_
    have hm_260 : md K M_251 mo ad (nI 0) nn kk tb vb (vp_updL sb ((((48 * rk) + (6 * ks)) + rk) + 24) ((sb ((((48 * rk) + (6 * ks)) + rk) + 24)) - v9.toInt64)) fm tq := ⟨p0_b, hc_253, hc_254, hc_255, hc_256, hc_257, hc_258, p0_ne⟩
    refine gw_calli (va_runV (As := [.int (nI rk), .int (nI ks)]) (rest := []) ⟨hx, hb, hml, hown, hts⟩ (c_sum l K M_251 mo ad _ _ _ _ _ _ _ _ rk ks hm_260 (by omega) hks) (cwV 2 hts gX3_count_X3_sum rfl rfl rfl (by decide +kernel) ⟨Nat.le_of_ble_eq_true rfl, Nat.le_of_ble_eq_true rfl⟩) (gw_preV hG hT hc_253 rfl) rfl rfl hl.1 rfl (lv_room (Nat.le_of_ble_eq_true rfl)) dX3_count_73 ⟨Nat.le_of_ble_eq_true rfl, Nat.le_of_ble_eq_true rfl⟩) hG (fun r_261 M_262 H locs hw hG => ?_)
    rw [hw.1] at hG
    refine gw_as hw.2 ?_
    have e9 : mcn sb (48 * rk + 6 * ks + rk) v9 = vp_updL sb ((((48 * rk) + (6 * ks)) + rk) + 24) ((sb ((((48 * rk) + (6 * ks)) + rk) + 24)) - v9.toInt64) := (if_pos hz)
    exact gw_iret hx hb hr hlocks hG hT (by omega) (by omega) dX3_count_76 ⟨by rw [e9], by rw [e9]; exact ⟨p0_b, hc_253, hc_254, hc_255, hc_256, hc_257, hc_258, p0_ne⟩, fr_259⟩
  · refine lv_aload_n hx hb dX3_count_40 rfl (lv_at hl 1 rfl) ?_
    refine gw_get (ci := 4) (C := RX3) (T := TX3) (N := 8) hx hb hts hinX3 hown hK hG p_250_o rfl 5 (by decide) hf21 (fun _ h9 => h9) rfl dX3_count_41 ?_
    refine lv_iload hx hb dX3_count_44 (lv_at hl 0 rfl) ?_
    refine lv_dup2_11 hx hb dX3_count_46 rfl rfl ?_
    refine gw_lald_n hx hb hK hG p_250_2 1 rfl (by omega) (by omega) dX3_count_47 ?_
    refine lv_iload_n hx hb dX3_count_48 rfl (lv_at hl 4 rfl) ?_
    refine lv_i2l hx hb dX3_count_49 rfl ?_
    refine lv_ladd hx hb dX3_count_50 ?_
    refine gw_last_n hx hb hK hG p_250_2 1 rfl (by omega) (by omega) dX3_count_51 (fun H locs hG => ?_)
    obtain ⟨M_263, hM_264⟩ : ∃ M1 : gw_M, M1 = gw_up M_246 (ad 2) (.inl (K.2.1 1, 5088, .inr (.inl (vp_updL sb (((48 * rk) + (6 * ks)) + rk) ((sb (((48 * rk) + (6 * ks)) + rk)) + v9.toInt64))))) := ⟨_, rfl⟩
    have hG : gw_B K M_263 s.heap H locs := by rw [hM_264]; exact hG
    have hc_265 := (congrFun hM_264 mo).trans (gw_k ne_o2 p_250_o)
    have hc_266 := (congrFun hM_264 (ad 0)).trans (gw_k (fun z => absurd (p0_ne 0 2 (by decide) (by decide) z) (by decide)) p_250_0)
    have hc_267 := (congrFun hM_264 (ad 1)).trans (gw_k (fun z => absurd (p0_ne 1 2 (by decide) (by decide) z) (by decide)) p_250_1)
    have hc_268 : M_263 (ad 2) = some (.inl (K.2.1 1, 5088, .inr (.inl (vp_updL sb (((48 * rk) + (6 * ks)) + rk) ((sb (((48 * rk) + (6 * ks)) + rk)) + v9.toInt64))))) := (congrFun hM_264 _).trans gw_s
    have hc_269 := (congrFun hM_264 (ad 3)).trans (gw_k (fun z => absurd (p0_ne 3 2 (by decide) (by decide) z) (by decide)) p_250_3)
    have hc_270 := (congrFun hM_264 (ad 4)).trans (gw_k (fun z => absurd (p0_ne 4 2 (by decide) (by decide) z) (by decide)) p_250_4)
    have fr_271 : mfr M M_263 mo ad := fun q h1 h2 => ((congrFun hM_264 q).trans (gw_n (h2 2 (by decide)))).trans (fr_249 q h1 h2)
    refine lv_goto (tgt := 70) hx hb dX3_count_52 (by decide) ?_
    refine lv_aload_n hx hb dX3_count_70 rfl (lv_at hl 1 rfl) ?_
    refine lv_iload_n hx hb dX3_count_71 rfl (lv_at hl 2 rfl) ?_
    refine lv_iload_n hx hb dX3_count_72 rfl (lv_at hl 3 rfl) ?_
    have hm_272 : md K M_263 mo ad (nI 0) nn kk tb vb (vp_updL sb (((48 * rk) + (6 * ks)) + rk) ((sb (((48 * rk) + (6 * ks)) + rk)) + v9.toInt64)) fm tq := ⟨p0_b, hc_265, hc_266, hc_267, hc_268, hc_269, hc_270, p0_ne⟩
    refine gw_calli (va_runV (As := [.int (nI rk), .int (nI ks)]) (rest := []) ⟨hx, hb, hml, hown, hts⟩ (c_sum l K M_263 mo ad _ _ _ _ _ _ _ _ rk ks hm_272 (by omega) hks) (cwV 2 hts gX3_count_X3_sum rfl rfl rfl (by decide +kernel) ⟨Nat.le_of_ble_eq_true rfl, Nat.le_of_ble_eq_true rfl⟩) (gw_preV hG hT hc_265 rfl) rfl rfl hl.1 rfl (lv_room (Nat.le_of_ble_eq_true rfl)) dX3_count_73 ⟨Nat.le_of_ble_eq_true rfl, Nat.le_of_ble_eq_true rfl⟩) hG (fun r_273 M_274 H locs hw hG => ?_)
    rw [hw.1] at hG
    refine gw_as hw.2 ?_
    have e9 : mcn sb (48 * rk + 6 * ks + rk) v9 = vp_updL sb (((48 * rk) + (6 * ks)) + rk) ((sb (((48 * rk) + (6 * ks)) + rk)) + v9.toInt64) := (if_neg hz)
    exact gw_iret hx hb hr hlocks hG hT (by omega) (by omega) dX3_count_76 ⟨by rw [e9], by rw [e9]; exact ⟨p0_b, hc_265, hc_266, hc_267, hc_268, hc_269, hc_270, p0_ne⟩, fr_271⟩
