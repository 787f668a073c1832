set_option maxHeartbeats 4000000 in
set_option maxRecDepth 100000 in
/-- AbstractCollection() -/
theorem c_acinit (l : Launch) (K : gw_C) (M : gw_M) (h : Nat)  : Met l yJxa1e45_init_da8c8 wsJxa1e45_init_da8c8 ({ frames := 1, cells := 0, slots := 0, locals := 12 } : Room) (va_Pc [.ref h] (gw_I K M)) (va_Qv (fun M1 => M1 = M) (gw_I K) (gw_A K)) 0 0 (gw_A K) := by
  refine Met.ofW (cc := cJxa1e45_init_da8c8) (maxL := 1) (ret := none) (by decide) rfl ?_
  intro p e s m args below meth c s₁ B hml hv
  obtain ⟨hav, hI⟩ := hv
  have hx := B.exec
  have hb := B.bytes
  have hr := B.returns
  have hts := atoms_spec (ws := wsJxa1e45_init_da8c8) B.pre
  have hown : s.vm.findClass RJxa1e45 = some m.cls := findClass_of_methodNamed B.named
  have hlocks : meth.locks = false := B.notSynchronized
  have hT := hI.2.2
  have hK := hT.K
  have hG := hI.B
  have hE : entryFrame m args 1 = entryFrame m ([.ref h] : List Value).toArray 1 := by rw [hav]
  rw [hE]
  have hl := lv_entry ([.ref h]) (n := 1) (Nat.le_of_ble_eq_true rfl)
  rw [lg_entry_eq]
  generalize (lg_sl ([.ref h]) ++ List.replicate (1 - (lg_sl ([.ref h])).length) Slot.unset).toArray = ls at hl ⊢
  have hl : lv_has ls 1 [(0, .ref h)] := hl
  refine lv_aload_n hx hb dJxa1e45_init_da8c8_0 rfl (lv_at hl 0 rfl) ?_
  refine W.objInit hx hb hown (hts (.methodLink RJxa1e45 1 objectInit) (by decide +kernel)) (hts (.instanceMethod objectInit) (by decide +kernel)) (hts (.code objectInit ⟨#[0xb1]⟩ 1 none) (by decide +kernel)) rfl (by rw [hml]; exact hl.1) rfl dJxa1e45_init_da8c8_1 (Nat.le_of_ble_eq_true rfl) (Nat.le_of_ble_eq_true rfl) ?_
  refine W.eq (g2 := F0 m 4 ls []) rfl ?_
  exact gw_vret hx hb hr hlocks hG hT (by omega) (by omega) dJxa1e45_init_da8c8_4 rfl

set_option maxHeartbeats 4000000 in
set_option maxRecDepth 100000 in
/-- AbstractList() -/
theorem c_abinit (l : Launch) (K : gw_C) (M : gw_M) (w : Nat) (hw0 : M w = some (.inr (0, [.int 0, .null, .int 0]))) : Met l yJxc12de_init_da8c8 wsJxc12de_init_da8c8 ({ frames := 2, cells := 0, slots := 0, locals := 32 } : Room) (va_Pc [.ref w] (gw_I K M)) (va_Qv (fun M1 => M1 = gw_up M w (.inr (0, [.int (nI 0), .null, .int 0]))) (gw_I K) (gw_A K)) 0 0 (gw_A K) := by
  refine Met.ofW (cc := cJxc12de_init_da8c8) (maxL := 1) (ret := none) (by decide) rfl ?_
  intro p e s m args below meth c s₁ B hml hv
  obtain ⟨hav, hI⟩ := hv
  have hx := B.exec
  have hb := B.bytes
  have hr := B.returns
  have hts := atoms_spec (ws := wsJxc12de_init_da8c8) B.pre
  have hown : s.vm.findClass RJxc12de = some m.cls := findClass_of_methodNamed B.named
  have hlocks : meth.locks = false := B.notSynchronized
  have hT := hI.2.2
  have hK := hT.K
  have hG := hI.B
  have hf7 := hts (.fieldLink RJxc12de 7 "java/util/AbstractList" "modCount" "I") (by decide +kernel)
  have hinJx4a65c : ∀ w ∈ wsJx4a65c0, w ∈ wsJxc12de_init_da8c8 := by decide +kernel
  have hE : entryFrame m args 1 = entryFrame m ([.ref w] : List Value).toArray 1 := by rw [hav]
  rw [hE]
  have hl := lv_entry ([.ref w]) (n := 1) (Nat.le_of_ble_eq_true rfl)
  rw [lg_entry_eq]
  generalize (lg_sl ([.ref w]) ++ List.replicate (1 - (lg_sl ([.ref w])).length) Slot.unset).toArray = ls at hl ⊢
  have hl : lv_has ls 1 [(0, .ref w)] := hl
  refine lv_aload_n hx hb dJxc12de_init_da8c8_0 rfl (lv_at hl 0 rfl) ?_
  refine gw_callv (va_runI (As := []) (rest := []) ⟨hx, hb, hml, hown, hts⟩ (c_acinit l K M w) (cwI 0 hts gJxc12de_init_da8c8_Jxa1e45_init_da8c8 rfl rfl rfl (hts (.initialized RJxa1e45) (by decide +kernel)) (hts (.methodLink RJxc12de 1 yJxa1e45_init_da8c8) (by decide +kernel)) (hts (.instanceMethod yJxa1e45_init_da8c8) (by decide +kernel)) rfl (by decide +kernel) ⟨Nat.le_of_ble_eq_true rfl, Nat.le_of_ble_eq_true rfl⟩) (gw_preS hG hT) rfl rfl hl.1 rfl (lv_room (Nat.le_of_ble_eq_true rfl)) dJxc12de_init_da8c8_1 ⟨Nat.le_of_ble_eq_true rfl, Nat.le_of_ble_eq_true rfl⟩) hG (fun M_2 H locs hw hG => ?_)
  rw [hw] at hG
  refine lv_aload_n hx hb dJxc12de_init_da8c8_4 rfl (lv_at hl 0 rfl) ?_
  refine lv_iconst (v := nI 0) hx hb dJxc12de_init_da8c8_5 (by decide) ?_
  refine gw_put (ci := 0) (v := .int (nI 0)) (ty := .int) (C := RJx4a65c) (T := TJx4a65c) (N := 3) hx hb hts hinJx4a65c tyJx4a65c tyJx4a65c_ok nmJx4a65c hown hK hG hw0 rfl 0 (by decide) hf7 (fun _ h9 => h9) rfl (by decide +kernel) rfl rfl (Nat.le_of_ble_eq_true rfl) dJxc12de_init_da8c8_6 (fun H locs hG => ?_)
  obtain ⟨M_3, hM_4⟩ : ∃ M1 : gw_M, M1 = gw_up M w (.inr (0, [.int (nI 0), .null, .int 0])) := ⟨_, rfl⟩
  have hG : gw_B K M_3 s.heap H locs := by rw [hM_4]; exact hG
  have hc_5 : M_3 w = some (.inr (0, [.int (nI 0), .null, .int 0])) := (congrFun hM_4 _).trans gw_s
  exact gw_vret hx hb hr hlocks hG hT (by omega) (by omega) dJxc12de_init_da8c8_9 hM_4

set_option maxHeartbeats 4000000 in
set_option maxRecDepth 100000 in
/-- ArrayList() -/
theorem c_alinit (l : Launch) (K : gw_C) (M : gw_M) (w : Nat) (hw0 : M w = some (.inr (0, [.int 0, .null, .int 0]))) : Met l yJx4a65c_init_da8c8 wsJx4a65c_init_da8c8 ({ frames := 3, cells := 0, slots := 0, locals := 52 } : Room) (va_Pc [.ref w] (gw_I K M)) (va_Qv (fun M1 => M1 = gw_up M w (.inr (0, [.int (nI 0), .ref K.2.2.2.1, .int 0]))) (gw_I K) (gw_A K)) 0 0 (gw_A K) := by
  refine Met.ofW (cc := cJx4a65c_init_da8c8) (maxL := 1) (ret := none) (by decide) rfl ?_
  intro p e s m args below meth c s₁ B hml hv
  obtain ⟨hav, hI⟩ := hv
  have hx := B.exec
  have hb := B.bytes
  have hr := B.returns
  have hts := atoms_spec (ws := wsJx4a65c_init_da8c8) B.pre
  have hown : s.vm.findClass RJx4a65c = some m.cls := findClass_of_methodNamed B.named
  have hlocks : meth.locks = false := B.notSynchronized
  have hT := hI.2.2
  have hK := hT.K
  have hG := hI.B
  have hf9 := hts (.fieldLink RJx4a65c 9 "java/util/ArrayList" "elementData" "[Ljava/lang/Object;") (by decide +kernel)
  have hf39 := hts (.fieldLink RJx4a65c 39 "java/util/ArrayList" "DEFAULTCAPACITY_EMPTY_ELEMENTDATA" "[Ljava/lang/Object;") (by decide +kernel)
  have hinJx4a65c : ∀ w ∈ wsJx4a65c0, w ∈ wsJx4a65c_init_da8c8 := by decide +kernel
  have hE : entryFrame m args 1 = entryFrame m ([.ref w] : List Value).toArray 1 := by rw [hav]
  rw [hE]
  have hl := lv_entry ([.ref w]) (n := 1) (Nat.le_of_ble_eq_true rfl)
  rw [lg_entry_eq]
  generalize (lg_sl ([.ref w]) ++ List.replicate (1 - (lg_sl ([.ref w])).length) Slot.unset).toArray = ls at hl ⊢
  have hl : lv_has ls 1 [(0, .ref w)] := hl
  refine lv_aload_n hx hb dJx4a65c_init_da8c8_0 rfl (lv_at hl 0 rfl) ?_
  refine gw_callv (va_runI (As := []) (rest := []) ⟨hx, hb, hml, hown, hts⟩ (c_abinit l K M w hw0) (cwI 0 hts gJx4a65c_init_da8c8_Jxc12de_init_da8c8 rfl rfl rfl (hts (.initialized RJxc12de) (by decide +kernel)) (hts (.methodLink RJx4a65c 1 yJxc12de_init_da8c8) (by decide +kernel)) (hts (.instanceMethod yJxc12de_init_da8c8) (by decide +kernel)) rfl (by decide +kernel) ⟨Nat.le_of_ble_eq_true rfl, Nat.le_of_ble_eq_true rfl⟩) (gw_preS hG hT) rfl rfl hl.1 rfl (lv_room (Nat.le_of_ble_eq_true rfl)) dJx4a65c_init_da8c8_1 ⟨Nat.le_of_ble_eq_true rfl, Nat.le_of_ble_eq_true rfl⟩) hG (fun M_7 H locs hw hG => ?_)
  have hM_8 := hw
  have hc_9 : M_7 w = some (.inr (0, [.int (nI 0), .null, .int 0])) := (congrFun hM_8 _).trans gw_s
  refine lv_aload_n hx hb dJx4a65c_init_da8c8_4 rfl (lv_at hl 0 rfl) ?_
  refine va_gets (v := .ref K.2.2.2.1) hx hb hT.2.1.2.1.1 hG.S hown hf39 (fun _ h9 => h9) dJx4a65c_init_da8c8_5 ?_
  refine gw_put (ci := 0) (v := .ref K.2.2.2.1) (ty := .array (.object "java/lang/Object")) (C := RJx4a65c) (T := TJx4a65c) (N := 3) hx hb hts hinJx4a65c tyJx4a65c tyJx4a65c_ok nmJx4a65c hown hK hG hc_9 rfl 1 (by decide) hf9 (fun _ h9 => h9) rfl (by decide +kernel) rfl rfl (Nat.le_of_ble_eq_true rfl) dJx4a65c_init_da8c8_8 (fun H locs hG => ?_)
  obtain ⟨M_10, hM_11⟩ : ∃ M1 : gw_M, M1 = gw_up M_7 w (.inr (0, [.int (nI 0), .ref K.2.2.2.1, .int 0])) := ⟨_, rfl⟩
  have hG : gw_B K M_10 s.heap H locs := by rw [hM_11]; exact hG
  have hc_12 : M_10 w = some (.inr (0, [.int (nI 0), .ref K.2.2.2.1, .int 0])) := (congrFun hM_11 _).trans gw_s
  exact gw_vret hx hb hr hlocks hG hT (by omega) (by omega) dJx4a65c_init_da8c8_11 (by rw [hM_11, hM_8, gw_uu])

set_option maxHeartbeats 4000000 in
set_option maxRecDepth 100000 in
/-- size() -/
theorem c_alsize (l : Launch) (K : gw_C) (M : gw_M) (w a sz : Nat) (mc : Int32) (hw0 : M w = some (.inr (0, [.int mc, .ref a, .int (nI sz)]))) : Met l yJx4a65c_size_8abf5 wsJx4a65c_size_8abf5 ({ frames := 0, cells := 0, slots := 0, locals := 0 } : Room) (va_Pc [.ref w] (gw_I K M)) (va_Qi (fun r M1 => M1 = M ∧ r = nI sz) (gw_I K) (gw_A K)) 0 0 (gw_A K) := by
  refine Met.ofW (cc := cJx4a65c_size_8abf5) (maxL := 1) (ret := (some .int)) (by decide) rfl ?_
  intro p e s m args below meth c s₁ B hml hv
  obtain ⟨hav, hI⟩ := hv
  have hx := B.exec
  have hb := B.bytes
  have hr := B.returns
  have hts := atoms_spec (ws := wsJx4a65c_size_8abf5) B.pre
  have hown : s.vm.findClass RJx4a65c = some m.cls := findClass_of_methodNamed B.named
  have hlocks : meth.locks = false := B.notSynchronized
  have hT := hI.2.2
  have hK := hT.K
  have hG := hI.B
  have hf48 := hts (.fieldLink RJx4a65c 48 "java/util/ArrayList" "size" "I") (by decide +kernel)
  have hinJx4a65c : ∀ w ∈ wsJx4a65c0, w ∈ wsJx4a65c_size_8abf5 := by decide +kernel
  have hE : entryFrame m args 1 = entryFrame m ([.ref w] : List Value).toArray 1 := by rw [hav]
  rw [hE]
  have hl := lv_entry ([.ref w]) (n := 1) (Nat.le_of_ble_eq_true rfl)
  rw [lg_entry_eq]
  generalize (lg_sl ([.ref w]) ++ List.replicate (1 - (lg_sl ([.ref w])).length) Slot.unset).toArray = ls at hl ⊢
  have hl : lv_has ls 1 [(0, .ref w)] := hl
  refine lv_aload_n hx hb dJx4a65c_size_8abf5_0 rfl (lv_at hl 0 rfl) ?_
  refine gw_get (ci := 0) (C := RJx4a65c) (T := TJx4a65c) (N := 3) hx hb hts hinJx4a65c hown hK hG hw0 rfl 2 (by decide) hf48 (fun _ h9 => h9) rfl dJx4a65c_size_8abf5_1 ?_
  exact gw_iret hx hb hr hlocks hG hT (by omega) (by omega) dJx4a65c_size_8abf5_4 ⟨rfl, rfl⟩

set_option maxHeartbeats 4000000 in
set_option maxRecDepth 100000 in
/-- Preconditions.checkIndex, within -/
theorem c_ck3 (l : Launch) (K : gw_C) (M : gw_M) (k n9 : Nat) (hk : k < n9) (hn : n9 < 2147483648) : Met l yJ3_checkIndex_8e157 wsJ3_checkIndex_8e157 ({ frames := 0, cells := 0, slots := 0, locals := 0 } : Room) (va_Pc [.int (nI k), .int (nI n9), .null] (gw_I K M)) (va_Qi (fun r M1 => M1 = M ∧ r = nI k) (gw_I K) (gw_A K)) 0 0 (gw_A K) := by
  refine Met.ofW (cc := cJ3_checkIndex_8e157) (maxL := 3) (ret := (some .int)) (by decide) rfl ?_
  intro p e s m args below meth c s₁ B hml hv
  obtain ⟨hav, hI⟩ := hv
  have hx := B.exec
  have hb := B.bytes
  have hr := B.returns
  have hts := atoms_spec (ws := wsJ3_checkIndex_8e157) B.pre
  have hown : s.vm.findClass RJ3 = some m.cls := findClass_of_methodNamed B.named
  have hlocks : meth.locks = false := B.notSynchronized
  have hT := hI.2.2
  have hK := hT.K
  have hG := hI.B
  have hE : entryFrame m args 3 = entryFrame m ([.int (nI k), .int (nI n9), .null] : List Value).toArray 3 := by rw [hav]
  rw [hE]
  have hl := lv_entry ([.int (nI k), .int (nI n9), .null]) (n := 3) (Nat.le_of_ble_eq_true rfl)
  rw [lg_entry_eq]
  generalize (lg_sl ([.int (nI k), .int (nI n9), .null]) ++ List.replicate (3 - (lg_sl ([.int (nI k), .int (nI n9), .null])).length) Slot.unset).toArray = ls at hl ⊢
  have hl : lv_has ls 3 [(0, .int (nI k)), (1, .int (nI n9)), (2, .null)] := hl
  refine lv_iload_n hx hb dJ3_checkIndex_8e157_0 rfl (lv_at hl 0 rfl) ?_
  refine lv_if_lt hx hb (tgt := 9) dJ3_checkIndex_8e157_1 (by decide) (fun hc => ?_) (fun hc => ?_)
  · exact absurd hc (nI_pos (by omega))
  · refine lv_iload_n hx hb dJ3_checkIndex_8e157_4 rfl (lv_at hl 0 rfl) ?_
    refine lv_iload_n hx hb dJ3_checkIndex_8e157_5 rfl (lv_at hl 1 rfl) ?_
    refine gw_icmp_lt hx hb (by omega) (by omega) (tgt := 16) dJ3_checkIndex_8e157_6 (by decide) (fun hc => ?_) (fun hc => ?_)
    · refine lv_iload_n hx hb dJ3_checkIndex_8e157_16 rfl (lv_at hl 0 rfl) ?_
      exact gw_iret hx hb hr hlocks hG hT (by omega) (by omega) dJ3_checkIndex_8e157_17 ⟨rfl, rfl⟩
    · exact absurd hk (by omega)

set_option maxHeartbeats 4000000 in
set_option maxRecDepth 100000 in
/-- Objects.checkIndex, within -/
theorem c_ck (l : Launch) (K : gw_C) (M : gw_M) (k n9 : Nat) (hk : k < n9) (hn : n9 < 2147483648) : Met l yJ15_checkIndex_7cf53 wsJ15_checkIndex_7cf53 ({ frames := 1, cells := 0, slots := 0, locals := 22 } : Room) (va_Pc [.int (nI k), .int (nI n9)] (gw_I K M)) (va_Qi (fun r M1 => M1 = M ∧ r = nI k) (gw_I K) (gw_A K)) 0 0 (gw_A K) := by
  refine Met.ofW (cc := cJ15_checkIndex_7cf53) (maxL := 2) (ret := (some .int)) (by decide) rfl ?_
  intro p e s m args below meth c s₁ B hml hv
  obtain ⟨hav, hI⟩ := hv
  have hx := B.exec
  have hb := B.bytes
  have hr := B.returns
  have hts := atoms_spec (ws := wsJ15_checkIndex_7cf53) B.pre
  have hown : s.vm.findClass RJ15 = some m.cls := findClass_of_methodNamed B.named
  have hlocks : meth.locks = false := B.notSynchronized
  have hT := hI.2.2
  have hK := hT.K
  have hG := hI.B
  have hE : entryFrame m args 2 = entryFrame m ([.int (nI k), .int (nI n9)] : List Value).toArray 2 := by rw [hav]
  rw [hE]
  have hl := lv_entry ([.int (nI k), .int (nI n9)]) (n := 2) (Nat.le_of_ble_eq_true rfl)
  rw [lg_entry_eq]
  generalize (lg_sl ([.int (nI k), .int (nI n9)]) ++ List.replicate (2 - (lg_sl ([.int (nI k), .int (nI n9)])).length) Slot.unset).toArray = ls at hl ⊢
  have hl : lv_has ls 2 [(0, .int (nI k)), (1, .int (nI n9))] := hl
  refine lv_iload_n hx hb dJ15_checkIndex_7cf53_0 rfl (lv_at hl 0 rfl) ?_
  refine lv_iload_n hx hb dJ15_checkIndex_7cf53_1 rfl (lv_at hl 1 rfl) ?_
  refine lv_null hx hb dJ15_checkIndex_7cf53_2 ?_
  refine gw_calli (va_runS (As := [.int (nI k), .int (nI n9), .null]) (rest := []) ⟨hx, hb, hml, hown, hts⟩ (c_ck3 l K M k n9 hk hn) (va_cwS 3 hts gJ15_checkIndex_7cf53_J3_checkIndex_8e157 rfl rfl rfl (by decide +kernel) ⟨Nat.le_of_ble_eq_true rfl, Nat.le_of_ble_eq_true rfl⟩) (gw_preS hG hT) rfl rfl hl.1 rfl (lv_room (Nat.le_of_ble_eq_true rfl)) dJ15_checkIndex_7cf53_3 ⟨Nat.le_of_ble_eq_true rfl, Nat.le_of_ble_eq_true rfl⟩) hG (fun r_13 M_14 H locs hw hG => ?_)
  rw [hw.1] at hG
  refine gw_as hw.2 ?_
  exact gw_iret hx hb hr hlocks hG hT (by omega) (by omega) dJ15_checkIndex_7cf53_6 ⟨rfl, rfl⟩

set_option maxHeartbeats 4000000 in
set_option maxRecDepth 100000 in
/-- elementData(i) -/
theorem c_aled (l : Launch) (K : gw_C) (M : gw_M) (w a cap sz : Nat) (mc : Int32) (f : Nat → Option Nat) (k : Nat) (hw0 : M w = some (.inr (0, [.int mc, .ref a, .int (nI sz)]))) (ha : M a = some (.inl (K.2.1 3, cap, .inr (.inr (.inr (.inr f)))))) (hk : k < cap) (hcp : cap ≤ 150) : Met l yJx4a65c_elementData_915e3 wsJx4a65c_elementData_915e3 ({ frames := 0, cells := 0, slots := 0, locals := 0 } : Room) (va_Pc [.ref w, .int (nI k)] (gw_I K M)) (va_Qq (fun r M1 => M1 = M ∧ r = f k) (gw_I K) (gw_A K)) 0 0 (gw_A K) := by
  refine Met.ofW (cc := cJx4a65c_elementData_915e3) (maxL := 2) (ret := (some (.object "java/lang/Object"))) (by decide) rfl ?_
  intro p e s m args below meth c s₁ B hml hv
  obtain ⟨hav, hI⟩ := hv
  have hx := B.exec
  have hb := B.bytes
  have hr := B.returns
  have hts := atoms_spec (ws := wsJx4a65c_elementData_915e3) B.pre
  have hown : s.vm.findClass RJx4a65c = some m.cls := findClass_of_methodNamed B.named
  have hlocks : meth.locks = false := B.notSynchronized
  have hT := hI.2.2
  have hK := hT.K
  have hG := hI.B
  have hf9 := hts (.fieldLink RJx4a65c 9 "java/util/ArrayList" "elementData" "[Ljava/lang/Object;") (by decide +kernel)
  have hinJx4a65c : ∀ w ∈ wsJx4a65c0, w ∈ wsJx4a65c_elementData_915e3 := by decide +kernel
  have hE : entryFrame m args 2 = entryFrame m ([.ref w, .int (nI k)] : List Value).toArray 2 := by rw [hav]
  rw [hE]
  have hl := lv_entry ([.ref w, .int (nI k)]) (n := 2) (Nat.le_of_ble_eq_true rfl)
  rw [lg_entry_eq]
  generalize (lg_sl ([.ref w, .int (nI k)]) ++ List.replicate (2 - (lg_sl ([.ref w, .int (nI k)])).length) Slot.unset).toArray = ls at hl ⊢
  have hl : lv_has ls 2 [(0, .ref w), (1, .int (nI k))] := hl
  refine lv_aload_n hx hb dJx4a65c_elementData_915e3_0 rfl (lv_at hl 0 rfl) ?_
  refine gw_get (ci := 0) (C := RJx4a65c) (T := TJx4a65c) (N := 3) hx hb hts hinJx4a65c hown hK hG hw0 rfl 1 (by decide) hf9 (fun _ h9 => h9) rfl dJx4a65c_elementData_915e3_1 ?_
  refine lv_iload_n hx hb dJx4a65c_elementData_915e3_4 rfl (lv_at hl 1 rfl) ?_
  refine gw_aldq_n (v := f k) hx hb hK hG ha 3 rfl (by omega) (by omega) rfl dJx4a65c_elementData_915e3_5 ?_
  exact gw_aret (v := f k) hx hb hr (Or.inl ⟨_, rfl⟩) hlocks hG hT (by omega) (by omega) dJx4a65c_elementData_915e3_6 ⟨rfl, rfl⟩

set_option maxHeartbeats 4000000 in
set_option maxRecDepth 100000 in
/-- get(i) -/
theorem c_alget (l : Launch) (K : gw_C) (M : gw_M) (w a cap sz : Nat) (mc : Int32) (f : Nat → Option Nat) (k : Nat) (hal : al K M w a cap sz mc f) (hk : k < sz) : Met l yJx4a65c_get_915e3 wsJx4a65c_get_915e3 ({ frames := 2, cells := 0, slots := 0, locals := 43 } : Room) (va_Pc [.ref w, .int (nI k)] (gw_I K M)) (va_Qq (fun r M1 => M1 = M ∧ r = f k) (gw_I K) (gw_A K)) 0 0 (gw_A K) := by
  refine Met.ofW (cc := cJx4a65c_get_915e3) (maxL := 2) (ret := (some (.object "java/lang/Object"))) (by decide) rfl ?_
  intro p e s m args below meth c s₁ B hml hv
  obtain ⟨hav, hI⟩ := hv
  have hx := B.exec
  have hb := B.bytes
  have hr := B.returns
  have hts := atoms_spec (ws := wsJx4a65c_get_915e3) B.pre
  have hown : s.vm.findClass RJx4a65c = some m.cls := findClass_of_methodNamed B.named
  have hlocks : meth.locks = false := B.notSynchronized
  have hT := hI.2.2
  have hK := hT.K
  have hG := hI.B
  have hf9 := hts (.fieldLink RJx4a65c 9 "java/util/ArrayList" "elementData" "[Ljava/lang/Object;") (by decide +kernel)
  have hf48 := hts (.fieldLink RJx4a65c 48 "java/util/ArrayList" "size" "I") (by decide +kernel)
  have hinJx4a65c : ∀ w ∈ wsJx4a65c0, w ∈ wsJx4a65c_get_915e3 := by decide +kernel
  have hE : entryFrame m args 2 = entryFrame m ([.ref w, .int (nI k)] : List Value).toArray 2 := by rw [hav]
  rw [hE]
  have hl := lv_entry ([.ref w, .int (nI k)]) (n := 2) (Nat.le_of_ble_eq_true rfl)
  rw [lg_entry_eq]
  generalize (lg_sl ([.ref w, .int (nI k)]) ++ List.replicate (2 - (lg_sl ([.ref w, .int (nI k)])).length) Slot.unset).toArray = ls at hl ⊢
  have hl : lv_has ls 2 [(0, .ref w), (1, .int (nI k))] := hl
  obtain ⟨hw0, hs, hd9 | ⟨ha, h1, h2, h3⟩⟩ := id hal
  · exact absurd hk (by omega)
  refine lv_iload_n hx hb dJx4a65c_get_915e3_0 rfl (lv_at hl 1 rfl) ?_
  refine lv_aload_n hx hb dJx4a65c_get_915e3_1 rfl (lv_at hl 0 rfl) ?_
  refine gw_get (ci := 0) (C := RJx4a65c) (T := TJx4a65c) (N := 3) hx hb hts hinJx4a65c hown hK hG hw0 rfl 2 (by decide) hf48 (fun _ h9 => h9) rfl dJx4a65c_get_915e3_2 ?_
  refine gw_calli (va_runS (As := [.int (nI k), .int (nI sz)]) (rest := []) ⟨hx, hb, hml, hown, hts⟩ (c_ck l K M k sz hk (by omega)) (va_cwS 2 hts gJx4a65c_get_915e3_J15_checkIndex_7cf53 rfl rfl rfl (by decide +kernel) ⟨Nat.le_of_ble_eq_true rfl, Nat.le_of_ble_eq_true rfl⟩) (gw_preS hG hT) rfl rfl hl.1 rfl (lv_room (Nat.le_of_ble_eq_true rfl)) dJx4a65c_get_915e3_5 ⟨Nat.le_of_ble_eq_true rfl, Nat.le_of_ble_eq_true rfl⟩) hG (fun r_15 M_16 H locs hw hG => ?_)
  rw [hw.1] at hG
  refine gw_as hw.2 ?_
  refine lv_pop hx hb dJx4a65c_get_915e3_8 rfl ?_
  refine lv_aload_n hx hb dJx4a65c_get_915e3_9 rfl (lv_at hl 0 rfl) ?_
  refine lv_iload_n hx hb dJx4a65c_get_915e3_10 rfl (lv_at hl 1 rfl) ?_
  refine gw_callq (va_runV (As := [.int (nI k)]) (rest := []) ⟨hx, hb, hml, hown, hts⟩ (c_aled l K M w a cap sz mc f k hw0 ha (by omega) h3) (cwV 1 hts gJx4a65c_get_915e3_Jx4a65c_elementData_915e3 rfl rfl rfl (by decide +kernel) ⟨Nat.le_of_ble_eq_true rfl, Nat.le_of_ble_eq_true rfl⟩) (gw_preV hG hT hw0 rfl) rfl rfl hl.1 rfl (lv_room (Nat.le_of_ble_eq_true rfl)) dJx4a65c_get_915e3_11 ⟨Nat.le_of_ble_eq_true rfl, Nat.le_of_ble_eq_true rfl⟩) hG (fun r_17 M_18 H locs hw hG => ?_)
  rw [hw.1] at hG
  rw [hw.2]
  exact gw_aret (v := f k) hx hb hr (Or.inl ⟨_, rfl⟩) hlocks hG hT (by omega) (by omega) dJx4a65c_get_915e3_14 ⟨rfl, rfl⟩

set_option maxHeartbeats 4000000 in
set_option maxRecDepth 100000 in
/-- newLength(c, 1, c / 2) -/
theorem c_newlen (l : Launch) (K : gw_C) (M : gw_M) (c9 : Nat) (h1 : 10 ≤ c9) (h2 : c9 ≤ 1000) : Met l yJ8_newLength_cabcc wsJ8_newLength_cabcc ({ frames := 1, cells := 0, slots := 0, locals := 26 } : Room) (va_Pc [.int (nI c9), .int (nI 1), .int (nI (c9 / 2))] (gw_I K M)) (va_Qi (fun r M1 => M1 = M ∧ r = nI (c9 + c9 / 2)) (gw_I K) (gw_A K)) 0 0 (gw_A K) := by
  refine Met.ofW (cc := cJ8_newLength_cabcc) (maxL := 4) (ret := (some .int)) (by decide) rfl ?_
  intro p e s m args below meth c s₁ B hml hv
  obtain ⟨hav, hI⟩ := hv
  have hx := B.exec
  have hb := B.bytes
  have hr := B.returns
  have hts := atoms_spec (ws := wsJ8_newLength_cabcc) B.pre
  have hown : s.vm.findClass RJ8 = some m.cls := findClass_of_methodNamed B.named
  have hlocks : meth.locks = false := B.notSynchronized
  have hT := hI.2.2
  have hK := hT.K
  have hG := hI.B
  have hE : entryFrame m args 4 = entryFrame m ([.int (nI c9), .int (nI 1), .int (nI (c9 / 2))] : List Value).toArray 4 := by rw [hav]
  rw [hE]
  have hl := lv_entry ([.int (nI c9), .int (nI 1), .int (nI (c9 / 2))]) (n := 4) (Nat.le_of_ble_eq_true rfl)
  rw [lg_entry_eq]
  generalize (lg_sl ([.int (nI c9), .int (nI 1), .int (nI (c9 / 2))]) ++ List.replicate (4 - (lg_sl ([.int (nI c9), .int (nI 1), .int (nI (c9 / 2))])).length) Slot.unset).toArray = ls at hl ⊢
  have hl : lv_has ls 4 [(0, .int (nI c9)), (1, .int (nI 1)), (2, .int (nI (c9 / 2)))] := hl
  refine lv_iload_n hx hb dJ8_newLength_cabcc_0 rfl (lv_at hl 0 rfl) ?_
  refine lv_iload_n hx hb dJ8_newLength_cabcc_1 rfl (lv_at hl 1 rfl) ?_
  refine lv_iload_n hx hb dJ8_newLength_cabcc_2 rfl (lv_at hl 2 rfl) ?_
  refine va_mmax hx hb (hml.trans hl.1.symm) hown (hts (.methodLink RJ8 194 Lib.Math.max.name) (by decide +kernel)) (hts (.static Lib.Math.max.name) (by decide +kernel)) (hts (.initialized "java/lang/Math") (by decide +kernel)) (hts (.code Lib.Math.max.name Lib.Math.max.code 2 (some .int)) (by decide +kernel)) (Nat.le_of_ble_eq_true rfl) (Nat.le_of_ble_eq_true rfl) (Nat.le_of_ble_eq_true rfl) (Nat.le_of_ble_eq_true rfl) dJ8_newLength_cabcc_3 ?_
  have e9 : (if nI 1 < nI (c9 / 2) then nI (c9 / 2) else nI 1) = nI (c9 / 2) := if_pos (nI_lt (by omega) (by omega))
  refine gw_as e9 ?_
  refine gw_iadd hx hb dJ8_newLength_cabcc_6 ?_
  refine lv_istore_n (lv' := [(3, .int (nI (c9 + (c9 / 2)))), (0, .int (nI c9)), (1, .int (nI 1)), (2, .int (nI (c9 / 2)))]) hx hb dJ8_newLength_cabcc_7 rfl hl (by decide) rfl (fun ls hl => ?_)
  refine lv_iconst (v := nI 0) hx hb dJ8_newLength_cabcc_8 (by decide) ?_
  refine lv_iload_n hx hb dJ8_newLength_cabcc_9 rfl (lv_at hl 0 rfl) ?_
  refine gw_icmp_ge hx hb (by omega) (by omega) (tgt := 21) dJ8_newLength_cabcc_10 (by decide) (fun hc => ?_) (fun hc => ?_)
  · exact absurd hc (by omega)
  · refine lv_iload_n hx hb dJ8_newLength_cabcc_13 rfl (lv_at hl 0 rfl) ?_
    refine lv_ldc (v := nI 2147483639) hx hb hown (hts (.constant RJ8 200 2147483639) (by decide +kernel)) dJ8_newLength_cabcc_14 ?_
    refine gw_icmp_gt hx hb (by omega) (by omega) (tgt := 21) dJ8_newLength_cabcc_16 (by decide) (fun hc => ?_) (fun hc => ?_)
    · exact absurd hc (by omega)
    · refine lv_iload_n hx hb dJ8_newLength_cabcc_19 rfl (lv_at hl 0 rfl) ?_
      exact gw_iret hx hb hr hlocks hG hT (by omega) (by omega) dJ8_newLength_cabcc_20 ⟨rfl, rfl⟩

set_option maxHeartbeats 4000000 in
set_option maxRecDepth 100000 in
/-- Arrays.copyOf(a, n, Object[].class) -/
theorem c_copy3 (l : Launch) (K : gw_C) (M : gw_M) (a cap n2 : Nat) (f : Nat → Option Nat) (ha : M a = some (.inl (K.2.1 3, cap, .inr (.inr (.inr (.inr f)))))) (h1 : cap ≤ n2) (h2 : n2 ≤ 150) (hel : ael M cap f) : Met l yJ7_copyOf_6403c wsJ7_copyOf_6403c ({ frames := 1, cells := 1, slots := 150, locals := 26 } : Room) (va_Pc [.ref a, .int (nI n2), .ref K.2.2.2.2] (gw_I K M)) (va_Qq (fun r M1 => ∃ q, r = some q ∧ M q = none ∧ M1 = gw_up M q (.inl (K.2.1 3, n2, .inr (.inr (.inr (.inr (va_cpy f (fun _ => none) 0 0 cap))))))) (gw_I K) (gw_A K)) 1 150 (gw_A K) := by
  refine Met.ofW (cc := cJ7_copyOf_6403c) (maxL := 4) (ret := (some (.array (.object "java/lang/Object")))) (by decide) rfl ?_
  intro p e s m args below meth c s₁ B hml hv
  obtain ⟨hav, hI⟩ := hv
  have hx := B.exec
  have hb := B.bytes
  have hr := B.returns
  have hts := atoms_spec (ws := wsJ7_copyOf_6403c) B.pre
  have hown : s.vm.findClass RJ7 = some m.cls := findClass_of_methodNamed B.named
  have hlocks : meth.locks = false := B.notSynchronized
  have hT := hI.2.2
  have hK := hT.K
  have hG := hI.B
  have hE : entryFrame m args 4 = entryFrame m ([.ref a, .int (nI n2), .ref K.2.2.2.2] : List Value).toArray 4 := by rw [hav]
  rw [hE]
  have hl := lv_entry ([.ref a, .int (nI n2), .ref K.2.2.2.2]) (n := 4) (Nat.le_of_ble_eq_true rfl)
  rw [lg_entry_eq]
  generalize (lg_sl ([.ref a, .int (nI n2), .ref K.2.2.2.2]) ++ List.replicate (4 - (lg_sl ([.ref a, .int (nI n2), .ref K.2.2.2.2])).length) Slot.unset).toArray = ls at hl ⊢
  have hl : lv_has ls 4 [(0, .ref a), (1, .int (nI n2)), (2, .ref K.2.2.2.2)] := hl
  refine lv_aload_n hx hb dJ7_copyOf_6403c_0 rfl (lv_at hl 2 rfl) ?_
  refine va_ldcM hx hb hown (hts (.classLink RJ7 110 "[Ljava/lang/Object;") (by decide +kernel)) hT.2.1.2.2.1 dJ7_copyOf_6403c_1 ?_
  refine lv_acmp_ne (rx := some K.2.2.2.2) (ry := some K.2.2.2.2) (tgt := 13) hx hb dJ7_copyOf_6403c_3 (by decide) (fun hc => absurd rfl hc) (fun _ => ?_)
  refine lv_iload_n hx hb dJ7_copyOf_6403c_6 rfl (lv_at hl 1 rfl) ?_
  refine gw_newq (C := "java/lang/Object") (n := nI n2) (N' := n2) hx hb hown (hts (.classLink RJ7 2 "java/lang/Object") (by decide +kernel)) hT.2.2.2.2.2.1.2 hK hG 3 rfl (nI_pos (by omega)) (nI_clamp (by omega)) (by omega) (Nat.le_of_ble_eq_true rfl) (show 0 + n2 ≤ 150 by omega) dJ7_copyOf_6403c_7 (fun q H hq hG => ?_)
  obtain ⟨M_19, hM_20⟩ : ∃ M1 : gw_M, M1 = gw_up M q (.inl (K.2.1 3, n2, .inr (.inr (.inr (.inr (fun _ => none)))))) := ⟨_, rfl⟩
  have hG : gw_B K M_19 s.heap H [] := by rw [hM_20]; exact hG
  have hne_22 : a ≠ q := gw_ne hq ha
  have hc_21 := (congrFun hM_20 a).trans (gw_k hne_22 ha)
  have hc_23 : M_19 q = some (.inl (K.2.1 3, n2, .inr (.inr (.inr (.inr (fun _ => none)))))) := (congrFun hM_20 _).trans gw_s
  refine W.widen (k := 1) (n := 150) (by omega) (by omega) ?_
  refine lv_goto (tgt := 24) hx hb dJ7_copyOf_6403c_10 (by decide) ?_
  refine lv_astore_n (lv' := [(3, .ref q), (0, .ref a), (1, .int (nI n2)), (2, .ref K.2.2.2.2)]) hx hb dJ7_copyOf_6403c_24 rfl hl (by decide) rfl (fun ls hl => ?_)
  refine lv_aload_n hx hb dJ7_copyOf_6403c_25 rfl (lv_at hl 1 rfl) ?_
  refine lv_iconst (v := nI 0) hx hb dJ7_copyOf_6403c_26 (by decide) ?_
  refine lv_aload_n hx hb dJ7_copyOf_6403c_27 rfl (lv_at hl 0 rfl) ?_
  refine lv_iconst (v := nI 0) hx hb dJ7_copyOf_6403c_28 (by decide) ?_
  refine lv_aload_n hx hb dJ7_copyOf_6403c_29 rfl (lv_at hl 1 rfl) ?_
  refine gw_alen hx hb hK hG hc_21 3 rfl (v := nI cap) rfl dJ7_copyOf_6403c_30 ?_
  refine lv_iload_n hx hb dJ7_copyOf_6403c_31 rfl (lv_at hl 2 rfl) ?_
  refine va_mmin hx hb (hml.trans hl.1.symm) hown (hts (.methodLink RJ7 304 Lib.Math.min.name) (by decide +kernel)) (hts (.static Lib.Math.min.name) (by decide +kernel)) (hts (.initialized "java/lang/Math") (by decide +kernel)) (hts (.code Lib.Math.min.name Lib.Math.min.code 2 (some .int)) (by decide +kernel)) (Nat.le_of_ble_eq_true rfl) (Nat.le_of_ble_eq_true rfl) (Nat.le_of_ble_eq_true rfl) (Nat.le_of_ble_eq_true rfl) dJ7_copyOf_6403c_32 ?_
  have e9 : (if nI n2 < nI cap then nI n2 else nI cap) = nI cap := if_neg (nI_nlt h1 (by omega))
  refine gw_as e9 ?_
  have hel9 : ∀ i : Nat, i < cap → ∀ y : Nat, f (0 + i) = some y → va_Any "java/lang/Object" s H y := by
    intro i hi y hy
    obtain ⟨y9, vs, e1, e2⟩ := hel i hi
    rw [Nat.zero_add, e1] at hy
    rw [← Option.some.inj hy]
    exact gw_any (ci := 2) hK hG ((congrFun hM_20 y9).trans (gw_o hq e2)) rfl hT.2.2.2.2.1.2
  refine gw_copyq (sp := 0) (dp := 0) (nn := cap) hx hb (hml.trans hl.1.symm) hown (hts (.methodLink RJ7 150 arraycopyName) (by decide +kernel)) (hts (.native arraycopyName) (by decide +kernel)) (hts (.static arraycopyName) (by decide +kernel)) (hts (.initialized "java/lang/System") (by decide +kernel)) hK hG hc_21 hc_23 3 rfl (by omega) (by omega) (by omega) (by omega) hel9 (Nat.le_of_ble_eq_true rfl) (Nat.le_of_ble_eq_true rfl) dJ7_copyOf_6403c_35 (fun H locs hG => ?_)
  obtain ⟨M_24, hM_25⟩ : ∃ M1 : gw_M, M1 = gw_up M_19 q (.inl (K.2.1 3, n2, .inr (.inr (.inr (.inr (va_cpy f (fun _ => none) 0 0 cap)))))) := ⟨_, rfl⟩
  have hG : gw_B K M_24 s.heap H locs := by rw [hM_25]; exact hG
  have hc_26 := (congrFun hM_25 a).trans (gw_k hne_22 hc_21)
  have hc_27 : M_24 q = some (.inl (K.2.1 3, n2, .inr (.inr (.inr (.inr (va_cpy f (fun _ => none) 0 0 cap)))))) := (congrFun hM_25 _).trans gw_s
  refine lv_aload_n hx hb dJ7_copyOf_6403c_38 rfl (lv_at hl 0 rfl) ?_
  exact gw_aret (v := some q) hx hb hr (Or.inr ⟨_, rfl⟩) hlocks hG hT (by omega) (by omega) dJ7_copyOf_6403c_39 ⟨q, rfl, hq, by rw [hM_25, hM_20, gw_uu]⟩

set_option maxHeartbeats 4000000 in
set_option maxRecDepth 100000 in
/-- Arrays.copyOf(a, n) -/
theorem c_copy2 (l : Launch) (K : gw_C) (M : gw_M) (a cap n2 : Nat) (f : Nat → Option Nat) (ha : M a = some (.inl (K.2.1 3, cap, .inr (.inr (.inr (.inr f)))))) (h1 : cap ≤ n2) (h2 : n2 ≤ 150) (hel : ael M cap f) : Met l yJ7_copyOf_1904c wsJ7_copyOf_1904c ({ frames := 2, cells := 1, slots := 150, locals := 49 } : Room) (va_Pc [.ref a, .int (nI n2)] (gw_I K M)) (va_Qq (fun r M1 => ∃ q, r = some q ∧ M q = none ∧ M1 = gw_up M q (.inl (K.2.1 3, n2, .inr (.inr (.inr (.inr (va_cpy f (fun _ => none) 0 0 cap))))))) (gw_I K) (gw_A K)) 1 150 (gw_A K) := by
  refine Met.ofW (cc := cJ7_copyOf_1904c) (maxL := 2) (ret := (some (.array (.object "java/lang/Object")))) (by decide) rfl ?_
  intro p e s m args below meth c s₁ B hml hv
  obtain ⟨hav, hI⟩ := hv
  have hx := B.exec
  have hb := B.bytes
  have hr := B.returns
  have hts := atoms_spec (ws := wsJ7_copyOf_1904c) B.pre
  have hown : s.vm.findClass RJ7 = some m.cls := findClass_of_methodNamed B.named
  have hlocks : meth.locks = false := B.notSynchronized
  have hT := hI.2.2
  have hK := hT.K
  have hG := hI.B
  have hE : entryFrame m args 2 = entryFrame m ([.ref a, .int (nI n2)] : List Value).toArray 2 := by rw [hav]
  rw [hE]
  have hl := lv_entry ([.ref a, .int (nI n2)]) (n := 2) (Nat.le_of_ble_eq_true rfl)
  rw [lg_entry_eq]
  generalize (lg_sl ([.ref a, .int (nI n2)]) ++ List.replicate (2 - (lg_sl ([.ref a, .int (nI n2)])).length) Slot.unset).toArray = ls at hl ⊢
  have hl : lv_has ls 2 [(0, .ref a), (1, .int (nI n2))] := hl
  refine lv_aload_n hx hb dJ7_copyOf_1904c_0 rfl (lv_at hl 0 rfl) ?_
  refine lv_iload_n hx hb dJ7_copyOf_1904c_1 rfl (lv_at hl 1 rfl) ?_
  refine lv_aload_n hx hb dJ7_copyOf_1904c_2 rfl (lv_at hl 0 rfl) ?_
  have hrec : ∃ cell : Cell, s.heap[a]? = some cell ∧ cell.vm.isStatics = false ∧ s.vm.findClass "[Ljava/lang/Object;" = some cell.cls := by
    obtain ⟨ws, hL, hP, hD, hS, h0⟩ := hG
    obtain ⟨q0, hq0⟩ := (hL _ _).mp ha
    exact ⟨_, hP q0 _ hq0, rfl, va_nmO (hK.2 3 _ rfl).2 (by decide)⟩
  refine va_getC (C := "[Ljava/lang/Object;") hx hb (hml.trans hl.1.symm) hown (hts (.methodLink RJ7 86 ⟨"java/lang/Object", "getClass", "()Ljava/lang/Class;"⟩) (by decide +kernel)) (va_Dc.use hT.2.1.2.2.2) (hts (.selects "[Ljava/lang/Object;" ⟨"java/lang/Object", "getClass", "()Ljava/lang/Class;"⟩ ⟨"java/lang/Object", "getClass", "()Ljava/lang/Class;"⟩) (by decide +kernel)) (hts (.instanceMethod ⟨"java/lang/Object", "getClass", "()Ljava/lang/Class;"⟩) (by decide +kernel)) (hts (.native ⟨"java/lang/Object", "getClass", "()Ljava/lang/Class;"⟩) (by decide +kernel)) hT.2.1.2.2.1 hrec (Nat.le_of_ble_eq_true rfl) (Nat.le_of_ble_eq_true rfl) dJ7_copyOf_1904c_3 ?_
  refine gw_callq (va_runS (As := [.ref a, .int (nI n2), .ref K.2.2.2.2]) (rest := []) ⟨hx, hb, hml, hown, hts⟩ (c_copy3 l K M a cap n2 f ha h1 h2 hel) (va_cwS 3 hts gJ7_copyOf_1904c_J7_copyOf_6403c rfl rfl rfl (by decide +kernel) ⟨Nat.le_of_ble_eq_true rfl, Nat.le_of_ble_eq_true rfl⟩) (gw_preS hG hT) rfl rfl hl.1 rfl (lv_room (Nat.le_of_ble_eq_true rfl)) dJ7_copyOf_1904c_6 ⟨Nat.le_of_ble_eq_true rfl, Nat.le_of_ble_eq_true rfl⟩) hG (fun r_28 M_29 H locs hw hG => ?_)
  obtain ⟨q, rfl, hq, hw⟩ := hw
  exact gw_aret (v := some q) hx hb hr (Or.inr ⟨_, rfl⟩) hlocks hG hT (by omega) (by omega) dJ7_copyOf_1904c_9 ⟨q, rfl, hq, hw⟩

set_option maxHeartbeats 4000000 in
set_option maxRecDepth 100000 in
/-- grow(n), of a full array -/
theorem c_growA (l : Launch) (K : gw_C) (M : gw_M) (w a cap : Nat) (mc : Int32) (f : Nat → Option Nat) (hw0 : M w = some (.inr (0, [.int mc, .ref a, .int (nI cap)]))) (ha : M a = some (.inl (K.2.1 3, cap, .inr (.inr (.inr (.inr f)))))) (h1 : 10 ≤ cap) (h2 : cap ≤ 100) (hel : ael M cap f) : Met l yJx4a65c_grow_92f84 wsJx4a65c_grow_92f84 ({ frames := 3, cells := 1, slots := 150, locals := 70 } : Room) (va_Pc [.ref w, .int (nI (cap + 1))] (gw_I K M)) (va_Qq (fun r M1 => ∃ q, r = some q ∧ M q = none ∧ M1 = gw_up (gw_up M q (.inl (K.2.1 3, cap + cap / 2, .inr (.inr (.inr (.inr (va_cpy f (fun _ => none) 0 0 cap))))))) w (.inr (0, [.int mc, .ref q, .int (nI cap)]))) (gw_I K) (gw_A K)) 1 150 (gw_A K) := by
  refine Met.ofW (cc := cJx4a65c_grow_92f84) (maxL := 4) (ret := (some (.array (.object "java/lang/Object")))) (by decide) rfl ?_
  intro p e s m args below meth c s₁ B hml hv
  obtain ⟨hav, hI⟩ := hv
  have hx := B.exec
  have hb := B.bytes
  have hr := B.returns
  have hts := atoms_spec (ws := wsJx4a65c_grow_92f84) B.pre
  have hown : s.vm.findClass RJx4a65c = some m.cls := findClass_of_methodNamed B.named
  have hlocks : meth.locks = false := B.notSynchronized
  have hT := hI.2.2
  have hK := hT.K
  have hG := hI.B
  have hf9 := hts (.fieldLink RJx4a65c 9 "java/util/ArrayList" "elementData" "[Ljava/lang/Object;") (by decide +kernel)
  have hf39 := hts (.fieldLink RJx4a65c 39 "java/util/ArrayList" "DEFAULTCAPACITY_EMPTY_ELEMENTDATA" "[Ljava/lang/Object;") (by decide +kernel)
  have hinJx4a65c : ∀ w ∈ wsJx4a65c0, w ∈ wsJx4a65c_grow_92f84 := by decide +kernel
  have hE : entryFrame m args 4 = entryFrame m ([.ref w, .int (nI (cap + 1))] : List Value).toArray 4 := by rw [hav]
  rw [hE]
  have hl := lv_entry ([.ref w, .int (nI (cap + 1))]) (n := 4) (Nat.le_of_ble_eq_true rfl)
  rw [lg_entry_eq]
  generalize (lg_sl ([.ref w, .int (nI (cap + 1))]) ++ List.replicate (4 - (lg_sl ([.ref w, .int (nI (cap + 1))])).length) Slot.unset).toArray = ls at hl ⊢
  have hl : lv_has ls 4 [(0, .ref w), (1, .int (nI (cap + 1)))] := hl
  refine lv_aload_n hx hb dJx4a65c_grow_92f84_0 rfl (lv_at hl 0 rfl) ?_
  refine gw_get (ci := 0) (C := RJx4a65c) (T := TJx4a65c) (N := 3) hx hb hts hinJx4a65c hown hK hG hw0 rfl 1 (by decide) hf9 (fun _ h9 => h9) rfl dJx4a65c_grow_92f84_1 ?_
  refine gw_alen hx hb hK hG ha 3 rfl (v := nI cap) rfl dJx4a65c_grow_92f84_4 ?_
  refine lv_istore_n (lv' := [(2, .int (nI cap)), (0, .ref w), (1, .int (nI (cap + 1)))]) hx hb dJx4a65c_grow_92f84_5 rfl hl (by decide) rfl (fun ls hl => ?_)
  refine lv_iload_n hx hb dJx4a65c_grow_92f84_6 rfl (lv_at hl 0 rfl) ?_
  refine lv_if_gt hx hb (tgt := 20) dJx4a65c_grow_92f84_7 (by decide) (fun hc => ?_) (fun hc => ?_)
  · refine lv_iload_n hx hb dJx4a65c_grow_92f84_20 rfl (lv_at hl 0 rfl) ?_
    refine lv_iload_n hx hb dJx4a65c_grow_92f84_21 rfl (lv_at hl 2 rfl) ?_
    refine lv_iload_n hx hb dJx4a65c_grow_92f84_22 rfl (lv_at hl 0 rfl) ?_
    refine gw_isub hx hb (by omega) dJx4a65c_grow_92f84_23 ?_
    refine lv_iload_n hx hb dJx4a65c_grow_92f84_24 rfl (lv_at hl 0 rfl) ?_
    refine lv_iconst (v := nI 1) hx hb dJx4a65c_grow_92f84_25 (by decide) ?_
    refine lv_ishr hx hb dJx4a65c_grow_92f84_26 ?_
    have e9 : nI cap >>> (nI 1 &&& 31) = nI (cap / 2) := by have k := pk_shrN (n := cap) (by omega) (nI 1 &&& 31) 1 (by decide); rw [Nat.pow_one] at k; exact k
    refine gw_as e9 ?_
    have e8 : cap + 1 - cap = 1 := by omega
    rw [e8]
    refine gw_calli (va_runS (As := [.int (nI cap), .int (nI 1), .int (nI (cap / 2))]) (rest := []) ⟨hx, hb, hml, hown, hts⟩ (c_newlen l K M cap h1 (by omega)) (va_cwS 3 hts gJx4a65c_grow_92f84_J8_newLength_cabcc rfl rfl rfl (by decide +kernel) ⟨Nat.le_of_ble_eq_true rfl, Nat.le_of_ble_eq_true rfl⟩) (gw_preS hG hT) rfl rfl hl.1 rfl (lv_room (Nat.le_of_ble_eq_true rfl)) dJx4a65c_grow_92f84_27 ⟨Nat.le_of_ble_eq_true rfl, Nat.le_of_ble_eq_true rfl⟩) hG (fun r_30 M_31 H locs hw hG => ?_)
    rw [hw.1] at hG
    refine gw_as hw.2 ?_
    refine lv_istore_n (lv' := [(3, .int (nI (cap + cap / 2))), (2, .int (nI cap)), (0, .ref w), (1, .int (nI (cap + 1)))]) hx hb dJx4a65c_grow_92f84_30 rfl hl (by decide) rfl (fun ls hl => ?_)
    refine lv_aload_n hx hb dJx4a65c_grow_92f84_31 rfl (lv_at hl 2 rfl) ?_
    refine lv_aload_n hx hb dJx4a65c_grow_92f84_32 rfl (lv_at hl 2 rfl) ?_
    refine gw_get (ci := 0) (C := RJx4a65c) (T := TJx4a65c) (N := 3) hx hb hts hinJx4a65c hown hK hG hw0 rfl 1 (by decide) hf9 (fun _ h9 => h9) rfl dJx4a65c_grow_92f84_33 ?_
    refine lv_iload_n hx hb dJx4a65c_grow_92f84_36 rfl (lv_at hl 0 rfl) ?_
    refine gw_callq (va_runS (As := [.ref a, .int (nI (cap + cap / 2))]) (rest := [.ref w]) ⟨hx, hb, hml, hown, hts⟩ (c_copy2 l K M a cap (cap + cap / 2) f ha (by omega) (by omega) hel) (va_cwS 2 hts gJx4a65c_grow_92f84_J7_copyOf_1904c rfl rfl rfl (by decide +kernel) ⟨Nat.le_of_ble_eq_true rfl, Nat.le_of_ble_eq_true rfl⟩) (gw_preS hG hT) rfl rfl hl.1 rfl (lv_room (Nat.le_of_ble_eq_true rfl)) dJx4a65c_grow_92f84_37 ⟨Nat.le_of_ble_eq_true rfl, Nat.le_of_ble_eq_true rfl⟩) hG (fun r_32 M_33 H locs hw hG => ?_)
    obtain ⟨q, rfl, hq, hw⟩ := hw
    have hM_34 := hw
    have hwq : w ≠ q := gw_ne hq hw0
    have hw1 := (congrFun hw w).trans (gw_k hwq hw0)
    have hstk : ∀ x : Value, x = va_rf (some q) → x = .ref q := fun x h => h
    refine lv_dup_x1 hx hb dJx4a65c_grow_92f84_40 rfl rfl ?_
    refine gw_put (ci := 0) (v := .ref q) (ty := .array (.object "java/lang/Object")) (C := RJx4a65c) (T := TJx4a65c) (N := 3) hx hb hts hinJx4a65c tyJx4a65c tyJx4a65c_ok nmJx4a65c hown hK hG hw1 rfl 1 (by decide) hf9 (fun _ h9 => h9) rfl (by decide +kernel) rfl rfl (Nat.le_of_ble_eq_true rfl) dJx4a65c_grow_92f84_41 (fun H locs hG => ?_)
    obtain ⟨M_35, hM_36⟩ : ∃ M1 : gw_M, M1 = gw_up M_33 w (.inr (0, [.int mc, .ref q, .int (nI cap)])) := ⟨_, rfl⟩
    have hG : gw_B K M_35 s.heap H locs := by rw [hM_36]; exact hG
    have hc_37 : M_35 w = some (.inr (0, [.int mc, .ref q, .int (nI cap)])) := (congrFun hM_36 _).trans gw_s
    exact gw_aret (v := some q) hx hb hr (Or.inr ⟨_, rfl⟩) hlocks hG hT (by omega) (by omega) dJx4a65c_grow_92f84_44 ⟨q, rfl, hq, by rw [hM_36, hM_34]⟩
  · exact absurd (show (0 : Int32) < nI cap from nI_lt (a := 0) (by omega) (by omega)) hc

set_option maxHeartbeats 4000000 in
set_option maxRecDepth 100000 in
/-- grow(1), the first time -/
theorem c_growE (l : Launch) (K : gw_C) (M : gw_M) (w : Nat) (mc : Int32) (hw0 : M w = some (.inr (0, [.int mc, .ref K.2.2.2.1, .int (nI 0)]))) : Met l yJx4a65c_grow_92f84 wsJx4a65c_grow_92f84 ({ frames := 3, cells := 1, slots := 150, locals := 70 } : Room) (va_Pc [.ref w, .int (nI 1)] (gw_I K M)) (va_Qq (fun r M1 => ∃ q, r = some q ∧ M q = none ∧ M1 = gw_up (gw_up M q (.inl (K.2.1 3, 10, .inr (.inr (.inr (.inr (fun _ => none))))))) w (.inr (0, [.int mc, .ref q, .int (nI 0)]))) (gw_I K) (gw_A K)) 1 150 (gw_A K) := by
  refine Met.ofW (cc := cJx4a65c_grow_92f84) (maxL := 4) (ret := (some (.array (.object "java/lang/Object")))) (by decide) rfl ?_
  intro p e s m args below meth c s₁ B hml hv
  obtain ⟨hav, hI⟩ := hv
  have hx := B.exec
  have hb := B.bytes
  have hr := B.returns
  have hts := atoms_spec (ws := wsJx4a65c_grow_92f84) B.pre
  have hown : s.vm.findClass RJx4a65c = some m.cls := findClass_of_methodNamed B.named
  have hlocks : meth.locks = false := B.notSynchronized
  have hT := hI.2.2
  have hK := hT.K
  have hG := hI.B
  have hf9 := hts (.fieldLink RJx4a65c 9 "java/util/ArrayList" "elementData" "[Ljava/lang/Object;") (by decide +kernel)
  have hf39 := hts (.fieldLink RJx4a65c 39 "java/util/ArrayList" "DEFAULTCAPACITY_EMPTY_ELEMENTDATA" "[Ljava/lang/Object;") (by decide +kernel)
  have hinJx4a65c : ∀ w ∈ wsJx4a65c0, w ∈ wsJx4a65c_grow_92f84 := by decide +kernel
  have hE : entryFrame m args 4 = entryFrame m ([.ref w, .int (nI 1)] : List Value).toArray 4 := by rw [hav]
  rw [hE]
  have hl := lv_entry ([.ref w, .int (nI 1)]) (n := 4) (Nat.le_of_ble_eq_true rfl)
  rw [lg_entry_eq]
  generalize (lg_sl ([.ref w, .int (nI 1)]) ++ List.replicate (4 - (lg_sl ([.ref w, .int (nI 1)])).length) Slot.unset).toArray = ls at hl ⊢
  have hl : lv_has ls 4 [(0, .ref w), (1, .int (nI 1))] := hl
  refine lv_aload_n hx hb dJx4a65c_grow_92f84_0 rfl (lv_at hl 0 rfl) ?_
  refine gw_get (ci := 0) (C := RJx4a65c) (T := TJx4a65c) (N := 3) hx hb hts hinJx4a65c hown hK hG hw0 rfl 1 (by decide) hf9 (fun _ h9 => h9) rfl dJx4a65c_grow_92f84_1 ?_
  refine va_tlen (v := nI 0) hx hb hT.2.1.2.1.2 hG.S rfl dJx4a65c_grow_92f84_4 ?_
  refine lv_istore_n (lv' := [(2, .int (nI 0)), (0, .ref w), (1, .int (nI 1))]) hx hb dJx4a65c_grow_92f84_5 rfl hl (by decide) rfl (fun ls hl => ?_)
  refine lv_iload_n hx hb dJx4a65c_grow_92f84_6 rfl (lv_at hl 0 rfl) ?_
  refine lv_if_gt hx hb (tgt := 20) dJx4a65c_grow_92f84_7 (by decide) (fun hc => ?_) (fun hc => ?_)
  · exact absurd hc (by decide)
  · refine lv_aload_n hx hb dJx4a65c_grow_92f84_10 rfl (lv_at hl 1 rfl) ?_
    refine gw_get (ci := 0) (C := RJx4a65c) (T := TJx4a65c) (N := 3) hx hb hts hinJx4a65c hown hK hG hw0 rfl 1 (by decide) hf9 (fun _ h9 => h9) rfl dJx4a65c_grow_92f84_11 ?_
    refine va_gets (v := .ref K.2.2.2.1) hx hb hT.2.1.2.1.1 hG.S hown hf39 (fun _ h9 => h9) dJx4a65c_grow_92f84_14 ?_
    refine lv_acmp_eq (rx := some K.2.2.2.1) (ry := some K.2.2.2.1) (tgt := 45) hx hb dJx4a65c_grow_92f84_17 (by decide) (fun _ => ?_) (fun hc => absurd rfl hc)
    refine lv_aload_n hx hb dJx4a65c_grow_92f84_45 rfl (lv_at hl 1 rfl) ?_
    refine lv_bipush (v := nI 10) hx hb dJx4a65c_grow_92f84_46 (by decide) ?_
    refine lv_iload_n hx hb dJx4a65c_grow_92f84_48 rfl (lv_at hl 2 rfl) ?_
    refine va_mmax hx hb (hml.trans hl.1.symm) hown (hts (.methodLink RJx4a65c 79 Lib.Math.max.name) (by decide +kernel)) (hts (.static Lib.Math.max.name) (by decide +kernel)) (hts (.initialized "java/lang/Math") (by decide +kernel)) (hts (.code Lib.Math.max.name Lib.Math.max.code 2 (some .int)) (by decide +kernel)) (Nat.le_of_ble_eq_true rfl) (Nat.le_of_ble_eq_true rfl) (Nat.le_of_ble_eq_true rfl) (Nat.le_of_ble_eq_true rfl) dJx4a65c_grow_92f84_49 ?_
    have e9 : (if nI 10 < nI 1 then nI 1 else nI 10) = nI 10 := by decide
    refine gw_as e9 ?_
    refine gw_newq (C := "java/lang/Object") (n := nI 10) (N' := 10) hx hb hown (hts (.classLink RJx4a65c 7 "java/lang/Object") (by decide +kernel)) hT.2.2.2.2.2.1.2 hK hG 3 rfl (by decide) (by decide) (by decide) (Nat.le_of_ble_eq_true rfl) (Nat.le_of_ble_eq_true rfl) dJx4a65c_grow_92f84_52 (fun q H hq hG => ?_)
    obtain ⟨M_38, hM_39⟩ : ∃ M1 : gw_M, M1 = gw_up M q (.inl (K.2.1 3, 10, .inr (.inr (.inr (.inr (fun _ => none)))))) := ⟨_, rfl⟩
    have hG : gw_B K M_38 s.heap H [] := by rw [hM_39]; exact hG
    have hne_41 : w ≠ q := gw_ne hq hw0
    have hc_40 := (congrFun hM_39 w).trans (gw_k hne_41 hw0)
    have hc_42 : M_38 q = some (.inl (K.2.1 3, 10, .inr (.inr (.inr (.inr (fun _ => none)))))) := (congrFun hM_39 _).trans gw_s
    refine lv_dup_x1 hx hb dJx4a65c_grow_92f84_55 rfl rfl ?_
    refine gw_put (ci := 0) (v := .ref q) (ty := .array (.object "java/lang/Object")) (C := RJx4a65c) (T := TJx4a65c) (N := 3) hx hb hts hinJx4a65c tyJx4a65c tyJx4a65c_ok nmJx4a65c hown hK hG hc_40 rfl 1 (by decide) hf9 (fun _ h9 => h9) rfl (by decide +kernel) rfl rfl (Nat.le_of_ble_eq_true rfl) dJx4a65c_grow_92f84_56 (fun H locs hG => ?_)
    obtain ⟨M_43, hM_44⟩ : ∃ M1 : gw_M, M1 = gw_up M_38 w (.inr (0, [.int mc, .ref q, .int (nI 0)])) := ⟨_, rfl⟩
    have hG : gw_B K M_43 s.heap H locs := by rw [hM_44]; exact hG
    have hc_45 : M_43 w = some (.inr (0, [.int mc, .ref q, .int (nI 0)])) := (congrFun hM_44 _).trans gw_s
    have hc_46 := (congrFun hM_44 q).trans (gw_k (Ne.symm hne_41) hc_42)
    exact gw_aret (v := some q) hx hb hr (Or.inr ⟨_, rfl⟩) hlocks hG hT (by omega) (by omega) dJx4a65c_grow_92f84_59 ⟨q, rfl, hq, by rw [hM_44, hM_39]⟩

set_option maxHeartbeats 4000000 in
set_option maxRecDepth 100000 in
/-- grow() -/
theorem c_grow0A (l : Launch) (K : gw_C) (M : gw_M) (w a cap : Nat) (mc : Int32) (f : Nat → Option Nat) (hw0 : M w = some (.inr (0, [.int mc, .ref a, .int (nI cap)]))) (ha : M a = some (.inl (K.2.1 3, cap, .inr (.inr (.inr (.inr f)))))) (h1 : 10 ≤ cap) (h2 : cap ≤ 100) (hel : ael M cap f) : Met l yJx4a65c_grow_d5877 wsJx4a65c_grow_d5877 ({ frames := 4, cells := 1, slots := 150, locals := 93 } : Room) (va_Pc [.ref w] (gw_I K M)) (va_Qq (fun r M1 => ∃ q, r = some q ∧ M q = none ∧ M1 = gw_up (gw_up M q (.inl (K.2.1 3, cap + cap / 2, .inr (.inr (.inr (.inr (va_cpy f (fun _ => none) 0 0 cap))))))) w (.inr (0, [.int mc, .ref q, .int (nI cap)]))) (gw_I K) (gw_A K)) 1 150 (gw_A K) := by
  refine Met.ofW (cc := cJx4a65c_grow_d5877) (maxL := 1) (ret := (some (.array (.object "java/lang/Object")))) (by decide) rfl ?_
  intro p e s m args below meth c s₁ B hml hv
  obtain ⟨hav, hI⟩ := hv
  have hx := B.exec
  have hb := B.bytes
  have hr := B.returns
  have hts := atoms_spec (ws := wsJx4a65c_grow_d5877) B.pre
  have hown : s.vm.findClass RJx4a65c = some m.cls := findClass_of_methodNamed B.named
  have hlocks : meth.locks = false := B.notSynchronized
  have hT := hI.2.2
  have hK := hT.K
  have hG := hI.B
  have hf9 := hts (.fieldLink RJx4a65c 9 "java/util/ArrayList" "elementData" "[Ljava/lang/Object;") (by decide +kernel)
  have hf39 := hts (.fieldLink RJx4a65c 39 "java/util/ArrayList" "DEFAULTCAPACITY_EMPTY_ELEMENTDATA" "[Ljava/lang/Object;") (by decide +kernel)
  have hf48 := hts (.fieldLink RJx4a65c 48 "java/util/ArrayList" "size" "I") (by decide +kernel)
  have hinJx4a65c : ∀ w ∈ wsJx4a65c0, w ∈ wsJx4a65c_grow_d5877 := by decide +kernel
  have hE : entryFrame m args 1 = entryFrame m ([.ref w] : List Value).toArray 1 := by rw [hav]
  rw [hE]
  have hl := lv_entry ([.ref w]) (n := 1) (Nat.le_of_ble_eq_true rfl)
  rw [lg_entry_eq]
  generalize (lg_sl ([.ref w]) ++ List.replicate (1 - (lg_sl ([.ref w])).length) Slot.unset).toArray = ls at hl ⊢
  have hl : lv_has ls 1 [(0, .ref w)] := hl
  refine lv_aload_n hx hb dJx4a65c_grow_d5877_0 rfl (lv_at hl 0 rfl) ?_
  refine lv_aload_n hx hb dJx4a65c_grow_d5877_1 rfl (lv_at hl 0 rfl) ?_
  refine gw_get (ci := 0) (C := RJx4a65c) (T := TJx4a65c) (N := 3) hx hb hts hinJx4a65c hown hK hG hw0 rfl 2 (by decide) hf48 (fun _ h9 => h9) rfl dJx4a65c_grow_d5877_2 ?_
  refine lv_iconst (v := nI 1) hx hb dJx4a65c_grow_d5877_5 (by decide) ?_
  refine gw_iadd hx hb dJx4a65c_grow_d5877_6 ?_
  refine gw_callq (va_runV (As := [.int (nI (cap + 1))]) (rest := []) ⟨hx, hb, hml, hown, hts⟩ (c_growA l K M w a cap mc f hw0 ha h1 h2 hel) (cwV 1 hts gJx4a65c_grow_d5877_Jx4a65c_grow_92f84 rfl rfl rfl (by decide +kernel) ⟨Nat.le_of_ble_eq_true rfl, Nat.le_of_ble_eq_true rfl⟩) (gw_preV hG hT hw0 rfl) rfl rfl hl.1 rfl (lv_room (Nat.le_of_ble_eq_true rfl)) dJx4a65c_grow_d5877_7 ⟨Nat.le_of_ble_eq_true rfl, Nat.le_of_ble_eq_true rfl⟩) hG (fun r_47 M_48 H locs hw hG => ?_)
  obtain ⟨q, rfl, hq, hw⟩ := hw
  exact gw_aret (v := some q) hx hb hr (Or.inr ⟨_, rfl⟩) hlocks hG hT (by omega) (by omega) dJx4a65c_grow_d5877_10 ⟨q, rfl, hq, hw⟩

set_option maxHeartbeats 4000000 in
set_option maxRecDepth 100000 in
/-- grow() -/
theorem c_grow0E (l : Launch) (K : gw_C) (M : gw_M) (w : Nat) (mc : Int32) (hw0 : M w = some (.inr (0, [.int mc, .ref K.2.2.2.1, .int (nI 0)]))) : Met l yJx4a65c_grow_d5877 wsJx4a65c_grow_d5877 ({ frames := 4, cells := 1, slots := 150, locals := 93 } : Room) (va_Pc [.ref w] (gw_I K M)) (va_Qq (fun r M1 => ∃ q, r = some q ∧ M q = none ∧ M1 = gw_up (gw_up M q (.inl (K.2.1 3, 10, .inr (.inr (.inr (.inr (fun _ => none))))))) w (.inr (0, [.int mc, .ref q, .int (nI 0)]))) (gw_I K) (gw_A K)) 1 150 (gw_A K) := by
  refine Met.ofW (cc := cJx4a65c_grow_d5877) (maxL := 1) (ret := (some (.array (.object "java/lang/Object")))) (by decide) rfl ?_
  intro p e s m args below meth c s₁ B hml hv
  obtain ⟨hav, hI⟩ := hv
  have hx := B.exec
  have hb := B.bytes
  have hr := B.returns
  have hts := atoms_spec (ws := wsJx4a65c_grow_d5877) B.pre
  have hown : s.vm.findClass RJx4a65c = some m.cls := findClass_of_methodNamed B.named
  have hlocks : meth.locks = false := B.notSynchronized
  have hT := hI.2.2
  have hK := hT.K
  have hG := hI.B
  have hf9 := hts (.fieldLink RJx4a65c 9 "java/util/ArrayList" "elementData" "[Ljava/lang/Object;") (by decide +kernel)
  have hf39 := hts (.fieldLink RJx4a65c 39 "java/util/ArrayList" "DEFAULTCAPACITY_EMPTY_ELEMENTDATA" "[Ljava/lang/Object;") (by decide +kernel)
  have hf48 := hts (.fieldLink RJx4a65c 48 "java/util/ArrayList" "size" "I") (by decide +kernel)
  have hinJx4a65c : ∀ w ∈ wsJx4a65c0, w ∈ wsJx4a65c_grow_d5877 := by decide +kernel
  have hE : entryFrame m args 1 = entryFrame m ([.ref w] : List Value).toArray 1 := by rw [hav]
  rw [hE]
  have hl := lv_entry ([.ref w]) (n := 1) (Nat.le_of_ble_eq_true rfl)
  rw [lg_entry_eq]
  generalize (lg_sl ([.ref w]) ++ List.replicate (1 - (lg_sl ([.ref w])).length) Slot.unset).toArray = ls at hl ⊢
  have hl : lv_has ls 1 [(0, .ref w)] := hl
  refine lv_aload_n hx hb dJx4a65c_grow_d5877_0 rfl (lv_at hl 0 rfl) ?_
  refine lv_aload_n hx hb dJx4a65c_grow_d5877_1 rfl (lv_at hl 0 rfl) ?_
  refine gw_get (ci := 0) (C := RJx4a65c) (T := TJx4a65c) (N := 3) hx hb hts hinJx4a65c hown hK hG hw0 rfl 2 (by decide) hf48 (fun _ h9 => h9) rfl dJx4a65c_grow_d5877_2 ?_
  refine lv_iconst (v := nI 1) hx hb dJx4a65c_grow_d5877_5 (by decide) ?_
  refine gw_iadd hx hb dJx4a65c_grow_d5877_6 ?_
  rw [show (0 : Nat) + 1 = 1 from rfl]
  refine gw_callq (va_runV (As := [.int (nI 1)]) (rest := []) ⟨hx, hb, hml, hown, hts⟩ (c_growE l K M w mc hw0) (cwV 1 hts gJx4a65c_grow_d5877_Jx4a65c_grow_92f84 rfl rfl rfl (by decide +kernel) ⟨Nat.le_of_ble_eq_true rfl, Nat.le_of_ble_eq_true rfl⟩) (gw_preV hG hT hw0 rfl) rfl rfl hl.1 rfl (lv_room (Nat.le_of_ble_eq_true rfl)) dJx4a65c_grow_d5877_7 ⟨Nat.le_of_ble_eq_true rfl, Nat.le_of_ble_eq_true rfl⟩) hG (fun r_49 M_50 H locs hw hG => ?_)
  obtain ⟨q, rfl, hq, hw⟩ := hw
  exact gw_aret (v := some q) hx hb hr (Or.inr ⟨_, rfl⟩) hlocks hG hT (by omega) (by omega) dJx4a65c_grow_d5877_10 ⟨q, rfl, hq, hw⟩

/-- what add has done to a list -/
def aladd (K : gw_C) (M M1 : gw_M) (w a sz : Nat) (mc : Int32) (f : Nat → Option Nat) (y : Nat) : Prop :=
  ∃ (a1 cap1 : Nat) (f1 : Nat → Option Nat), al K M1 w a1 cap1 (sz + 1) mc f1 ∧ (∀ k, k < sz → f1 k = f k) ∧ f1 sz = some y ∧ (a1 = a ∨ M a1 = none) ∧ ∀ q e, q ≠ w → q ≠ a → M q = some e → M1 q = some e

set_option maxHeartbeats 4000000 in
set_option maxRecDepth 100000 in
/-- add(e, es, s) -/
theorem c_add2 (l : Launch) (K : gw_C) (M : gw_M) (w a cap sz : Nat) (mc : Int32) (f : Nat → Option Nat) (y : Nat) (vs : List Value) (hal : al K M w a cap sz mc f) (hel : ael M sz f) (hy : M y = some (.inr (2, vs))) (hs9 : sz < 100) : Met l yJx4a65c_add_72be8 wsJx4a65c_add_72be8 ({ frames := 5, cells := 1, slots := 150, locals := 113 } : Room) (va_Pc [.ref w, .ref y, .ref a, .int (nI sz)] (gw_I K M)) (va_Qv (fun M1 => aladd K M M1 w a sz mc f y) (gw_I K) (gw_A K)) 1 150 (gw_A K) := by
  refine Met.ofW (cc := cJx4a65c_add_72be8) (maxL := 4) (ret := none) (by decide) rfl ?_
  intro p e s m args below meth c s₁ B hml hv
  obtain ⟨hav, hI⟩ := hv
  have hx := B.exec
  have hb := B.bytes
  have hr := B.returns
  have hts := atoms_spec (ws := wsJx4a65c_add_72be8) B.pre
  have hown : s.vm.findClass RJx4a65c = some m.cls := findClass_of_methodNamed B.named
  have hlocks : meth.locks = false := B.notSynchronized
  have hT := hI.2.2
  have hK := hT.K
  have hG := hI.B
  have hf9 := hts (.fieldLink RJx4a65c 9 "java/util/ArrayList" "elementData" "[Ljava/lang/Object;") (by decide +kernel)
  have hf39 := hts (.fieldLink RJx4a65c 39 "java/util/ArrayList" "DEFAULTCAPACITY_EMPTY_ELEMENTDATA" "[Ljava/lang/Object;") (by decide +kernel)
  have hf48 := hts (.fieldLink RJx4a65c 48 "java/util/ArrayList" "size" "I") (by decide +kernel)
  have hinJx4a65c : ∀ w ∈ wsJx4a65c0, w ∈ wsJx4a65c_add_72be8 := by decide +kernel
  have hE : entryFrame m args 4 = entryFrame m ([.ref w, .ref y, .ref a, .int (nI sz)] : List Value).toArray 4 := by rw [hav]
  rw [hE]
  have hl := lv_entry ([.ref w, .ref y, .ref a, .int (nI sz)]) (n := 4) (Nat.le_of_ble_eq_true rfl)
  rw [lg_entry_eq]
  generalize (lg_sl ([.ref w, .ref y, .ref a, .int (nI sz)]) ++ List.replicate (4 - (lg_sl ([.ref w, .ref y, .ref a, .int (nI sz)])).length) Slot.unset).toArray = ls at hl ⊢
  have hl : lv_has ls 4 [(0, .ref w), (1, .ref y), (2, .ref a), (3, .int (nI sz))] := hl
  obtain ⟨hw0, hs, hcase⟩ := id hal
  rcases hcase with ⟨ea, ec, es⟩ | ⟨ha, h1, h2, h3⟩
  · subst es
    rw [ea] at hl
    rw [ea] at hw0
    refine lv_iload_n hx hb dJx4a65c_add_72be8_0 rfl (lv_at hl 3 rfl) ?_
    refine lv_aload_n hx hb dJx4a65c_add_72be8_1 rfl (lv_at hl 2 rfl) ?_
    refine va_tlen (v := nI 0) hx hb hT.2.1.2.1.2 hG.S rfl dJx4a65c_add_72be8_2 ?_
    refine gw_icmp_ne hx hb (by omega) (by omega) (tgt := 11) dJx4a65c_add_72be8_3 (by decide) (fun hc => ?_) (fun hc => ?_)
    · exact absurd hc (by omega)
    · refine lv_aload_n hx hb dJx4a65c_add_72be8_6 rfl (lv_at hl 0 rfl) ?_
      refine gw_callq (va_runV (As := []) (rest := []) ⟨hx, hb, hml, hown, hts⟩ (c_grow0E l K M w mc hw0) (cwV 0 hts gJx4a65c_add_72be8_Jx4a65c_grow_d5877 rfl rfl rfl (by decide +kernel) ⟨Nat.le_of_ble_eq_true rfl, Nat.le_of_ble_eq_true rfl⟩) (gw_preV hG hT hw0 rfl) rfl rfl hl.1 rfl (lv_room (Nat.le_of_ble_eq_true rfl)) dJx4a65c_add_72be8_7 ⟨Nat.le_of_ble_eq_true rfl, Nat.le_of_ble_eq_true rfl⟩) hG (fun r_51 M_52 H locs hw hG => ?_)
      obtain ⟨q, rfl, hq, hw⟩ := hw
      have hwq : w ≠ q := gw_ne hq hw0
      have hyq : y ≠ q := gw_ne hq hy
      have hyw : y ≠ w := fun z => by rw [z, hw0] at hy; cases hy
      have hcq := (congrFun hw q).trans (gw_k (Ne.symm hwq) gw_s)
      have hcw := (congrFun hw w).trans gw_s
      have hcy := (congrFun hw y).trans (gw_k hyw (gw_k hyq hy))
      have hw9 := hw
      refine W.widen (k := 1) (n := 150) (by omega) (by omega) ?_
      refine lv_astore_n (lv' := [(2, .ref q), (0, .ref w), (1, .ref y), (3, .int (nI 0))]) hx hb dJx4a65c_add_72be8_10 rfl hl (by decide) rfl (fun ls hl => ?_)
      refine lv_aload_n hx hb dJx4a65c_add_72be8_11 rfl (lv_at hl 0 rfl) ?_
      refine lv_iload_n hx hb dJx4a65c_add_72be8_12 rfl (lv_at hl 3 rfl) ?_
      refine lv_aload_n hx hb dJx4a65c_add_72be8_13 rfl (lv_at hl 2 rfl) ?_
      refine gw_astq_n (r := (RX1, TX1, 3)) hx hb hK hG hcq 3 rfl hT.2.2.2.2.1.2 2 hcy rfl (by omega) (by omega) dJx4a65c_add_72be8_14 (fun H locs hG => ?_)
      obtain ⟨M_53, hM_54⟩ : ∃ M1 : gw_M, M1 = gw_up M_52 q (.inl (K.2.1 3, 10, .inr (.inr (.inr (.inr (va_up (fun _ => none) 0 (some y))))))) := ⟨_, rfl⟩
      have hG : gw_B K M_53 s.heap H locs := by rw [hM_54]; exact hG
      have hc_55 : M_53 q = some (.inl (K.2.1 3, 10, .inr (.inr (.inr (.inr (va_up (fun _ => none) 0 (some y))))))) := (congrFun hM_54 _).trans gw_s
      have hc_56 := (congrFun hM_54 w).trans (gw_k hwq hcw)
      have hc_57 := (congrFun hM_54 y).trans (gw_k hyq hcy)
      refine lv_aload_n hx hb dJx4a65c_add_72be8_15 rfl (lv_at hl 1 rfl) ?_
      refine lv_iload_n hx hb dJx4a65c_add_72be8_16 rfl (lv_at hl 3 rfl) ?_
      refine lv_iconst (v := nI 1) hx hb dJx4a65c_add_72be8_17 (by decide) ?_
      refine gw_iadd hx hb dJx4a65c_add_72be8_18 ?_
      refine gw_put (ci := 0) (v := .int (nI (0 + 1))) (ty := .int) (C := RJx4a65c) (T := TJx4a65c) (N := 3) hx hb hts hinJx4a65c tyJx4a65c tyJx4a65c_ok nmJx4a65c hown hK hG hc_56 rfl 2 (by decide) hf48 (fun _ h9 => h9) rfl (by decide +kernel) rfl rfl (Nat.le_of_ble_eq_true rfl) dJx4a65c_add_72be8_19 (fun H locs hG => ?_)
      obtain ⟨M_58, hM_59⟩ : ∃ M1 : gw_M, M1 = gw_up M_53 w (.inr (0, [.int mc, .ref q, .int (nI (0 + 1))])) := ⟨_, rfl⟩
      have hG : gw_B K M_58 s.heap H locs := by rw [hM_59]; exact hG
      have hc_60 := (congrFun hM_59 q).trans (gw_k (Ne.symm hwq) hc_55)
      have hc_61 : M_58 w = some (.inr (0, [.int mc, .ref q, .int (nI (0 + 1))])) := (congrFun hM_59 _).trans gw_s
      have hc_62 := (congrFun hM_59 y).trans (gw_k hyw hc_57)
      exact gw_vret hx hb hr hlocks hG hT (by omega) (by omega) dJx4a65c_add_72be8_22 ⟨q, 10, _, ⟨hc_61, by omega, Or.inr ⟨hc_60, by omega, by omega, by omega⟩⟩, fun k hk => absurd hk (by omega), va_up_self _ _ _, Or.inr hq, fun q9 e9 g1 g2 g3 => (congrFun hM_59 q9).trans (gw_k g1 ((congrFun hM_54 q9).trans (gw_k (gw_ne hq g3) ((congrFun hw9 q9).trans (gw_k g1 (gw_k (gw_ne hq g3) g3))))))⟩
  · have hwa : w ≠ a := gw_io hw0 ha
    have hya : y ≠ a := gw_io hy ha
    have hyw0 : y ≠ w := fun z => by rw [z, hw0] at hy; cases hy
    refine lv_iload_n hx hb dJx4a65c_add_72be8_0 rfl (lv_at hl 3 rfl) ?_
    refine lv_aload_n hx hb dJx4a65c_add_72be8_1 rfl (lv_at hl 2 rfl) ?_
    refine gw_alen hx hb hK hG ha 3 rfl (v := nI cap) rfl dJx4a65c_add_72be8_2 ?_
    refine gw_icmp_ne hx hb (by omega) (by omega) (tgt := 11) dJx4a65c_add_72be8_3 (by decide) (fun hc => ?_) (fun hc => ?_)
    · refine lv_aload_n hx hb dJx4a65c_add_72be8_11 rfl (lv_at hl 2 rfl) ?_
      refine lv_iload_n hx hb dJx4a65c_add_72be8_12 rfl (lv_at hl 3 rfl) ?_
      refine lv_aload_n hx hb dJx4a65c_add_72be8_13 rfl (lv_at hl 1 rfl) ?_
      refine gw_astq_n (r := (RX1, TX1, 3)) hx hb hK hG ha 3 rfl hT.2.2.2.2.1.2 2 hy rfl (by omega) (by omega) dJx4a65c_add_72be8_14 (fun H locs hG => ?_)
      obtain ⟨M_63, hM_64⟩ : ∃ M1 : gw_M, M1 = gw_up M a (.inl (K.2.1 3, cap, .inr (.inr (.inr (.inr (va_up f sz (some y))))))) := ⟨_, rfl⟩
      have hG : gw_B K M_63 s.heap H locs := by rw [hM_64]; exact hG
      have hc_65 := (congrFun hM_64 w).trans (gw_k hwa hw0)
      have hc_66 : M_63 a = some (.inl (K.2.1 3, cap, .inr (.inr (.inr (.inr (va_up f sz (some y))))))) := (congrFun hM_64 _).trans gw_s
      have hc_67 := (congrFun hM_64 y).trans (gw_k hya hy)
      refine lv_aload_n hx hb dJx4a65c_add_72be8_15 rfl (lv_at hl 0 rfl) ?_
      refine lv_iload_n hx hb dJx4a65c_add_72be8_16 rfl (lv_at hl 3 rfl) ?_
      refine lv_iconst (v := nI 1) hx hb dJx4a65c_add_72be8_17 (by decide) ?_
      refine gw_iadd hx hb dJx4a65c_add_72be8_18 ?_
      refine gw_put (ci := 0) (v := .int (nI (sz + 1))) (ty := .int) (C := RJx4a65c) (T := TJx4a65c) (N := 3) hx hb hts hinJx4a65c tyJx4a65c tyJx4a65c_ok nmJx4a65c hown hK hG hc_65 rfl 2 (by decide) hf48 (fun _ h9 => h9) rfl (by decide +kernel) rfl rfl (Nat.le_of_ble_eq_true rfl) dJx4a65c_add_72be8_19 (fun H locs hG => ?_)
      obtain ⟨M_68, hM_69⟩ : ∃ M1 : gw_M, M1 = gw_up M_63 w (.inr (0, [.int mc, .ref a, .int (nI (sz + 1))])) := ⟨_, rfl⟩
      have hG : gw_B K M_68 s.heap H locs := by rw [hM_69]; exact hG
      have hc_70 : M_68 w = some (.inr (0, [.int mc, .ref a, .int (nI (sz + 1))])) := (congrFun hM_69 _).trans gw_s
      have hc_71 := (congrFun hM_69 a).trans (gw_k (Ne.symm hwa) hc_66)
      have hc_72 := (congrFun hM_69 y).trans (gw_k hyw0 hc_67)
      exact gw_vret hx hb hr hlocks hG hT (by omega) (by omega) dJx4a65c_add_72be8_22 ⟨a, cap, _, ⟨hc_70, by omega, Or.inr ⟨hc_71, by omega, by omega, by omega⟩⟩, fun k hk => va_up_ne _ _ (by omega), va_up_self _ _ _, Or.inl rfl, fun q9 e9 g1 g2 g3 => (congrFun hM_69 q9).trans (gw_k g1 ((congrFun hM_64 q9).trans (gw_k g2 g3)))⟩
    · obtain rfl : sz = cap := hc
      refine lv_aload_n hx hb dJx4a65c_add_72be8_6 rfl (lv_at hl 0 rfl) ?_
      refine gw_callq (va_runV (As := []) (rest := []) ⟨hx, hb, hml, hown, hts⟩ (c_grow0A l K M w a sz mc f hw0 ha h2 (by omega) hel) (cwV 0 hts gJx4a65c_add_72be8_Jx4a65c_grow_d5877 rfl rfl rfl (by decide +kernel) ⟨Nat.le_of_ble_eq_true rfl, Nat.le_of_ble_eq_true rfl⟩) (gw_preV hG hT hw0 rfl) rfl rfl hl.1 rfl (lv_room (Nat.le_of_ble_eq_true rfl)) dJx4a65c_add_72be8_7 ⟨Nat.le_of_ble_eq_true rfl, Nat.le_of_ble_eq_true rfl⟩) hG (fun r_73 M_74 H locs hw hG => ?_)
      obtain ⟨q, rfl, hq, hw⟩ := hw
      have hwq : w ≠ q := gw_ne hq hw0
      have hyq : y ≠ q := gw_ne hq hy
      have hyw : y ≠ w := fun z => by rw [z, hw0] at hy; cases hy
      have hcq := (congrFun hw q).trans (gw_k (Ne.symm hwq) gw_s)
      have hcw := (congrFun hw w).trans gw_s
      have hcy := (congrFun hw y).trans (gw_k hyw (gw_k hyq hy))
      have hw9 := hw
      refine W.widen (k := 1) (n := 150) (by omega) (by omega) ?_
      refine lv_astore_n (lv' := [(2, .ref q), (0, .ref w), (1, .ref y), (3, .int (nI sz))]) hx hb dJx4a65c_add_72be8_10 rfl hl (by decide) rfl (fun ls hl => ?_)
      refine lv_aload_n hx hb dJx4a65c_add_72be8_11 rfl (lv_at hl 0 rfl) ?_
      refine lv_iload_n hx hb dJx4a65c_add_72be8_12 rfl (lv_at hl 3 rfl) ?_
      refine lv_aload_n hx hb dJx4a65c_add_72be8_13 rfl (lv_at hl 2 rfl) ?_
      refine gw_astq_n (r := (RX1, TX1, 3)) hx hb hK hG hcq 3 rfl hT.2.2.2.2.1.2 2 hcy rfl (by omega) (by omega) dJx4a65c_add_72be8_14 (fun H locs hG => ?_)
      obtain ⟨M_75, hM_76⟩ : ∃ M1 : gw_M, M1 = gw_up M_74 q (.inl (K.2.1 3, sz + sz / 2, .inr (.inr (.inr (.inr (va_up (va_cpy f (fun _ => none) 0 0 sz) sz (some y))))))) := ⟨_, rfl⟩
      have hG : gw_B K M_75 s.heap H locs := by rw [hM_76]; exact hG
      have hc_77 : M_75 q = some (.inl (K.2.1 3, sz + sz / 2, .inr (.inr (.inr (.inr (va_up (va_cpy f (fun _ => none) 0 0 sz) sz (some y))))))) := (congrFun hM_76 _).trans gw_s
      have hc_78 := (congrFun hM_76 w).trans (gw_k hwq hcw)
      have hc_79 := (congrFun hM_76 y).trans (gw_k hyq hcy)
      refine lv_aload_n hx hb dJx4a65c_add_72be8_15 rfl (lv_at hl 1 rfl) ?_
      refine lv_iload_n hx hb dJx4a65c_add_72be8_16 rfl (lv_at hl 3 rfl) ?_
      refine lv_iconst (v := nI 1) hx hb dJx4a65c_add_72be8_17 (by decide) ?_
      refine gw_iadd hx hb dJx4a65c_add_72be8_18 ?_
      refine gw_put (ci := 0) (v := .int (nI (sz + 1))) (ty := .int) (C := RJx4a65c) (T := TJx4a65c) (N := 3) hx hb hts hinJx4a65c tyJx4a65c tyJx4a65c_ok nmJx4a65c hown hK hG hc_78 rfl 2 (by decide) hf48 (fun _ h9 => h9) rfl (by decide +kernel) rfl rfl (Nat.le_of_ble_eq_true rfl) dJx4a65c_add_72be8_19 (fun H locs hG => ?_)
      obtain ⟨M_80, hM_81⟩ : ∃ M1 : gw_M, M1 = gw_up M_75 w (.inr (0, [.int mc, .ref q, .int (nI (sz + 1))])) := ⟨_, rfl⟩
      have hG : gw_B K M_80 s.heap H locs := by rw [hM_81]; exact hG
      have hc_82 := (congrFun hM_81 q).trans (gw_k (Ne.symm hwq) hc_77)
      have hc_83 : M_80 w = some (.inr (0, [.int mc, .ref q, .int (nI (sz + 1))])) := (congrFun hM_81 _).trans gw_s
      have hc_84 := (congrFun hM_81 y).trans (gw_k hyw hc_79)
      exact gw_vret hx hb hr hlocks hG hT (by omega) (by omega) dJx4a65c_add_72be8_22 ⟨q, sz + sz / 2, _, ⟨hc_83, by omega, Or.inr ⟨hc_82, by omega, by omega, by omega⟩⟩, fun k hk => by rw [va_up_ne _ _ (by omega), pk_cpy_in (by omega) (by omega), Nat.zero_add, Nat.sub_zero], va_up_self _ _ _, Or.inr hq, fun q9 e9 g1 g2 g3 => (congrFun hM_81 q9).trans (gw_k g1 ((congrFun hM_76 q9).trans (gw_k (gw_ne hq g3) ((congrFun hw9 q9).trans (gw_k g1 (gw_k (gw_ne hq g3) g3))))))⟩

set_option maxHeartbeats 4000000 in
set_option maxRecDepth 100000 in
/-- add(e) -/
theorem c_add1 (l : Launch) (K : gw_C) (M : gw_M) (w a cap sz : Nat) (mc : Int32) (f : Nat → Option Nat) (y : Nat) (vs : List Value) (hal : al K M w a cap sz mc f) (hel : ael M sz f) (hy : M y = some (.inr (2, vs))) (hs9 : sz < 100) : Met l yJx4a65c_add_9ea2d wsJx4a65c_add_9ea2d ({ frames := 6, cells := 1, slots := 150, locals := 136 } : Room) (va_Pc [.ref w, .ref y] (gw_I K M)) (va_Qi (fun r M1 => r = nI 1 ∧ aladd K M M1 w a sz (mc + nI 1) f y) (gw_I K) (gw_A K)) 1 150 (gw_A K) := by
  refine Met.ofW (cc := cJx4a65c_add_9ea2d) (maxL := 2) (ret := (some .boolean)) (by decide) rfl ?_
  intro p e s m args below meth c s₁ B hml hv
  obtain ⟨hav, hI⟩ := hv
  have hx := B.exec
  have hb := B.bytes
  have hr := B.returns
  have hts := atoms_spec (ws := wsJx4a65c_add_9ea2d) B.pre
  have hown : s.vm.findClass RJx4a65c = some m.cls := findClass_of_methodNamed B.named
  have hlocks : meth.locks = false := B.notSynchronized
  have hT := hI.2.2
  have hK := hT.K
  have hG := hI.B
  have hf9 := hts (.fieldLink RJx4a65c 9 "java/util/ArrayList" "elementData" "[Ljava/lang/Object;") (by decide +kernel)
  have hf39 := hts (.fieldLink RJx4a65c 39 "java/util/ArrayList" "DEFAULTCAPACITY_EMPTY_ELEMENTDATA" "[Ljava/lang/Object;") (by decide +kernel)
  have hf48 := hts (.fieldLink RJx4a65c 48 "java/util/ArrayList" "size" "I") (by decide +kernel)
  have hf63 := hts (.fieldLink RJx4a65c 63 "java/util/ArrayList" "modCount" "I") (by decide +kernel)
  have hinJx4a65c : ∀ w ∈ wsJx4a65c0, w ∈ wsJx4a65c_add_9ea2d := by decide +kernel
  have hE : entryFrame m args 2 = entryFrame m ([.ref w, .ref y] : List Value).toArray 2 := by rw [hav]
  rw [hE]
  have hl := lv_entry ([.ref w, .ref y]) (n := 2) (Nat.le_of_ble_eq_true rfl)
  rw [lg_entry_eq]
  generalize (lg_sl ([.ref w, .ref y]) ++ List.replicate (2 - (lg_sl ([.ref w, .ref y])).length) Slot.unset).toArray = ls at hl ⊢
  have hl : lv_has ls 2 [(0, .ref w), (1, .ref y)] := hl
  have hsf63 := hts (.sameField "java/util/ArrayList" "java/util/AbstractList" "modCount" "I") (by decide +kernel)
  obtain ⟨hw0, hs, hcase⟩ := id hal
  have hyw : y ≠ w := fun z => by rw [z, hw0] at hy; cases hy
  refine lv_aload_n hx hb dJx4a65c_add_9ea2d_0 rfl (lv_at hl 0 rfl) ?_
  refine lv_dup hx hb dJx4a65c_add_9ea2d_1 rfl ?_
  refine gw_get (ci := 0) (C := RJx4a65c) (T := TJx4a65c) (N := 3) hx hb hts hinJx4a65c hown hK hG hw0 rfl 0 (by decide) hf63 (fun x9 h9 => u_same hsf63 x9 h9) rfl dJx4a65c_add_9ea2d_2 ?_
  refine lv_iconst (v := nI 1) hx hb dJx4a65c_add_9ea2d_5 (by decide) ?_
  refine lv_iadd hx hb dJx4a65c_add_9ea2d_6 ?_
  refine gw_put (ci := 0) (v := .int (mc + (nI 1))) (ty := .int) (C := RJx4a65c) (T := TJx4a65c) (N := 3) hx hb hts hinJx4a65c tyJx4a65c tyJx4a65c_ok nmJx4a65c hown hK hG hw0 rfl 0 (by decide) hf63 (fun x9 h9 => u_same hsf63 x9 h9) rfl (by decide +kernel) rfl rfl (Nat.le_of_ble_eq_true rfl) dJx4a65c_add_9ea2d_7 (fun H locs hG => ?_)
  obtain ⟨M_85, hM_86⟩ : ∃ M1 : gw_M, M1 = gw_up M w (.inr (0, [.int (mc + (nI 1)), .ref a, .int (nI sz)])) := ⟨_, rfl⟩
  have hG : gw_B K M_85 s.heap H locs := by rw [hM_86]; exact hG
  have hc_87 : M_85 w = some (.inr (0, [.int (mc + (nI 1)), .ref a, .int (nI sz)])) := (congrFun hM_86 _).trans gw_s
  have hc_88 := (congrFun hM_86 y).trans (gw_k hyw hy)
  refine lv_aload_n hx hb dJx4a65c_add_9ea2d_10 rfl (lv_at hl 0 rfl) ?_
  refine lv_aload_n hx hb dJx4a65c_add_9ea2d_11 rfl (lv_at hl 1 rfl) ?_
  refine lv_aload_n hx hb dJx4a65c_add_9ea2d_12 rfl (lv_at hl 0 rfl) ?_
  refine gw_get (ci := 0) (C := RJx4a65c) (T := TJx4a65c) (N := 3) hx hb hts hinJx4a65c hown hK hG hc_87 rfl 1 (by decide) hf9 (fun _ h9 => h9) rfl dJx4a65c_add_9ea2d_13 ?_
  refine lv_aload_n hx hb dJx4a65c_add_9ea2d_16 rfl (lv_at hl 0 rfl) ?_
  refine gw_get (ci := 0) (C := RJx4a65c) (T := TJx4a65c) (N := 3) hx hb hts hinJx4a65c hown hK hG hc_87 rfl 2 (by decide) hf48 (fun _ h9 => h9) rfl dJx4a65c_add_9ea2d_17 ?_
  have hcw9 := (congrFun hM_86 w).trans gw_s
  have hal1 : al K M_85 w a cap sz (mc + nI 1) f := ⟨hc_87, hs, hcase.imp id (fun z => ⟨(congrFun hM_86 a).trans (gw_k (Ne.symm (gw_io hw0 z.1)) z.1), z.2⟩)⟩
  have hel1 : ael M_85 sz f := fun k hk => by obtain ⟨y9, v9, e1, e2⟩ := hel k hk; exact ⟨y9, v9, e1, (congrFun hM_86 y9).trans (gw_k (fun z => by rw [z, hw0] at e2; cases e2) e2)⟩
  refine gw_callv (va_runV (As := [.ref y, .ref a, .int (nI sz)]) (rest := []) ⟨hx, hb, hml, hown, hts⟩ (c_add2 l K M_85 w a cap sz (mc + nI 1) f y vs hal1 hel1 hc_88 hs9) (cwV 3 hts gJx4a65c_add_9ea2d_Jx4a65c_add_72be8 rfl rfl rfl (by decide +kernel) ⟨Nat.le_of_ble_eq_true rfl, Nat.le_of_ble_eq_true rfl⟩) (gw_preV hG hT hc_87 rfl) rfl rfl hl.1 rfl (lv_room (Nat.le_of_ble_eq_true rfl)) dJx4a65c_add_9ea2d_20 ⟨Nat.le_of_ble_eq_true rfl, Nat.le_of_ble_eq_true rfl⟩) hG (fun M_90 H locs hw hG => ?_)
  obtain ⟨a1, cap1, f1, k1, k2, k3, k4, k5⟩ := hw
  refine lv_iconst (v := nI 1) hx hb dJx4a65c_add_9ea2d_23 (by decide) ?_
  have k4b : a1 = a ∨ M a1 = none := k4.imp id (fun z => by cases hz : M a1 with | none => rfl | some e9 => exact absurd (((congrFun hM_86 a1).trans (gw_k (fun q => by rw [q, hcw9] at z; cases z) hz)).symm.trans z) (by simp))
  exact gw_zret hx hb hr hlocks hG hT (by omega) (by omega) dJx4a65c_add_9ea2d_24 (Or.inr (by decide)) ⟨rfl, a1, cap1, f1, k1, k2, k3, k4b, fun q e9 g1 g2 g3 => k5 q e9 g1 g2 ((congrFun hM_86 q).trans (gw_k g1 g3))⟩
