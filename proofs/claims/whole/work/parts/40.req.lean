/-! THE CLASS'S GUARDS -/
def inN (x : Int32) (n : Nat) : Prop := ∃ k, k < n ∧ x = nI k
theorem inN_iff {x : Int32} {n : Nat} (hn : n < 2 ^ 31) : (¬ x < 0 ∧ x < nI n) ↔ inN x n := by
  constructor
  · rintro ⟨h0, h1⟩
    obtain ⟨k, hk, rfl⟩ := nI_of h0
    exact ⟨k, (nI_ltI hk hn).mp h1, rfl⟩
  · rintro ⟨k, hk, rfl⟩
    exact ⟨nI_pos (by omega), nI_lt hk hn⟩
/-- an IllegalArgumentException, nothing changed, because C -/
abbrev iae (M : gw_M) (C : Prop) : String → gw_M → Prop := fun E M1 => E = "java/lang/IllegalArgumentException" ∧ M1 = M ∧ C
set_option maxHeartbeats 4000000 in
set_option maxRecDepth 100000 in
/-- require -/
theorem c_require (l : Launch) (hnt : l.stackTraces = false) (K : gw_C) (M : gw_M) (b9 : Int32)  : vx_Met l yX2_require wsX2_require ({ frames := 6, cells := 1, slots := 6, locals := 81 } : Room) (va_Pc [.int b9] (gw_I K M)) (va_Qv (fun M1 => M1 = M ∧ ¬ b9 = 0) (gw_I K) (gw_A K)) (gw_X K (iae M (b9 = 0))) 1 6 (gw_A K) := by
  refine vx_ofW (cc := cX2_require) (maxL := 1) (ret := none) (by decide) rfl ?_
  intro p e s m args below meth c s₁ B hml hnone hv
  obtain ⟨hav, hI⟩ := hv
  have hx := B.exec
  have hb := B.bytes
  have hr := B.returns
  have hts := atoms_spec (ws := wsX2_require) B.pre
  have hown : s.vm.findClass RX2 = some m.cls := findClass_of_methodNamed B.named
  have hlocks : meth.locks = false := B.notSynchronized
  have hemp : c.exceptionTable.isEmpty = true := B.noHandlers (hts _ List.mem_cons_self)
  have hT := hI.2.2
  have hK := hT.K
  have hG := hI.B
  have hE : entryFrame m args 1 = entryFrame m ([.int b9] : List Value).toArray 1 := by rw [hav]
  rw [hE]
  have hl := lv_entry ([.int b9]) (n := 1) (Nat.le_of_ble_eq_true rfl)
  rw [lg_entry_eq]
  generalize (lg_sl ([.int b9]) ++ List.replicate (1 - (lg_sl ([.int b9])).length) Slot.unset).toArray = ls at hl ⊢
  have hl : lv_has ls 1 [(0, .int b9)] := hl
  refine lv_iload_n hx hb dX2_require_0 rfl (lv_at hl 0 rfl) ?_
  refine lv_if_ne hx hb (tgt := 12) dX2_require_1 (by decide) (fun hc => ?_) (fun hc => ?_)
  · refine vx_ret ?_
    exact gw_vret hx hb hr hlocks hG hT (by omega) (by omega) dX2_require_12 ⟨rfl, hc⟩
  · exact gw_throw0 hx hb hnt hown (by decide +kernel) (hts (.classLink RX2 131 "java/lang/IllegalArgumentException") (by decide +kernel)) (hts (.initialized "java/lang/IllegalArgumentException") (by decide +kernel)) (fun w9 h9 => hts w9 (List.mem_cons_of_mem _ (List.mem_append_right _ h9))) hT.2.2.2.1.1 hT hG (hl.1.trans hml.symm) (by decide +kernel) (by decide +kernel) dX2_require_4 dX2_require_7 dX2_require_8 dX2_require_11 hemp (Nat.le_of_ble_eq_true rfl) (Nat.le_of_ble_eq_true rfl) (Nat.le_of_ble_eq_true rfl) (Nat.le_of_ble_eq_true rfl) hlocks (by omega) (by omega) ⟨rfl, rfl, hc⟩

set_option maxHeartbeats 4000000 in
set_option maxRecDepth 100000 in
/-- requireIndex -/
theorem c_reqIx (l : Launch) (hnt : l.stackTraces = false) (K : gw_C) (M : gw_M) (x9 bd : Int32)  : vx_Met l yX2_requireIndex wsX2_requireIndex ({ frames := 7, cells := 1, slots := 6, locals := 101 } : Room) (va_Pc [.int x9, .int bd] (gw_I K M)) (va_Qv (fun M1 => M1 = M ∧ ¬ x9 < 0 ∧ x9 < bd) (gw_I K) (gw_A K)) (gw_X K (iae M (¬ (¬ x9 < 0 ∧ x9 < bd)))) 1 6 (gw_A K) := by
  refine vx_ofW (cc := cX2_requireIndex) (maxL := 2) (ret := none) (by decide) rfl ?_
  intro p e s m args below meth c s₁ B hml hnone hv
  obtain ⟨hav, hI⟩ := hv
  have hx := B.exec
  have hb := B.bytes
  have hr := B.returns
  have hts := atoms_spec (ws := wsX2_requireIndex) B.pre
  have hown : s.vm.findClass RX2 = some m.cls := findClass_of_methodNamed B.named
  have hlocks : meth.locks = false := B.notSynchronized
  have hemp : c.exceptionTable.isEmpty = true := B.noHandlers (hts _ List.mem_cons_self)
  have hT := hI.2.2
  have hK := hT.K
  have hG := hI.B
  have hE : entryFrame m args 2 = entryFrame m ([.int x9, .int bd] : List Value).toArray 2 := by rw [hav]
  rw [hE]
  have hl := lv_entry ([.int x9, .int bd]) (n := 2) (Nat.le_of_ble_eq_true rfl)
  rw [lg_entry_eq]
  generalize (lg_sl ([.int x9, .int bd]) ++ List.replicate (2 - (lg_sl ([.int x9, .int bd])).length) Slot.unset).toArray = ls at hl ⊢
  have hl : lv_has ls 2 [(0, .int x9), (1, .int bd)] := hl
  refine lv_iload_n hx hb dX2_requireIndex_0 rfl (lv_at hl 0 rfl) ?_
  refine lv_if_lt hx hb (tgt := 13) dX2_requireIndex_1 (by decide) (fun h1 => ?_) (fun h1 => ?_)
  · refine lv_iconst (v := nI 0) hx hb dX2_requireIndex_13 (by decide) ?_
    refine gw_xcallv (vx_runS (As := [.int (nI 0)]) (rest := []) ⟨hx, hb, hml, hown, hts⟩ (c_require l hnt K M (nI 0)) (va_cwS 1 hts gX2_requireIndex_X2_require rfl rfl rfl (by decide +kernel) ⟨Nat.le_of_ble_eq_true rfl, Nat.le_of_ble_eq_true rfl⟩) (gw_preS hG hT) rfl rfl hl.1 rfl (lv_room (Nat.le_of_ble_eq_true rfl)) dX2_requireIndex_14 ⟨Nat.le_of_ble_eq_true rfl, Nat.le_of_ble_eq_true rfl⟩) hG (fun E9 ce9 q9 M_2 H locs hw hG h7 h8 h9 => ?_) (fun M_2 H locs hw hG => ?_)
    · exact gw_out hemp hlocks hG hT h7 h8 h9 ⟨hw.1, hw.2.1, fun q => q.1 h1⟩ (by omega) (by omega)
    · exact absurd (by decide) hw.2
  · refine lv_iload_n hx hb dX2_requireIndex_4 rfl (lv_at hl 0 rfl) ?_
    refine lv_iload_n hx hb dX2_requireIndex_5 rfl (lv_at hl 1 rfl) ?_
    refine lv_icmp_ge hx hb (tgt := 13) dX2_requireIndex_6 (by decide) (fun h2 => ?_) (fun h2 => ?_)
    · refine lv_iconst (v := nI 0) hx hb dX2_requireIndex_13 (by decide) ?_
      refine gw_xcallv (vx_runS (As := [.int (nI 0)]) (rest := []) ⟨hx, hb, hml, hown, hts⟩ (c_require l hnt K M (nI 0)) (va_cwS 1 hts gX2_requireIndex_X2_require rfl rfl rfl (by decide +kernel) ⟨Nat.le_of_ble_eq_true rfl, Nat.le_of_ble_eq_true rfl⟩) (gw_preS hG hT) rfl rfl hl.1 rfl (lv_room (Nat.le_of_ble_eq_true rfl)) dX2_requireIndex_14 ⟨Nat.le_of_ble_eq_true rfl, Nat.le_of_ble_eq_true rfl⟩) hG (fun E9 ce9 q9 M_4 H locs hw hG h7 h8 h9 => ?_) (fun M_4 H locs hw hG => ?_)
      · exact gw_out hemp hlocks hG hT h7 h8 h9 ⟨hw.1, hw.2.1, fun q => absurd q.2 (Int32.not_lt.mpr h2)⟩ (by omega) (by omega)
      · exact absurd (by decide) hw.2
    · refine lv_iconst (v := nI 1) hx hb dX2_requireIndex_9 (by decide) ?_
      refine lv_goto (tgt := 14) hx hb dX2_requireIndex_10 (by decide) ?_
      refine gw_xcallv (vx_runS (As := [.int (nI 1)]) (rest := []) ⟨hx, hb, hml, hown, hts⟩ (c_require l hnt K M (nI 1)) (va_cwS 1 hts gX2_requireIndex_X2_require rfl rfl rfl (by decide +kernel) ⟨Nat.le_of_ble_eq_true rfl, Nat.le_of_ble_eq_true rfl⟩) (gw_preS hG hT) rfl rfl hl.1 rfl (lv_room (Nat.le_of_ble_eq_true rfl)) dX2_requireIndex_14 ⟨Nat.le_of_ble_eq_true rfl, Nat.le_of_ble_eq_true rfl⟩) hG (fun E9 ce9 q9 M_6 H locs hw hG h7 h8 h9 => ?_) (fun M_6 H locs hw hG => ?_)
      · exact absurd hw.2.2 (by decide)
      · rw [hw.1] at hG
        refine vx_ret ?_
        exact gw_vret hx hb hr hlocks hG hT (by omega) (by omega) dX2_requireIndex_17 ⟨rfl, h1, Int32.not_le.mp h2⟩

set_option maxHeartbeats 4000000 in
set_option maxRecDepth 100000 in
/-- requireReplica -/
theorem c_reqRep (l : Launch) (hnt : l.stackTraces = false) (K : gw_C) (M : gw_M) (x n : Nat) (v1 v2 : Value) (r9 : Int32) (hx0 : M x = some (.inr (3, [v1, v2, .int (nI n)]))) (hn : n ≤ 6) : vx_Met l yX2_requireReplica wsX2_requireReplica ({ frames := 8, cells := 1, slots := 6, locals := 122 } : Room) (va_Pc [.ref x, .int r9] (gw_I K M)) (va_Qv (fun M1 => M1 = M ∧ inN r9 n) (gw_I K) (gw_A K)) (gw_X K (iae M (¬ inN r9 n))) 1 6 (gw_A K) := by
  refine vx_ofW (cc := cX2_requireReplica) (maxL := 2) (ret := none) (by decide) rfl ?_
  intro p e s m args below meth c s₁ B hml hnone hv
  obtain ⟨hav, hI⟩ := hv
  have hx := B.exec
  have hb := B.bytes
  have hr := B.returns
  have hts := atoms_spec (ws := wsX2_requireReplica) B.pre
  have hown : s.vm.findClass RX2 = some m.cls := findClass_of_methodNamed B.named
  have hlocks : meth.locks = false := B.notSynchronized
  have hemp : c.exceptionTable.isEmpty = true := B.noHandlers (hts _ List.mem_cons_self)
  have hT := hI.2.2
  have hK := hT.K
  have hG := hI.B
  have hf23 := hts (.fieldLink RX2 23 "DotGossip" "replicaCount" "I") (by decide +kernel)
  have hinX2 : ∀ w ∈ wsX20, w ∈ wsX2_requireReplica := by decide +kernel
  have hE : entryFrame m args 2 = entryFrame m ([.ref x, .int r9] : List Value).toArray 2 := by rw [hav]
  rw [hE]
  have hl := lv_entry ([.ref x, .int r9]) (n := 2) (Nat.le_of_ble_eq_true rfl)
  rw [lg_entry_eq]
  generalize (lg_sl ([.ref x, .int r9]) ++ List.replicate (2 - (lg_sl ([.ref x, .int r9])).length) Slot.unset).toArray = ls at hl ⊢
  have hl : lv_has ls 2 [(0, .ref x), (1, .int r9)] := hl
  refine lv_iload_n hx hb dX2_requireReplica_0 rfl (lv_at hl 1 rfl) ?_
  refine lv_aload_n hx hb dX2_requireReplica_1 rfl (lv_at hl 0 rfl) ?_
  refine gw_get (ci := 3) (C := RX2) (T := TX2) (N := 3) hx hb hts hinX2 hown hK hG hx0 rfl 2 (by decide) hf23 (fun _ h9 => h9) rfl dX2_requireReplica_2 ?_
  refine gw_xcallv (vx_runS (As := [.int r9, .int (nI n)]) (rest := []) ⟨hx, hb, hml, hown, hts⟩ (c_reqIx l hnt K M r9 (nI n)) (va_cwS 2 hts gX2_requireReplica_X2_requireIndex rfl rfl rfl (by decide +kernel) ⟨Nat.le_of_ble_eq_true rfl, Nat.le_of_ble_eq_true rfl⟩) (gw_preS hG hT) rfl rfl hl.1 rfl (lv_room (Nat.le_of_ble_eq_true rfl)) dX2_requireReplica_5 ⟨Nat.le_of_ble_eq_true rfl, Nat.le_of_ble_eq_true rfl⟩) hG (fun E9 ce9 q9 M_8 H locs hw hG h7 h8 h9 => ?_) (fun M_8 H locs hw hG => ?_)
  · exact gw_out hemp hlocks hG hT h7 h8 h9 ⟨hw.1, hw.2.1, fun q => hw.2.2 ((inN_iff (by omega)).mpr q)⟩ (by omega) (by omega)
  · rw [hw.1] at hG
    refine vx_ret ?_
    exact gw_vret hx hb hr hlocks hG hT (by omega) (by omega) dX2_requireReplica_8 ⟨rfl, (inN_iff (by omega)).mp hw.2⟩

set_option maxHeartbeats 4000000 in
set_option maxRecDepth 100000 in
/-- requireElement -/
theorem c_reqEl (l : Launch) (hnt : l.stackTraces = false) (K : gw_C) (M : gw_M) (x n : Nat) (v1 v2 : Value) (r9 s9 e9 : Int32) (hx0 : M x = some (.inr (3, [v1, v2, .int (nI n)]))) (hn : n ≤ 6) : vx_Met l yX2_requireElement wsX2_requireElement ({ frames := 9, cells := 3, slots := 18, locals := 143 } : Room) (va_Pc [.ref x, .int r9, .int s9, .int e9] (gw_I K M)) (va_Qv (fun M1 => M1 = M ∧ inN r9 n ∧ inN s9 4 ∧ inN e9 16) (gw_I K) (gw_A K)) (gw_X K (iae M (¬ (inN r9 n ∧ inN s9 4 ∧ inN e9 16)))) 3 18 (gw_A K) := by
  refine vx_ofW (cc := cX2_requireElement) (maxL := 4) (ret := none) (by decide) rfl ?_
  intro p e s m args below meth c s₁ B hml hnone hv
  obtain ⟨hav, hI⟩ := hv
  have hx := B.exec
  have hb := B.bytes
  have hr := B.returns
  have hts := atoms_spec (ws := wsX2_requireElement) B.pre
  have hown : s.vm.findClass RX2 = some m.cls := findClass_of_methodNamed B.named
  have hlocks : meth.locks = false := B.notSynchronized
  have hemp : c.exceptionTable.isEmpty = true := B.noHandlers (hts _ List.mem_cons_self)
  have hT := hI.2.2
  have hK := hT.K
  have hG := hI.B
  have hf23 := hts (.fieldLink RX2 23 "DotGossip" "replicaCount" "I") (by decide +kernel)
  have hinX2 : ∀ w ∈ wsX20, w ∈ wsX2_requireElement := by decide +kernel
  have hE : entryFrame m args 4 = entryFrame m ([.ref x, .int r9, .int s9, .int e9] : List Value).toArray 4 := by rw [hav]
  rw [hE]
  have hl := lv_entry ([.ref x, .int r9, .int s9, .int e9]) (n := 4) (Nat.le_of_ble_eq_true rfl)
  rw [lg_entry_eq]
  generalize (lg_sl ([.ref x, .int r9, .int s9, .int e9]) ++ List.replicate (4 - (lg_sl ([.ref x, .int r9, .int s9, .int e9])).length) Slot.unset).toArray = ls at hl ⊢
  have hl : lv_has ls 4 [(0, .ref x), (1, .int r9), (2, .int s9), (3, .int e9)] := hl
  refine lv_aload_n hx hb dX2_requireElement_0 rfl (lv_at hl 0 rfl) ?_
  refine lv_iload_n hx hb dX2_requireElement_1 rfl (lv_at hl 1 rfl) ?_
  refine gw_xcallv (vx_runV (As := [.int r9]) (rest := []) ⟨hx, hb, hml, hown, hts⟩ (c_reqRep l hnt K M x n v1 v2 r9 hx0 hn) (cwV 1 hts gX2_requireElement_X2_requireReplica rfl rfl rfl (by decide +kernel) ⟨Nat.le_of_ble_eq_true rfl, Nat.le_of_ble_eq_true rfl⟩) (gw_preV hG hT hx0 rfl) rfl rfl hl.1 rfl (lv_room (Nat.le_of_ble_eq_true rfl)) dX2_requireElement_2 ⟨Nat.le_of_ble_eq_true rfl, Nat.le_of_ble_eq_true rfl⟩) hG (fun E9 ce9 q9 M_10 H locs hw hG h7 h8 h9 => ?_) (fun M_10 H locs hw hG => ?_)
  · exact gw_out hemp hlocks hG hT h7 h8 h9 ⟨hw.1, hw.2.1, fun q => hw.2.2 q.1⟩ (by omega) (by omega)
  · have hr1 := hw.2
    rw [hw.1] at hG
    refine lv_iload_n hx hb dX2_requireElement_5 rfl (lv_at hl 2 rfl) ?_
    refine lv_iconst (v := nI 4) hx hb dX2_requireElement_6 (by decide) ?_
    refine gw_xcallv (vx_runS (As := [.int s9, .int (nI 4)]) (rest := []) ⟨hx, hb, hml, hown, hts⟩ (c_reqIx l hnt K M s9 (nI 4)) (va_cwS 2 hts gX2_requireElement_X2_requireIndex rfl rfl rfl (by decide +kernel) ⟨Nat.le_of_ble_eq_true rfl, Nat.le_of_ble_eq_true rfl⟩) (gw_preS hG hT) rfl rfl hl.1 rfl (lv_room (Nat.le_of_ble_eq_true rfl)) dX2_requireElement_7 ⟨Nat.le_of_ble_eq_true rfl, Nat.le_of_ble_eq_true rfl⟩) hG (fun E9 ce9 q9 M_12 H locs hw hG h7 h8 h9 => ?_) (fun M_12 H locs hw hG => ?_)
    · exact gw_out hemp hlocks hG hT h7 h8 h9 ⟨hw.1, hw.2.1, fun q => hw.2.2 ((inN_iff (by omega)).mpr q.2.1)⟩ (by omega) (by omega)
    · have hr2 := (inN_iff (n := 4) (by omega)).mp hw.2
      rw [hw.1] at hG
      refine lv_iload_n hx hb dX2_requireElement_10 rfl (lv_at hl 3 rfl) ?_
      refine lv_bipush (v := nI 16) hx hb dX2_requireElement_11 (by decide) ?_
      refine gw_xcallv (vx_runS (As := [.int e9, .int (nI 16)]) (rest := []) ⟨hx, hb, hml, hown, hts⟩ (c_reqIx l hnt K M e9 (nI 16)) (va_cwS 2 hts gX2_requireElement_X2_requireIndex rfl rfl rfl (by decide +kernel) ⟨Nat.le_of_ble_eq_true rfl, Nat.le_of_ble_eq_true rfl⟩) (gw_preS hG hT) rfl rfl hl.1 rfl (lv_room (Nat.le_of_ble_eq_true rfl)) dX2_requireElement_13 ⟨Nat.le_of_ble_eq_true rfl, Nat.le_of_ble_eq_true rfl⟩) hG (fun E9 ce9 q9 M_14 H locs hw hG h7 h8 h9 => ?_) (fun M_14 H locs hw hG => ?_)
      · exact gw_out hemp hlocks hG hT h7 h8 h9 ⟨hw.1, hw.2.1, fun q => hw.2.2 ((inN_iff (by omega)).mpr q.2.2)⟩ (by omega) (by omega)
      · have hr3 := (inN_iff (n := 16) (by omega)).mp hw.2
        rw [hw.1] at hG
        refine vx_ret ?_
        exact gw_vret hx hb hr hlocks hG hT (by omega) (by omega) dX2_requireElement_16 ⟨rfl, hr1, hr2, hr3⟩

set_option maxHeartbeats 4000000 in
set_option maxRecDepth 100000 in
/-- placeOfElement -/
theorem c_place (l : Launch) (K : gw_C) (M : gw_M) (a b : Nat)  : Met l yX2_placeOfElement wsX2_placeOfElement ({ frames := 0, cells := 0, slots := 0, locals := 0 } : Room) (va_Pc [.int (nI a), .int (nI b)] (gw_I K M)) (va_Qi (fun r M1 => M1 = M ∧ r = nI (a * 16 + b)) (gw_I K) (gw_A K)) 0 0 (gw_A K) := by
  refine Met.ofW (cc := cX2_placeOfElement) (maxL := 2) (ret := (some .int)) (by decide) rfl ?_
  intro p e s m args below meth c s₁ B hml hv
  obtain ⟨hav, hI⟩ := hv
  have hx := B.exec
  have hb := B.bytes
  have hr := B.returns
  have hts := atoms_spec (ws := wsX2_placeOfElement) B.pre
  have hown : s.vm.findClass RX2 = some m.cls := findClass_of_methodNamed B.named
  have hlocks : meth.locks = false := B.notSynchronized
  have hT := hI.2.2
  have hK := hT.K
  have hG := hI.B
  have hE : entryFrame m args 2 = entryFrame m ([.int (nI a), .int (nI b)] : List Value).toArray 2 := by rw [hav]
  rw [hE]
  have hl := lv_entry ([.int (nI a), .int (nI b)]) (n := 2) (Nat.le_of_ble_eq_true rfl)
  rw [lg_entry_eq]
  generalize (lg_sl ([.int (nI a), .int (nI b)]) ++ List.replicate (2 - (lg_sl ([.int (nI a), .int (nI b)])).length) Slot.unset).toArray = ls at hl ⊢
  have hl : lv_has ls 2 [(0, .int (nI a)), (1, .int (nI b))] := hl
  refine lv_iload_n hx hb dX2_placeOfElement_0 rfl (lv_at hl 0 rfl) ?_
  refine lv_bipush (v := nI 16) hx hb dX2_placeOfElement_1 (by decide) ?_
  refine gw_imul hx hb dX2_placeOfElement_3 ?_
  refine lv_iload_n hx hb dX2_placeOfElement_4 rfl (lv_at hl 1 rfl) ?_
  refine gw_iadd hx hb dX2_placeOfElement_5 ?_
  exact gw_iret hx hb hr hlocks hG hT (by omega) (by omega) dX2_placeOfElement_6 ⟨rfl, rfl⟩
