/-! THE LAW'S OWN METHODS, one for each call: what it throws becomes a number, what it answers goes into out[0] -/
set_option maxHeartbeats 4000000 in
set_option maxRecDepth 100000 in
/-- w_add -/
theorem w_add (l : Launch) (hnt : l.stackTraces = false) (K : gw_C) (M : gw_M) (x : Nat) (ro : Nat → Nat) (S : gst) (r9 s9 e9 : Int32) (ao : Nat) (o9 : Nat → Int64)  (hS : CS K M ro x S) (hao : M ao = some (.inl (K.2.1 1, 1, .inr (.inl o9)))) (hro : ro ao = 60) : vx_Met l yL_add wsL_add ({ frames := 11, cells := 3, slots := 18, locals := 240 } : Room) (va_Pc [.ref x, .int r9, .int s9, .int e9, .ref ao] (gw_I K M)) (va_Qi (fun r M1 => (r = nI 1 ∧ M1 = M ∧ (¬ (inN r9 S.1 ∧ inN s9 4 ∧ inN e9 16))) ∨ (r = nI 0 ∧ ∃ r0 M0, (fun r M1 => ∃ rk ks ke, (rk < S.1 ∧ r9 = nI rk) ∧ (ks < 4 ∧ s9 = nI ks) ∧ (ke < 16 ∧ e9 = nI ke) ∧ r = (S.2.1 rk).1 rk + nI 1 ∧ CS K M1 ro x (shold S rk (vadd (S.2.1 rk) rk (ks * 16 + ke))) ∧ ofr 60 1000 M M1 ro ro) r0 M0 ∧ M0 ao = some (.inl (K.2.1 1, 1, .inr (.inl o9))) ∧ M1 = gw_up M0 ao (.inl (K.2.1 1, 1, .inr (.inl (vp_updL o9 0 r0.toInt64)))))) (gw_I K) (gw_A K)) (gw_X K (fun _ _ => False)) 3 18 (gw_A K) := by
  refine vx_ofWH (cc := cL_add) (maxL := 6) (ret := (some .int)) (hh := [(0, 12, 15, 13)]) (by decide) rfl ?_
  intro p e s m args below meth c s₁ B hml hv
  obtain ⟨hav, hI⟩ := hv
  have hx := B.exec
  have hb := B.bytes
  have hr := B.returns
  have hts := atoms_spec (ws := wsL_add) B.pre
  have hown : s.vm.findClass RL = some m.cls := findClass_of_methodNamed B.named
  have hlocks : meth.locks = false := B.notSynchronized
  have htab : c.exceptionTable.toList = tableOf [(0, 12, 15, 13)] := vx_table (x := yL_add) B (hts _ List.mem_cons_self)
  have hT := hI.2.2
  have hK := hT.K
  have hG := hI.B
  have hE : entryFrame m args 6 = entryFrame m ([.ref x, .int r9, .int s9, .int e9, .ref ao] : List Value).toArray 6 := by rw [hav]
  rw [hE]
  have hl := lv_entry ([.ref x, .int r9, .int s9, .int e9, .ref ao]) (n := 6) (Nat.le_of_ble_eq_true rfl)
  rw [lg_entry_eq]
  generalize (lg_sl ([.ref x, .int r9, .int s9, .int e9, .ref ao]) ++ List.replicate (6 - (lg_sl ([.ref x, .int r9, .int s9, .int e9, .ref ao])).length) Slot.unset).toArray = ls at hl ⊢
  have hl : lv_has ls 6 [(0, .ref x), (1, .int r9), (2, .int s9), (3, .int e9), (4, .ref ao)] := hl
  obtain ⟨aH, wl, la, cap, mc9, g, lf, ho, had, my, sn, sad, hcs, hrs⟩ := id hS
  refine lv_aload hx hb dL_add_0 (lv_at hl 4 rfl) ?_
  refine lv_iconst (v := nI 0) hx hb dL_add_2 (by decide) ?_
  refine lv_aload_n hx hb dL_add_3 rfl (lv_at hl 0 rfl) ?_
  refine lv_iload_n hx hb dL_add_4 rfl (lv_at hl 1 rfl) ?_
  refine lv_iload_n hx hb dL_add_5 rfl (lv_at hl 2 rfl) ?_
  refine lv_iload_n hx hb dL_add_6 rfl (lv_at hl 3 rfl) ?_
  refine gw_xcalli (vx_runV (As := [.int r9, .int s9, .int e9]) (rest := [.int (nI 0), .ref ao]) ⟨hx, hb, hml, hown, hts⟩ (c_add l hnt K M x ro S r9 s9 e9 hS) (cwV 3 hts gL_add_X2_add rfl rfl rfl (by decide +kernel) ⟨Nat.le_of_ble_eq_true rfl, Nat.le_of_ble_eq_true rfl⟩) (gw_preV hG hT hcs.2.1 rfl) rfl rfl hl.1 rfl (lv_room (Nat.le_of_ble_eq_true rfl)) dL_add_7 ⟨Nat.le_of_ble_eq_true rfl, Nat.le_of_ble_eq_true rfl⟩) hG (fun E9 ce9 qx9 M_16 H locs hw hG h7 h8 h9 => ?_) (fun r_15 M_16 H locs hw hG => ?_)
  · obtain ⟨hE9, hM1, hC⟩ := hw
    rw [hM1] at hG
    rw [hE9] at h9
    refine gc_first (name := "java/lang/IllegalArgumentException") hown (htab.trans rfl) (by decide) (by decide) (hts (.classLink RL 13 "java/lang/IllegalArgumentException") (by decide +kernel)) hT.2.2.2.1.1 h7 h8 h9 ?_
    refine lv_astore (lv' := [(5, .ref qx9), (0, .ref x), (1, .int r9), (2, .int s9), (3, .int e9), (4, .ref ao)]) hx hb dL_add_15 hl (by decide) rfl (fun ls hl => ?_)
    refine lv_iconst (v := nI 1) hx hb dL_add_17 (by decide) ?_
    refine vx_ret ?_
    exact gw_iret hx hb hr hlocks hG hT (by omega) (by omega) dL_add_18 (Or.inl ⟨rfl, rfl, hC⟩)
  · obtain ⟨_, _, _, _, _, _, _, _, hof⟩ := id hw
    have ha0 : M_16 ao = some (.inl (K.2.1 1, 1, .inr (.inl o9))) := (hof ao _ hao).2 (by rw [hro]; decide) (by rw [hro]; decide)
    refine lv_i2l hx hb dL_add_10 rfl ?_
    refine gw_last_n hx hb hK hG ha0 1 rfl (by omega) (by omega) dL_add_11 (fun H locs hG => ?_)
    obtain ⟨M_17, hM_18⟩ : ∃ M1 : gw_M, M1 = gw_up M_16 ao (.inl (K.2.1 1, 1, .inr (.inl (vp_updL o9 0 r_15.toInt64)))) := ⟨_, rfl⟩
    have hG : gw_B K M_17 s.heap H locs := by rw [hM_18]; exact hG
    have hc_19 : M_17 ao = some (.inl (K.2.1 1, 1, .inr (.inl (vp_updL o9 0 r_15.toInt64)))) := (congrFun hM_18 _).trans gw_s
    refine lv_goto (tgt := 19) hx hb dL_add_12 (by decide) ?_
    refine lv_iconst (v := nI 0) hx hb dL_add_19 (by decide) ?_
    refine vx_ret ?_
    exact gw_iret hx hb hr hlocks hG hT (by omega) (by omega) dL_add_20 (Or.inr ⟨rfl, r_15, M_16, hw, ha0, hM_18⟩)

set_option maxHeartbeats 4000000 in
set_option maxRecDepth 100000 in
/-- w_remove -/
theorem w_remove (l : Launch) (hnt : l.stackTraces = false) (K : gw_C) (M : gw_M) (x : Nat) (ro : Nat → Nat) (S : gst) (r9 s9 e9 : Int32) (ao : Nat) (o9 : Nat → Int64)  (hS : CS K M ro x S) (hao : M ao = some (.inl (K.2.1 1, 1, .inr (.inl o9)))) (hro : ro ao = 60) : vx_Met l yL_remove wsL_remove ({ frames := 11, cells := 3, slots := 18, locals := 240 } : Room) (va_Pc [.ref x, .int r9, .int s9, .int e9, .ref ao] (gw_I K M)) (va_Qi (fun r M1 => (r = nI 1 ∧ M1 = M ∧ (¬ (inN r9 S.1 ∧ inN s9 4 ∧ inN e9 16))) ∨ (r = nI 0 ∧ ∃ r0 M0, (fun r M1 => ∃ rk ks ke, (rk < S.1 ∧ r9 = nI rk) ∧ (ks < 4 ∧ s9 = nI ks) ∧ (ke < 16 ∧ e9 = nI ke) ∧ r = nI (dcnt (S.2.1 rk).2.1 (ks * 16 + ke) 6) ∧ CS K M1 ro x (shold S rk (vrem (S.2.1 rk) (ks * 16 + ke))) ∧ ofr 60 1000 M M1 ro ro) r0 M0 ∧ M0 ao = some (.inl (K.2.1 1, 1, .inr (.inl o9))) ∧ M1 = gw_up M0 ao (.inl (K.2.1 1, 1, .inr (.inl (vp_updL o9 0 r0.toInt64)))))) (gw_I K) (gw_A K)) (gw_X K (fun _ _ => False)) 3 18 (gw_A K) := by
  refine vx_ofWH (cc := cL_remove) (maxL := 6) (ret := (some .int)) (hh := [(0, 12, 15, 13)]) (by decide) rfl ?_
  intro p e s m args below meth c s₁ B hml hv
  obtain ⟨hav, hI⟩ := hv
  have hx := B.exec
  have hb := B.bytes
  have hr := B.returns
  have hts := atoms_spec (ws := wsL_remove) B.pre
  have hown : s.vm.findClass RL = some m.cls := findClass_of_methodNamed B.named
  have hlocks : meth.locks = false := B.notSynchronized
  have htab : c.exceptionTable.toList = tableOf [(0, 12, 15, 13)] := vx_table (x := yL_remove) B (hts _ List.mem_cons_self)
  have hT := hI.2.2
  have hK := hT.K
  have hG := hI.B
  have hE : entryFrame m args 6 = entryFrame m ([.ref x, .int r9, .int s9, .int e9, .ref ao] : List Value).toArray 6 := by rw [hav]
  rw [hE]
  have hl := lv_entry ([.ref x, .int r9, .int s9, .int e9, .ref ao]) (n := 6) (Nat.le_of_ble_eq_true rfl)
  rw [lg_entry_eq]
  generalize (lg_sl ([.ref x, .int r9, .int s9, .int e9, .ref ao]) ++ List.replicate (6 - (lg_sl ([.ref x, .int r9, .int s9, .int e9, .ref ao])).length) Slot.unset).toArray = ls at hl ⊢
  have hl : lv_has ls 6 [(0, .ref x), (1, .int r9), (2, .int s9), (3, .int e9), (4, .ref ao)] := hl
  obtain ⟨aH, wl, la, cap, mc9, g, lf, ho, had, my, sn, sad, hcs, hrs⟩ := id hS
  refine lv_aload hx hb dL_remove_0 (lv_at hl 4 rfl) ?_
  refine lv_iconst (v := nI 0) hx hb dL_remove_2 (by decide) ?_
  refine lv_aload_n hx hb dL_remove_3 rfl (lv_at hl 0 rfl) ?_
  refine lv_iload_n hx hb dL_remove_4 rfl (lv_at hl 1 rfl) ?_
  refine lv_iload_n hx hb dL_remove_5 rfl (lv_at hl 2 rfl) ?_
  refine lv_iload_n hx hb dL_remove_6 rfl (lv_at hl 3 rfl) ?_
  refine gw_xcalli (vx_runV (As := [.int r9, .int s9, .int e9]) (rest := [.int (nI 0), .ref ao]) ⟨hx, hb, hml, hown, hts⟩ (c_remove l hnt K M x ro S r9 s9 e9 hS) (cwV 3 hts gL_remove_X2_remove rfl rfl rfl (by decide +kernel) ⟨Nat.le_of_ble_eq_true rfl, Nat.le_of_ble_eq_true rfl⟩) (gw_preV hG hT hcs.2.1 rfl) rfl rfl hl.1 rfl (lv_room (Nat.le_of_ble_eq_true rfl)) dL_remove_7 ⟨Nat.le_of_ble_eq_true rfl, Nat.le_of_ble_eq_true rfl⟩) hG (fun E9 ce9 qx9 M_21 H locs hw hG h7 h8 h9 => ?_) (fun r_20 M_21 H locs hw hG => ?_)
  · obtain ⟨hE9, hM1, hC⟩ := hw
    rw [hM1] at hG
    rw [hE9] at h9
    refine gc_first (name := "java/lang/IllegalArgumentException") hown (htab.trans rfl) (by decide) (by decide) (hts (.classLink RL 13 "java/lang/IllegalArgumentException") (by decide +kernel)) hT.2.2.2.1.1 h7 h8 h9 ?_
    refine lv_astore (lv' := [(5, .ref qx9), (0, .ref x), (1, .int r9), (2, .int s9), (3, .int e9), (4, .ref ao)]) hx hb dL_remove_15 hl (by decide) rfl (fun ls hl => ?_)
    refine lv_iconst (v := nI 1) hx hb dL_remove_17 (by decide) ?_
    refine vx_ret ?_
    exact gw_iret hx hb hr hlocks hG hT (by omega) (by omega) dL_remove_18 (Or.inl ⟨rfl, rfl, hC⟩)
  · obtain ⟨_, _, _, _, _, _, _, _, hof⟩ := id hw
    have ha0 : M_21 ao = some (.inl (K.2.1 1, 1, .inr (.inl o9))) := (hof ao _ hao).2 (by rw [hro]; decide) (by rw [hro]; decide)
    refine lv_i2l hx hb dL_remove_10 rfl ?_
    refine gw_last_n hx hb hK hG ha0 1 rfl (by omega) (by omega) dL_remove_11 (fun H locs hG => ?_)
    obtain ⟨M_22, hM_23⟩ : ∃ M1 : gw_M, M1 = gw_up M_21 ao (.inl (K.2.1 1, 1, .inr (.inl (vp_updL o9 0 r_20.toInt64)))) := ⟨_, rfl⟩
    have hG : gw_B K M_22 s.heap H locs := by rw [hM_23]; exact hG
    have hc_24 : M_22 ao = some (.inl (K.2.1 1, 1, .inr (.inl (vp_updL o9 0 r_20.toInt64)))) := (congrFun hM_23 _).trans gw_s
    refine lv_goto (tgt := 19) hx hb dL_remove_12 (by decide) ?_
    refine lv_iconst (v := nI 0) hx hb dL_remove_19 (by decide) ?_
    refine vx_ret ?_
    exact gw_iret hx hb hr hlocks hG hT (by omega) (by omega) dL_remove_20 (Or.inr ⟨rfl, r_20, M_21, hw, ha0, hM_23⟩)

set_option maxHeartbeats 4000000 in
set_option maxRecDepth 100000 in
/-- w_clear -/
theorem w_clear (l : Launch) (hnt : l.stackTraces = false) (K : gw_C) (M : gw_M) (x : Nat) (ro : Nat → Nat) (S : gst) (r9 s9 : Int32) (ao : Nat) (o9 : Nat → Int64)  (hS : CS K M ro x S) (hao : M ao = some (.inl (K.2.1 1, 1, .inr (.inl o9)))) (hro : ro ao = 60) : vx_Met l yL_clear wsL_clear ({ frames := 11, cells := 2, slots := 12, locals := 240 } : Room) (va_Pc [.ref x, .int r9, .int s9, .ref ao] (gw_I K M)) (va_Qi (fun r M1 => (r = nI 1 ∧ M1 = M ∧ (¬ (inN r9 S.1 ∧ inN s9 4))) ∨ (r = nI 0 ∧ ∃ r0 M0, (fun r M1 => ∃ rk ks, (rk < S.1 ∧ r9 = nI rk) ∧ (ks < 4 ∧ s9 = nI ks) ∧ r = nI (vcl (S.2.1 rk) ks 16).2 ∧ CS K M1 ro x (shold S rk ((vcl (S.2.1 rk) ks 16).1)) ∧ ofr 60 1000 M M1 ro ro) r0 M0 ∧ M0 ao = some (.inl (K.2.1 1, 1, .inr (.inl o9))) ∧ M1 = gw_up M0 ao (.inl (K.2.1 1, 1, .inr (.inl (vp_updL o9 0 r0.toInt64)))))) (gw_I K) (gw_A K)) (gw_X K (fun _ _ => False)) 2 12 (gw_A K) := by
  refine vx_ofWH (cc := cL_clear) (maxL := 5) (ret := (some .int)) (hh := [(0, 10, 13, 13)]) (by decide) rfl ?_
  intro p e s m args below meth c s₁ B hml hv
  obtain ⟨hav, hI⟩ := hv
  have hx := B.exec
  have hb := B.bytes
  have hr := B.returns
  have hts := atoms_spec (ws := wsL_clear) B.pre
  have hown : s.vm.findClass RL = some m.cls := findClass_of_methodNamed B.named
  have hlocks : meth.locks = false := B.notSynchronized
  have htab : c.exceptionTable.toList = tableOf [(0, 10, 13, 13)] := vx_table (x := yL_clear) B (hts _ List.mem_cons_self)
  have hT := hI.2.2
  have hK := hT.K
  have hG := hI.B
  have hE : entryFrame m args 5 = entryFrame m ([.ref x, .int r9, .int s9, .ref ao] : List Value).toArray 5 := by rw [hav]
  rw [hE]
  have hl := lv_entry ([.ref x, .int r9, .int s9, .ref ao]) (n := 5) (Nat.le_of_ble_eq_true rfl)
  rw [lg_entry_eq]
  generalize (lg_sl ([.ref x, .int r9, .int s9, .ref ao]) ++ List.replicate (5 - (lg_sl ([.ref x, .int r9, .int s9, .ref ao])).length) Slot.unset).toArray = ls at hl ⊢
  have hl : lv_has ls 5 [(0, .ref x), (1, .int r9), (2, .int s9), (3, .ref ao)] := hl
  obtain ⟨aH, wl, la, cap, mc9, g, lf, ho, had, my, sn, sad, hcs, hrs⟩ := id hS
  refine lv_aload_n hx hb dL_clear_0 rfl (lv_at hl 3 rfl) ?_
  refine lv_iconst (v := nI 0) hx hb dL_clear_1 (by decide) ?_
  refine lv_aload_n hx hb dL_clear_2 rfl (lv_at hl 0 rfl) ?_
  refine lv_iload_n hx hb dL_clear_3 rfl (lv_at hl 1 rfl) ?_
  refine lv_iload_n hx hb dL_clear_4 rfl (lv_at hl 2 rfl) ?_
  refine gw_xcalli (vx_runV (As := [.int r9, .int s9]) (rest := [.int (nI 0), .ref ao]) ⟨hx, hb, hml, hown, hts⟩ (c_clear l hnt K M x ro S r9 s9 hS) (cwV 2 hts gL_clear_X2_clear rfl rfl rfl (by decide +kernel) ⟨Nat.le_of_ble_eq_true rfl, Nat.le_of_ble_eq_true rfl⟩) (gw_preV hG hT hcs.2.1 rfl) rfl rfl hl.1 rfl (lv_room (Nat.le_of_ble_eq_true rfl)) dL_clear_5 ⟨Nat.le_of_ble_eq_true rfl, Nat.le_of_ble_eq_true rfl⟩) hG (fun E9 ce9 qx9 M_26 H locs hw hG h7 h8 h9 => ?_) (fun r_25 M_26 H locs hw hG => ?_)
  · obtain ⟨hE9, hM1, hC⟩ := hw
    rw [hM1] at hG
    rw [hE9] at h9
    refine gc_first (name := "java/lang/IllegalArgumentException") hown (htab.trans rfl) (by decide) (by decide) (hts (.classLink RL 13 "java/lang/IllegalArgumentException") (by decide +kernel)) hT.2.2.2.1.1 h7 h8 h9 ?_
    refine lv_astore (lv' := [(4, .ref qx9), (0, .ref x), (1, .int r9), (2, .int s9), (3, .ref ao)]) hx hb dL_clear_13 hl (by decide) rfl (fun ls hl => ?_)
    refine lv_iconst (v := nI 1) hx hb dL_clear_15 (by decide) ?_
    refine vx_ret ?_
    exact gw_iret hx hb hr hlocks hG hT (by omega) (by omega) dL_clear_16 (Or.inl ⟨rfl, rfl, hC⟩)
  · obtain ⟨_, _, _, _, _, _, hof⟩ := id hw
    have ha0 : M_26 ao = some (.inl (K.2.1 1, 1, .inr (.inl o9))) := (hof ao _ hao).2 (by rw [hro]; decide) (by rw [hro]; decide)
    refine lv_i2l hx hb dL_clear_8 rfl ?_
    refine gw_last_n hx hb hK hG ha0 1 rfl (by omega) (by omega) dL_clear_9 (fun H locs hG => ?_)
    obtain ⟨M_27, hM_28⟩ : ∃ M1 : gw_M, M1 = gw_up M_26 ao (.inl (K.2.1 1, 1, .inr (.inl (vp_updL o9 0 r_25.toInt64)))) := ⟨_, rfl⟩
    have hG : gw_B K M_27 s.heap H locs := by rw [hM_28]; exact hG
    have hc_29 : M_27 ao = some (.inl (K.2.1 1, 1, .inr (.inl (vp_updL o9 0 r_25.toInt64)))) := (congrFun hM_28 _).trans gw_s
    refine lv_goto (tgt := 17) hx hb dL_clear_10 (by decide) ?_
    refine lv_iconst (v := nI 0) hx hb dL_clear_17 (by decide) ?_
    refine vx_ret ?_
    exact gw_iret hx hb hr hlocks hG hT (by omega) (by omega) dL_clear_18 (Or.inr ⟨rfl, r_25, M_26, hw, ha0, hM_28⟩)

set_option maxHeartbeats 4000000 in
set_option maxRecDepth 100000 in
/-- w_write -/
theorem w_write (l : Launch) (hnt : l.stackTraces = false) (K : gw_C) (M : gw_M) (x : Nat) (ro : Nat → Nat) (S : gst) (r9 s9 v9 : Int32) (ao : Nat) (o9 : Nat → Int64)  (hS : CS K M ro x S) (hao : M ao = some (.inl (K.2.1 1, 1, .inr (.inl o9)))) (hro : ro ao = 60) : vx_Met l yL_write wsL_write ({ frames := 11, cells := 2, slots := 12, locals := 240 } : Room) (va_Pc [.ref x, .int r9, .int s9, .int v9, .ref ao] (gw_I K M)) (va_Qi (fun r M1 => (r = nI 1 ∧ M1 = M ∧ (¬ (inN r9 S.1 ∧ inN s9 4))) ∨ (r = nI 0 ∧ ∃ r0 M0, (fun r M1 => ∃ rk ks, (rk < S.1 ∧ r9 = nI rk) ∧ (ks < 4 ∧ s9 = nI ks) ∧ r = nI (dcnt (S.2.1 rk).2.1 (64 + ks) 6) ∧ CS K M1 ro x (shold S rk (vwr (S.2.1 rk) rk ks v9)) ∧ ofr 60 1000 M M1 ro ro) r0 M0 ∧ M0 ao = some (.inl (K.2.1 1, 1, .inr (.inl o9))) ∧ M1 = gw_up M0 ao (.inl (K.2.1 1, 1, .inr (.inl (vp_updL o9 0 r0.toInt64)))))) (gw_I K) (gw_A K)) (gw_X K (fun _ _ => False)) 2 12 (gw_A K) := by
  refine vx_ofWH (cc := cL_write) (maxL := 6) (ret := (some .int)) (hh := [(0, 12, 15, 13)]) (by decide) rfl ?_
  intro p e s m args below meth c s₁ B hml hv
  obtain ⟨hav, hI⟩ := hv
  have hx := B.exec
  have hb := B.bytes
  have hr := B.returns
  have hts := atoms_spec (ws := wsL_write) B.pre
  have hown : s.vm.findClass RL = some m.cls := findClass_of_methodNamed B.named
  have hlocks : meth.locks = false := B.notSynchronized
  have htab : c.exceptionTable.toList = tableOf [(0, 12, 15, 13)] := vx_table (x := yL_write) B (hts _ List.mem_cons_self)
  have hT := hI.2.2
  have hK := hT.K
  have hG := hI.B
  have hE : entryFrame m args 6 = entryFrame m ([.ref x, .int r9, .int s9, .int v9, .ref ao] : List Value).toArray 6 := by rw [hav]
  rw [hE]
  have hl := lv_entry ([.ref x, .int r9, .int s9, .int v9, .ref ao]) (n := 6) (Nat.le_of_ble_eq_true rfl)
  rw [lg_entry_eq]
  generalize (lg_sl ([.ref x, .int r9, .int s9, .int v9, .ref ao]) ++ List.replicate (6 - (lg_sl ([.ref x, .int r9, .int s9, .int v9, .ref ao])).length) Slot.unset).toArray = ls at hl ⊢
  have hl : lv_has ls 6 [(0, .ref x), (1, .int r9), (2, .int s9), (3, .int v9), (4, .ref ao)] := hl
  obtain ⟨aH, wl, la, cap, mc9, g, lf, ho, had, my, sn, sad, hcs, hrs⟩ := id hS
  refine lv_aload hx hb dL_write_0 (lv_at hl 4 rfl) ?_
  refine lv_iconst (v := nI 0) hx hb dL_write_2 (by decide) ?_
  refine lv_aload_n hx hb dL_write_3 rfl (lv_at hl 0 rfl) ?_
  refine lv_iload_n hx hb dL_write_4 rfl (lv_at hl 1 rfl) ?_
  refine lv_iload_n hx hb dL_write_5 rfl (lv_at hl 2 rfl) ?_
  refine lv_iload_n hx hb dL_write_6 rfl (lv_at hl 3 rfl) ?_
  refine gw_xcalli (vx_runV (As := [.int r9, .int s9, .int v9]) (rest := [.int (nI 0), .ref ao]) ⟨hx, hb, hml, hown, hts⟩ (c_write l hnt K M x ro S r9 s9 v9 hS) (cwV 3 hts gL_write_X2_write rfl rfl rfl (by decide +kernel) ⟨Nat.le_of_ble_eq_true rfl, Nat.le_of_ble_eq_true rfl⟩) (gw_preV hG hT hcs.2.1 rfl) rfl rfl hl.1 rfl (lv_room (Nat.le_of_ble_eq_true rfl)) dL_write_7 ⟨Nat.le_of_ble_eq_true rfl, Nat.le_of_ble_eq_true rfl⟩) hG (fun E9 ce9 qx9 M_31 H locs hw hG h7 h8 h9 => ?_) (fun r_30 M_31 H locs hw hG => ?_)
  · obtain ⟨hE9, hM1, hC⟩ := hw
    rw [hM1] at hG
    rw [hE9] at h9
    refine gc_first (name := "java/lang/IllegalArgumentException") hown (htab.trans rfl) (by decide) (by decide) (hts (.classLink RL 13 "java/lang/IllegalArgumentException") (by decide +kernel)) hT.2.2.2.1.1 h7 h8 h9 ?_
    refine lv_astore (lv' := [(5, .ref qx9), (0, .ref x), (1, .int r9), (2, .int s9), (3, .int v9), (4, .ref ao)]) hx hb dL_write_15 hl (by decide) rfl (fun ls hl => ?_)
    refine lv_iconst (v := nI 1) hx hb dL_write_17 (by decide) ?_
    refine vx_ret ?_
    exact gw_iret hx hb hr hlocks hG hT (by omega) (by omega) dL_write_18 (Or.inl ⟨rfl, rfl, hC⟩)
  · obtain ⟨_, _, _, _, _, _, hof⟩ := id hw
    have ha0 : M_31 ao = some (.inl (K.2.1 1, 1, .inr (.inl o9))) := (hof ao _ hao).2 (by rw [hro]; decide) (by rw [hro]; decide)
    refine lv_i2l hx hb dL_write_10 rfl ?_
    refine gw_last_n hx hb hK hG ha0 1 rfl (by omega) (by omega) dL_write_11 (fun H locs hG => ?_)
    obtain ⟨M_32, hM_33⟩ : ∃ M1 : gw_M, M1 = gw_up M_31 ao (.inl (K.2.1 1, 1, .inr (.inl (vp_updL o9 0 r_30.toInt64)))) := ⟨_, rfl⟩
    have hG : gw_B K M_32 s.heap H locs := by rw [hM_33]; exact hG
    have hc_34 : M_32 ao = some (.inl (K.2.1 1, 1, .inr (.inl (vp_updL o9 0 r_30.toInt64)))) := (congrFun hM_33 _).trans gw_s
    refine lv_goto (tgt := 19) hx hb dL_write_12 (by decide) ?_
    refine lv_iconst (v := nI 0) hx hb dL_write_19 (by decide) ?_
    refine vx_ret ?_
    exact gw_iret hx hb hr hlocks hG hT (by omega) (by omega) dL_write_20 (Or.inr ⟨rfl, r_30, M_31, hw, ha0, hM_33⟩)

set_option maxHeartbeats 4000000 in
set_option maxRecDepth 100000 in
/-- w_count -/
theorem w_count (l : Launch) (hnt : l.stackTraces = false) (K : gw_C) (M : gw_M) (x : Nat) (ro : Nat → Nat) (S : gst) (r9 s9 v9 : Int32) (ao : Nat) (o9 : Nat → Int64)  (hS : CS K M ro x S) (hao : M ao = some (.inl (K.2.1 1, 1, .inr (.inl o9)))) (hro : ro ao = 60) : vx_Met l yL_count wsL_count ({ frames := 11, cells := 2, slots := 12, locals := 240 } : Room) (va_Pc [.ref x, .int r9, .int s9, .int v9, .ref ao] (gw_I K M)) (va_Qi (fun r M1 => (r = nI 1 ∧ M1 = M ∧ (¬ (inN r9 S.1 ∧ inN s9 4))) ∨ (r = nI 0 ∧ ∃ r0 M0, (fun r M1 => ∃ rk ks, (rk < S.1 ∧ r9 = nI rk) ∧ (ks < 4 ∧ s9 = nI ks) ∧ r = (wsum (vcnt (S.2.1 rk) rk ks v9).2.2.2.1 (vcnt (S.2.1 rk) rk ks v9).2.2.2.2 ks 6).toInt32 ∧ CS K M1 ro x (shold S rk (vcnt (S.2.1 rk) rk ks v9)) ∧ ofr 60 1000 M M1 ro ro) r0 M0 ∧ M0 ao = some (.inl (K.2.1 1, 1, .inr (.inl o9))) ∧ M1 = gw_up M0 ao (.inl (K.2.1 1, 1, .inr (.inl (vp_updL o9 0 r0.toInt64)))))) (gw_I K) (gw_A K)) (gw_X K (fun _ _ => False)) 2 12 (gw_A K) := by
  refine vx_ofWH (cc := cL_count) (maxL := 6) (ret := (some .int)) (hh := [(0, 12, 15, 13)]) (by decide) rfl ?_
  intro p e s m args below meth c s₁ B hml hv
  obtain ⟨hav, hI⟩ := hv
  have hx := B.exec
  have hb := B.bytes
  have hr := B.returns
  have hts := atoms_spec (ws := wsL_count) B.pre
  have hown : s.vm.findClass RL = some m.cls := findClass_of_methodNamed B.named
  have hlocks : meth.locks = false := B.notSynchronized
  have htab : c.exceptionTable.toList = tableOf [(0, 12, 15, 13)] := vx_table (x := yL_count) B (hts _ List.mem_cons_self)
  have hT := hI.2.2
  have hK := hT.K
  have hG := hI.B
  have hE : entryFrame m args 6 = entryFrame m ([.ref x, .int r9, .int s9, .int v9, .ref ao] : List Value).toArray 6 := by rw [hav]
  rw [hE]
  have hl := lv_entry ([.ref x, .int r9, .int s9, .int v9, .ref ao]) (n := 6) (Nat.le_of_ble_eq_true rfl)
  rw [lg_entry_eq]
  generalize (lg_sl ([.ref x, .int r9, .int s9, .int v9, .ref ao]) ++ List.replicate (6 - (lg_sl ([.ref x, .int r9, .int s9, .int v9, .ref ao])).length) Slot.unset).toArray = ls at hl ⊢
  have hl : lv_has ls 6 [(0, .ref x), (1, .int r9), (2, .int s9), (3, .int v9), (4, .ref ao)] := hl
  obtain ⟨aH, wl, la, cap, mc9, g, lf, ho, had, my, sn, sad, hcs, hrs⟩ := id hS
  refine lv_aload hx hb dL_count_0 (lv_at hl 4 rfl) ?_
  refine lv_iconst (v := nI 0) hx hb dL_count_2 (by decide) ?_
  refine lv_aload_n hx hb dL_count_3 rfl (lv_at hl 0 rfl) ?_
  refine lv_iload_n hx hb dL_count_4 rfl (lv_at hl 1 rfl) ?_
  refine lv_iload_n hx hb dL_count_5 rfl (lv_at hl 2 rfl) ?_
  refine lv_iload_n hx hb dL_count_6 rfl (lv_at hl 3 rfl) ?_
  refine gw_xcalli (vx_runV (As := [.int r9, .int s9, .int v9]) (rest := [.int (nI 0), .ref ao]) ⟨hx, hb, hml, hown, hts⟩ (c_count l hnt K M x ro S r9 s9 v9 hS) (cwV 3 hts gL_count_X2_count rfl rfl rfl (by decide +kernel) ⟨Nat.le_of_ble_eq_true rfl, Nat.le_of_ble_eq_true rfl⟩) (gw_preV hG hT hcs.2.1 rfl) rfl rfl hl.1 rfl (lv_room (Nat.le_of_ble_eq_true rfl)) dL_count_7 ⟨Nat.le_of_ble_eq_true rfl, Nat.le_of_ble_eq_true rfl⟩) hG (fun E9 ce9 qx9 M_36 H locs hw hG h7 h8 h9 => ?_) (fun r_35 M_36 H locs hw hG => ?_)
  · obtain ⟨hE9, hM1, hC⟩ := hw
    rw [hM1] at hG
    rw [hE9] at h9
    refine gc_first (name := "java/lang/IllegalArgumentException") hown (htab.trans rfl) (by decide) (by decide) (hts (.classLink RL 13 "java/lang/IllegalArgumentException") (by decide +kernel)) hT.2.2.2.1.1 h7 h8 h9 ?_
    refine lv_astore (lv' := [(5, .ref qx9), (0, .ref x), (1, .int r9), (2, .int s9), (3, .int v9), (4, .ref ao)]) hx hb dL_count_15 hl (by decide) rfl (fun ls hl => ?_)
    refine lv_iconst (v := nI 1) hx hb dL_count_17 (by decide) ?_
    refine vx_ret ?_
    exact gw_iret hx hb hr hlocks hG hT (by omega) (by omega) dL_count_18 (Or.inl ⟨rfl, rfl, hC⟩)
  · obtain ⟨_, _, _, _, _, _, hof⟩ := id hw
    have ha0 : M_36 ao = some (.inl (K.2.1 1, 1, .inr (.inl o9))) := (hof ao _ hao).2 (by rw [hro]; decide) (by rw [hro]; decide)
    refine lv_i2l hx hb dL_count_10 rfl ?_
    refine gw_last_n hx hb hK hG ha0 1 rfl (by omega) (by omega) dL_count_11 (fun H locs hG => ?_)
    obtain ⟨M_37, hM_38⟩ : ∃ M1 : gw_M, M1 = gw_up M_36 ao (.inl (K.2.1 1, 1, .inr (.inl (vp_updL o9 0 r_35.toInt64)))) := ⟨_, rfl⟩
    have hG : gw_B K M_37 s.heap H locs := by rw [hM_38]; exact hG
    have hc_39 : M_37 ao = some (.inl (K.2.1 1, 1, .inr (.inl (vp_updL o9 0 r_35.toInt64)))) := (congrFun hM_38 _).trans gw_s
    refine lv_goto (tgt := 19) hx hb dL_count_12 (by decide) ?_
    refine lv_iconst (v := nI 0) hx hb dL_count_19 (by decide) ?_
    refine vx_ret ?_
    exact gw_iret hx hb hr hlocks hG hT (by omega) (by omega) dL_count_20 (Or.inr ⟨rfl, r_35, M_36, hw, ha0, hM_38⟩)

set_option maxHeartbeats 4000000 in
set_option maxRecDepth 100000 in
/-- w_gossip -/
theorem w_gossip (l : Launch) (hnt : l.stackTraces = false) (K : gw_C) (M : gw_M) (x : Nat) (ro : Nat → Nat) (S : gst) (r9 s9 : Int32) (ao : Nat) (o9 : Nat → Int64)  (hS : CS K M ro x S) (hao : M ao = some (.inl (K.2.1 1, 1, .inr (.inl o9)))) (hro : ro ao = 60) : vx_Met l yL_gossip wsL_gossip ({ frames := 11, cells := 11, slots := 662, locals := 240 } : Room) (va_Pc [.ref x, .int r9, .int s9, .ref ao] (gw_I K M)) (va_Qi (fun r M1 => (r = nI 1 ∧ M1 = M ∧ ¬ (inN r9 S.1 ∧ inN s9 S.1 ∧ ¬ r9 = s9)) ∨ (r = nI 2 ∧ M1 = M ∧ (inN r9 S.1 ∧ inN s9 S.1 ∧ ¬ r9 = s9) ∧ S.2.2.1 = 100) ∨ (r = nI 0 ∧ ∃ r0 M0, (fun r M1 => ∃ rk rj, (rk < S.1 ∧ r9 = nI rk) ∧ (rj < S.1 ∧ s9 = nI rj) ∧ ¬ rk = rj ∧ S.2.2.1 < 100 ∧ r = nI (S.2.2.1 + 1) ∧ ∃ ro1, CS K M1 ro1 x (smsg S rk rj (vsn (S.2.1 rk))) ∧ ofr 60 1000 M M1 ro ro1) r0 M0 ∧ M0 ao = some (.inl (K.2.1 1, 1, .inr (.inl o9))) ∧ M1 = gw_up M0 ao (.inl (K.2.1 1, 1, .inr (.inl (vp_updL o9 0 r0.toInt64)))))) (gw_I K) (gw_A K)) (gw_X K (fun _ _ => False)) 11 662 (gw_A K) := by
  refine vx_ofWH (cc := cL_gossip) (maxL := 5) (ret := (some .int)) (hh := [(0, 10, 13, 13), (0, 10, 17, 35)]) (by decide) rfl ?_
  intro p e s m args below meth c s₁ B hml hv
  obtain ⟨hav, hI⟩ := hv
  have hx := B.exec
  have hb := B.bytes
  have hr := B.returns
  have hts := atoms_spec (ws := wsL_gossip) B.pre
  have hown : s.vm.findClass RL = some m.cls := findClass_of_methodNamed B.named
  have hlocks : meth.locks = false := B.notSynchronized
  have htab : c.exceptionTable.toList = tableOf [(0, 10, 13, 13), (0, 10, 17, 35)] := vx_table (x := yL_gossip) B (hts _ List.mem_cons_self)
  have hT := hI.2.2
  have hK := hT.K
  have hG := hI.B
  have hE : entryFrame m args 5 = entryFrame m ([.ref x, .int r9, .int s9, .ref ao] : List Value).toArray 5 := by rw [hav]
  rw [hE]
  have hl := lv_entry ([.ref x, .int r9, .int s9, .ref ao]) (n := 5) (Nat.le_of_ble_eq_true rfl)
  rw [lg_entry_eq]
  generalize (lg_sl ([.ref x, .int r9, .int s9, .ref ao]) ++ List.replicate (5 - (lg_sl ([.ref x, .int r9, .int s9, .ref ao])).length) Slot.unset).toArray = ls at hl ⊢
  have hl : lv_has ls 5 [(0, .ref x), (1, .int r9), (2, .int s9), (3, .ref ao)] := hl
  obtain ⟨aH, wl, la, cap, mc9, g, lf, ho, had, my, sn, sad, hcs, hrs⟩ := id hS
  refine lv_aload_n hx hb dL_gossip_0 rfl (lv_at hl 3 rfl) ?_
  refine lv_iconst (v := nI 0) hx hb dL_gossip_1 (by decide) ?_
  refine lv_aload_n hx hb dL_gossip_2 rfl (lv_at hl 0 rfl) ?_
  refine lv_iload_n hx hb dL_gossip_3 rfl (lv_at hl 1 rfl) ?_
  refine lv_iload_n hx hb dL_gossip_4 rfl (lv_at hl 2 rfl) ?_
  refine gw_xcalli (vx_runV (As := [.int r9, .int s9]) (rest := [.int (nI 0), .ref ao]) ⟨hx, hb, hml, hown, hts⟩ (c_gossip l hnt K M x ro S r9 s9 hS) (cwV 2 hts gL_gossip_X2_gossip rfl rfl rfl (by decide +kernel) ⟨Nat.le_of_ble_eq_true rfl, Nat.le_of_ble_eq_true rfl⟩) (gw_preV hG hT hcs.2.1 rfl) rfl rfl hl.1 rfl (lv_room (Nat.le_of_ble_eq_true rfl)) dL_gossip_5 ⟨Nat.le_of_ble_eq_true rfl, Nat.le_of_ble_eq_true rfl⟩) hG (fun E9 ce9 qx9 M_41 H locs hw hG h7 h8 h9 => ?_) (fun r_40 M_41 H locs hw hG => ?_)
  · obtain ⟨hM1, hw⟩ := hw
    rw [hM1] at hG
    rcases hw with ⟨hE9, hC⟩ | ⟨hE9, hC⟩
    · rw [hE9] at h9
      refine gc_first (name := "java/lang/IllegalArgumentException") hown (htab.trans rfl) (by decide) (by decide) (hts (.classLink RL 13 "java/lang/IllegalArgumentException") (by decide +kernel)) hT.2.2.2.1.1 h7 h8 h9 ?_
      refine lv_astore (lv' := [(4, .ref qx9), (0, .ref x), (1, .int r9), (2, .int s9), (3, .ref ao)]) hx hb dL_gossip_13 hl (by decide) rfl (fun ls hl => ?_)
      refine lv_iconst (v := nI 1) hx hb dL_gossip_15 (by decide) ?_
      refine vx_ret ?_
      exact gw_iret hx hb hr hlocks hG hT (by omega) (by omega) dL_gossip_16 (Or.inl ⟨rfl, rfl, hC⟩)
    · rw [hE9] at h9
      refine gc_second (nm := "java/lang/IllegalArgumentException") (name := "java/lang/IllegalStateException") hown (htab.trans rfl) (by decide) (by decide) (by decide) (by decide) (hts (.classLink RL 13 "java/lang/IllegalArgumentException") (by decide +kernel)) hT.2.2.2.2.2.2 (hts (.classLink RL 35 "java/lang/IllegalStateException") (by decide +kernel)) hT.2.2.2.1.2 h7 h8 h9 ?_
      refine lv_astore (lv' := [(4, .ref qx9), (0, .ref x), (1, .int r9), (2, .int s9), (3, .ref ao)]) hx hb dL_gossip_17 hl (by decide) rfl (fun ls hl => ?_)
      refine lv_iconst (v := nI 2) hx hb dL_gossip_19 (by decide) ?_
      refine vx_ret ?_
      exact gw_iret hx hb hr hlocks hG hT (by omega) (by omega) dL_gossip_20 (Or.inr (Or.inl ⟨rfl, rfl, hC.1, hC.2⟩))
  · obtain ⟨_, _, _, _, _, _, _, _, _, hof⟩ := id hw
    have ha0 : M_41 ao = some (.inl (K.2.1 1, 1, .inr (.inl o9))) := (hof ao _ hao).2 (by rw [hro]; decide) (by rw [hro]; decide)
    refine lv_i2l hx hb dL_gossip_8 rfl ?_
    refine gw_last_n hx hb hK hG ha0 1 rfl (by omega) (by omega) dL_gossip_9 (fun H locs hG => ?_)
    obtain ⟨M_42, hM_43⟩ : ∃ M1 : gw_M, M1 = gw_up M_41 ao (.inl (K.2.1 1, 1, .inr (.inl (vp_updL o9 0 r_40.toInt64)))) := ⟨_, rfl⟩
    have hG : gw_B K M_42 s.heap H locs := by rw [hM_43]; exact hG
    have hc_44 : M_42 ao = some (.inl (K.2.1 1, 1, .inr (.inl (vp_updL o9 0 r_40.toInt64)))) := (congrFun hM_43 _).trans gw_s
    refine lv_goto (tgt := 21) hx hb dL_gossip_10 (by decide) ?_
    refine lv_iconst (v := nI 0) hx hb dL_gossip_21 (by decide) ?_
    refine vx_ret ?_
    exact gw_iret hx hb hr hlocks hG hT (by omega) (by omega) dL_gossip_22 (Or.inr (Or.inr ⟨rfl, r_40, M_41, hw, ha0, hM_43⟩))

set_option maxHeartbeats 4000000 in
set_option maxRecDepth 100000 in
/-- w_deliver -/
theorem w_deliver (l : Launch) (hnt : l.stackTraces = false) (K : gw_C) (M : gw_M) (x : Nat) (ro : Nat → Nat) (S : gst) (i9 : Int32) (ao : Nat) (o9 : Nat → Int64)  (hS : CS K M ro x S) (hao : M ao = some (.inl (K.2.1 1, 1, .inr (.inl o9)))) (hro : ro ao = 60) : vx_Met l yL_deliver wsL_deliver ({ frames := 11, cells := 1, slots := 6, locals := 240 } : Room) (va_Pc [.ref x, .int i9, .ref ao] (gw_I K M)) (va_Qi (fun r M1 => (r = nI 1 ∧ M1 = M ∧ (¬ inN i9 S.2.2.1)) ∨ (r = nI 0 ∧ ∃ r0 M0, (fun r M1 => ∃ k, (k < S.2.2.1 ∧ i9 = nI k) ∧ r = nI (hmf (S.2.1 (S.2.2.2.2.1 k)) (S.2.2.2.2.2 k) 408).2 ∧ ∃ ro1, CS K M1 ro1 x (shold (sdel S k) (S.2.2.2.2.1 k) (hmg (S.2.1 (S.2.2.2.2.1 k)) (S.2.2.2.2.2 k))) ∧ ofr 60 1000 M M1 ro ro1) r0 M0 ∧ M0 ao = some (.inl (K.2.1 1, 1, .inr (.inl o9))) ∧ M1 = gw_up M0 ao (.inl (K.2.1 1, 1, .inr (.inl (vp_updL o9 0 r0.toInt64)))))) (gw_I K) (gw_A K)) (gw_X K (fun _ _ => False)) 1 6 (gw_A K) := by
  refine vx_ofWH (cc := cL_deliver) (maxL := 4) (ret := (some .int)) (hh := [(0, 9, 12, 13)]) (by decide) rfl ?_
  intro p e s m args below meth c s₁ B hml hv
  obtain ⟨hav, hI⟩ := hv
  have hx := B.exec
  have hb := B.bytes
  have hr := B.returns
  have hts := atoms_spec (ws := wsL_deliver) B.pre
  have hown : s.vm.findClass RL = some m.cls := findClass_of_methodNamed B.named
  have hlocks : meth.locks = false := B.notSynchronized
  have htab : c.exceptionTable.toList = tableOf [(0, 9, 12, 13)] := vx_table (x := yL_deliver) B (hts _ List.mem_cons_self)
  have hT := hI.2.2
  have hK := hT.K
  have hG := hI.B
  have hE : entryFrame m args 4 = entryFrame m ([.ref x, .int i9, .ref ao] : List Value).toArray 4 := by rw [hav]
  rw [hE]
  have hl := lv_entry ([.ref x, .int i9, .ref ao]) (n := 4) (Nat.le_of_ble_eq_true rfl)
  rw [lg_entry_eq]
  generalize (lg_sl ([.ref x, .int i9, .ref ao]) ++ List.replicate (4 - (lg_sl ([.ref x, .int i9, .ref ao])).length) Slot.unset).toArray = ls at hl ⊢
  have hl : lv_has ls 4 [(0, .ref x), (1, .int i9), (2, .ref ao)] := hl
  obtain ⟨aH, wl, la, cap, mc9, g, lf, ho, had, my, sn, sad, hcs, hrs⟩ := id hS
  refine lv_aload_n hx hb dL_deliver_0 rfl (lv_at hl 2 rfl) ?_
  refine lv_iconst (v := nI 0) hx hb dL_deliver_1 (by decide) ?_
  refine lv_aload_n hx hb dL_deliver_2 rfl (lv_at hl 0 rfl) ?_
  refine lv_iload_n hx hb dL_deliver_3 rfl (lv_at hl 1 rfl) ?_
  refine gw_xcalli (vx_runV (As := [.int i9]) (rest := [.int (nI 0), .ref ao]) ⟨hx, hb, hml, hown, hts⟩ (c_deliver l hnt K M x ro S i9 hS) (cwV 1 hts gL_deliver_X2_deliver rfl rfl rfl (by decide +kernel) ⟨Nat.le_of_ble_eq_true rfl, Nat.le_of_ble_eq_true rfl⟩) (gw_preV hG hT hcs.2.1 rfl) rfl rfl hl.1 rfl (lv_room (Nat.le_of_ble_eq_true rfl)) dL_deliver_4 ⟨Nat.le_of_ble_eq_true rfl, Nat.le_of_ble_eq_true rfl⟩) hG (fun E9 ce9 qx9 M_46 H locs hw hG h7 h8 h9 => ?_) (fun r_45 M_46 H locs hw hG => ?_)
  · obtain ⟨hE9, hM1, hC⟩ := hw
    rw [hM1] at hG
    rw [hE9] at h9
    refine gc_first (name := "java/lang/IllegalArgumentException") hown (htab.trans rfl) (by decide) (by decide) (hts (.classLink RL 13 "java/lang/IllegalArgumentException") (by decide +kernel)) hT.2.2.2.1.1 h7 h8 h9 ?_
    refine lv_astore_n (lv' := [(3, .ref qx9), (0, .ref x), (1, .int i9), (2, .ref ao)]) hx hb dL_deliver_12 rfl hl (by decide) rfl (fun ls hl => ?_)
    refine lv_iconst (v := nI 1) hx hb dL_deliver_13 (by decide) ?_
    refine vx_ret ?_
    exact gw_iret hx hb hr hlocks hG hT (by omega) (by omega) dL_deliver_14 (Or.inl ⟨rfl, rfl, hC⟩)
  · obtain ⟨_, _, _, _, _, hof⟩ := id hw
    have ha0 : M_46 ao = some (.inl (K.2.1 1, 1, .inr (.inl o9))) := (hof ao _ hao).2 (by rw [hro]; decide) (by rw [hro]; decide)
    refine lv_i2l hx hb dL_deliver_7 rfl ?_
    refine gw_last_n hx hb hK hG ha0 1 rfl (by omega) (by omega) dL_deliver_8 (fun H locs hG => ?_)
    obtain ⟨M_47, hM_48⟩ : ∃ M1 : gw_M, M1 = gw_up M_46 ao (.inl (K.2.1 1, 1, .inr (.inl (vp_updL o9 0 r_45.toInt64)))) := ⟨_, rfl⟩
    have hG : gw_B K M_47 s.heap H locs := by rw [hM_48]; exact hG
    have hc_49 : M_47 ao = some (.inl (K.2.1 1, 1, .inr (.inl (vp_updL o9 0 r_45.toInt64)))) := (congrFun hM_48 _).trans gw_s
    refine lv_goto (tgt := 15) hx hb dL_deliver_9 (by decide) ?_
    refine lv_iconst (v := nI 0) hx hb dL_deliver_15 (by decide) ?_
    refine vx_ret ?_
    exact gw_iret hx hb hr hlocks hG hT (by omega) (by omega) dL_deliver_16 (Or.inr ⟨rfl, r_45, M_46, hw, ha0, hM_48⟩)

set_option maxHeartbeats 4000000 in
set_option maxRecDepth 100000 in
/-- w_drop -/
theorem w_drop (l : Launch) (hnt : l.stackTraces = false) (K : gw_C) (M : gw_M) (x : Nat) (ro : Nat → Nat) (S : gst) (i9 : Int32) (ao : Nat) (o9 : Nat → Int64)  (hS : CS K M ro x S) (hao : M ao = some (.inl (K.2.1 1, 1, .inr (.inl o9)))) (hro : ro ao = 60) : vx_Met l yL_drop wsL_drop ({ frames := 11, cells := 1, slots := 6, locals := 240 } : Room) (va_Pc [.ref x, .int i9, .ref ao] (gw_I K M)) (va_Qi (fun r M1 => (r = nI 1 ∧ M1 = M ∧ (¬ inN i9 S.2.2.1)) ∨ (r = nI 0 ∧ ∃ r0 M0, (fun r M1 => ∃ k, (k < S.2.2.1 ∧ i9 = nI k) ∧ r = nI (S.2.2.2.2.1 k) ∧ ∃ ro1, CS K M1 ro1 x (sdel S k) ∧ ofr 60 1000 M M1 ro ro1) r0 M0 ∧ M0 ao = some (.inl (K.2.1 1, 1, .inr (.inl o9))) ∧ M1 = gw_up M0 ao (.inl (K.2.1 1, 1, .inr (.inl (vp_updL o9 0 r0.toInt64)))))) (gw_I K) (gw_A K)) (gw_X K (fun _ _ => False)) 1 6 (gw_A K) := by
  refine vx_ofWH (cc := cL_drop) (maxL := 4) (ret := (some .int)) (hh := [(0, 9, 12, 13)]) (by decide) rfl ?_
  intro p e s m args below meth c s₁ B hml hv
  obtain ⟨hav, hI⟩ := hv
  have hx := B.exec
  have hb := B.bytes
  have hr := B.returns
  have hts := atoms_spec (ws := wsL_drop) B.pre
  have hown : s.vm.findClass RL = some m.cls := findClass_of_methodNamed B.named
  have hlocks : meth.locks = false := B.notSynchronized
  have htab : c.exceptionTable.toList = tableOf [(0, 9, 12, 13)] := vx_table (x := yL_drop) B (hts _ List.mem_cons_self)
  have hT := hI.2.2
  have hK := hT.K
  have hG := hI.B
  have hE : entryFrame m args 4 = entryFrame m ([.ref x, .int i9, .ref ao] : List Value).toArray 4 := by rw [hav]
  rw [hE]
  have hl := lv_entry ([.ref x, .int i9, .ref ao]) (n := 4) (Nat.le_of_ble_eq_true rfl)
  rw [lg_entry_eq]
  generalize (lg_sl ([.ref x, .int i9, .ref ao]) ++ List.replicate (4 - (lg_sl ([.ref x, .int i9, .ref ao])).length) Slot.unset).toArray = ls at hl ⊢
  have hl : lv_has ls 4 [(0, .ref x), (1, .int i9), (2, .ref ao)] := hl
  obtain ⟨aH, wl, la, cap, mc9, g, lf, ho, had, my, sn, sad, hcs, hrs⟩ := id hS
  refine lv_aload_n hx hb dL_drop_0 rfl (lv_at hl 2 rfl) ?_
  refine lv_iconst (v := nI 0) hx hb dL_drop_1 (by decide) ?_
  refine lv_aload_n hx hb dL_drop_2 rfl (lv_at hl 0 rfl) ?_
  refine lv_iload_n hx hb dL_drop_3 rfl (lv_at hl 1 rfl) ?_
  refine gw_xcalli (vx_runV (As := [.int i9]) (rest := [.int (nI 0), .ref ao]) ⟨hx, hb, hml, hown, hts⟩ (c_drop l hnt K M x ro S i9 hS) (cwV 1 hts gL_drop_X2_drop rfl rfl rfl (by decide +kernel) ⟨Nat.le_of_ble_eq_true rfl, Nat.le_of_ble_eq_true rfl⟩) (gw_preV hG hT hcs.2.1 rfl) rfl rfl hl.1 rfl (lv_room (Nat.le_of_ble_eq_true rfl)) dL_drop_4 ⟨Nat.le_of_ble_eq_true rfl, Nat.le_of_ble_eq_true rfl⟩) hG (fun E9 ce9 qx9 M_51 H locs hw hG h7 h8 h9 => ?_) (fun r_50 M_51 H locs hw hG => ?_)
  · obtain ⟨hE9, hM1, hC⟩ := hw
    rw [hM1] at hG
    rw [hE9] at h9
    refine gc_first (name := "java/lang/IllegalArgumentException") hown (htab.trans rfl) (by decide) (by decide) (hts (.classLink RL 13 "java/lang/IllegalArgumentException") (by decide +kernel)) hT.2.2.2.1.1 h7 h8 h9 ?_
    refine lv_astore_n (lv' := [(3, .ref qx9), (0, .ref x), (1, .int i9), (2, .ref ao)]) hx hb dL_drop_12 rfl hl (by decide) rfl (fun ls hl => ?_)
    refine lv_iconst (v := nI 1) hx hb dL_drop_13 (by decide) ?_
    refine vx_ret ?_
    exact gw_iret hx hb hr hlocks hG hT (by omega) (by omega) dL_drop_14 (Or.inl ⟨rfl, rfl, hC⟩)
  · obtain ⟨_, _, _, _, _, hof⟩ := id hw
    have ha0 : M_51 ao = some (.inl (K.2.1 1, 1, .inr (.inl o9))) := (hof ao _ hao).2 (by rw [hro]; decide) (by rw [hro]; decide)
    refine lv_i2l hx hb dL_drop_7 rfl ?_
    refine gw_last_n hx hb hK hG ha0 1 rfl (by omega) (by omega) dL_drop_8 (fun H locs hG => ?_)
    obtain ⟨M_52, hM_53⟩ : ∃ M1 : gw_M, M1 = gw_up M_51 ao (.inl (K.2.1 1, 1, .inr (.inl (vp_updL o9 0 r_50.toInt64)))) := ⟨_, rfl⟩
    have hG : gw_B K M_52 s.heap H locs := by rw [hM_53]; exact hG
    have hc_54 : M_52 ao = some (.inl (K.2.1 1, 1, .inr (.inl (vp_updL o9 0 r_50.toInt64)))) := (congrFun hM_53 _).trans gw_s
    refine lv_goto (tgt := 15) hx hb dL_drop_9 (by decide) ?_
    refine lv_iconst (v := nI 0) hx hb dL_drop_15 (by decide) ?_
    refine vx_ret ?_
    exact gw_iret hx hb hr hlocks hG hT (by omega) (by omega) dL_drop_16 (Or.inr ⟨rfl, r_50, M_51, hw, ha0, hM_53⟩)

set_option maxHeartbeats 4000000 in
set_option maxRecDepth 100000 in
/-- w_copy -/
theorem w_copy (l : Launch) (hnt : l.stackTraces = false) (K : gw_C) (M : gw_M) (x : Nat) (ro : Nat → Nat) (S : gst) (i9 : Int32) (ao : Nat) (o9 : Nat → Int64)  (hS : CS K M ro x S) (hao : M ao = some (.inl (K.2.1 1, 1, .inr (.inl o9)))) (hro : ro ao = 60) : vx_Met l yL_copy wsL_copy ({ frames := 11, cells := 3, slots := 159, locals := 240 } : Room) (va_Pc [.ref x, .int i9, .ref ao] (gw_I K M)) (va_Qi (fun r M1 => (r = nI 1 ∧ M1 = M ∧ (¬ inN i9 S.2.2.1)) ∨ (r = nI 0 ∧ ∃ r0 M0, (fun r M1 => ∃ k, (k < S.2.2.1 ∧ i9 = nI k) ∧ ((S.2.2.1 = 100 ∧ r = nI 0 ∧ M1 = M) ∨ (S.2.2.1 < 100 ∧ r = nI 1 ∧ ∃ ro1, CS K M1 ro1 x (smsg S (S.2.2.2.1 k) (S.2.2.2.2.1 k) (S.2.2.2.2.2 k)) ∧ ofr 60 1000 M M1 ro ro1))) r0 M0 ∧ M0 ao = some (.inl (K.2.1 1, 1, .inr (.inl o9))) ∧ M1 = gw_up M0 ao (.inl (K.2.1 1, 1, .inr (.inl (vp_updL o9 0 (if r0 = 0 then 0 else 1))))))) (gw_I K) (gw_A K)) (gw_X K (fun _ _ => False)) 3 159 (gw_A K) := by
  refine vx_ofWH (cc := cL_copy) (maxL := 4) (ret := (some .int)) (hh := [(0, 16, 19, 13)]) (by decide) rfl ?_
  intro p e s m args below meth c s₁ B hml hv
  obtain ⟨hav, hI⟩ := hv
  have hx := B.exec
  have hb := B.bytes
  have hr := B.returns
  have hts := atoms_spec (ws := wsL_copy) B.pre
  have hown : s.vm.findClass RL = some m.cls := findClass_of_methodNamed B.named
  have hlocks : meth.locks = false := B.notSynchronized
  have htab : c.exceptionTable.toList = tableOf [(0, 16, 19, 13)] := vx_table (x := yL_copy) B (hts _ List.mem_cons_self)
  have hT := hI.2.2
  have hK := hT.K
  have hG := hI.B
  have hE : entryFrame m args 4 = entryFrame m ([.ref x, .int i9, .ref ao] : List Value).toArray 4 := by rw [hav]
  rw [hE]
  have hl := lv_entry ([.ref x, .int i9, .ref ao]) (n := 4) (Nat.le_of_ble_eq_true rfl)
  rw [lg_entry_eq]
  generalize (lg_sl ([.ref x, .int i9, .ref ao]) ++ List.replicate (4 - (lg_sl ([.ref x, .int i9, .ref ao])).length) Slot.unset).toArray = ls at hl ⊢
  have hl : lv_has ls 4 [(0, .ref x), (1, .int i9), (2, .ref ao)] := hl
  obtain ⟨aH, wl, la, cap, mc9, g, lf, ho, had, my, sn, sad, hcs, hrs⟩ := id hS
  refine lv_aload_n hx hb dL_copy_0 rfl (lv_at hl 2 rfl) ?_
  refine lv_iconst (v := nI 0) hx hb dL_copy_1 (by decide) ?_
  refine lv_aload_n hx hb dL_copy_2 rfl (lv_at hl 0 rfl) ?_
  refine lv_iload_n hx hb dL_copy_3 rfl (lv_at hl 1 rfl) ?_
  refine gw_xcalli (vx_runV (As := [.int i9]) (rest := [.int (nI 0), .ref ao]) ⟨hx, hb, hml, hown, hts⟩ (c_copy l hnt K M x ro S i9 hS) (cwV 1 hts gL_copy_X2_copy rfl rfl rfl (by decide +kernel) ⟨Nat.le_of_ble_eq_true rfl, Nat.le_of_ble_eq_true rfl⟩) (gw_preV hG hT hcs.2.1 rfl) rfl rfl hl.1 rfl (lv_room (Nat.le_of_ble_eq_true rfl)) dL_copy_4 ⟨Nat.le_of_ble_eq_true rfl, Nat.le_of_ble_eq_true rfl⟩) hG (fun E9 ce9 qx9 M_56 H locs hw hG h7 h8 h9 => ?_) (fun r_55 M_56 H locs hw hG => ?_)
  · obtain ⟨hE9, hM1, hC⟩ := hw
    rw [hM1] at hG
    rw [hE9] at h9
    refine gc_first (name := "java/lang/IllegalArgumentException") hown (htab.trans rfl) (by decide) (by decide) (hts (.classLink RL 13 "java/lang/IllegalArgumentException") (by decide +kernel)) hT.2.2.2.1.1 h7 h8 h9 ?_
    refine lv_astore_n (lv' := [(3, .ref qx9), (0, .ref x), (1, .int i9), (2, .ref ao)]) hx hb dL_copy_19 rfl hl (by decide) rfl (fun ls hl => ?_)
    refine lv_iconst (v := nI 1) hx hb dL_copy_20 (by decide) ?_
    refine vx_ret ?_
    exact gw_iret hx hb hr hlocks hG hT (by omega) (by omega) dL_copy_21 (Or.inl ⟨rfl, rfl, hC⟩)
  · have ha0 : M_56 ao = some (.inl (K.2.1 1, 1, .inr (.inl o9))) := by
      obtain ⟨_, _, h5⟩ := id hw
      rcases h5 with ⟨_, _, h6⟩ | ⟨_, _, _, _, hof⟩
      · rw [h6]; exact hao
      · exact (hof ao _ hao).2 (by rw [hro]; decide) (by rw [hro]; decide)
    refine lv_if_eq hx hb (tgt := 14) dL_copy_7 (by decide) (fun hz => ?_) (fun hz => ?_)
    · refine lv_lconst (v := 0) hx hb dL_copy_14 (by decide) ?_
      refine gw_last_n hx hb hK hG ha0 1 rfl (by omega) (by omega) dL_copy_15 (fun H locs hG => ?_)
      obtain ⟨M_57, hM_58⟩ : ∃ M1 : gw_M, M1 = gw_up M_56 ao (.inl (K.2.1 1, 1, .inr (.inl (vp_updL o9 0 0)))) := ⟨_, rfl⟩
      have hG : gw_B K M_57 s.heap H locs := by rw [hM_58]; exact hG
      have hc_59 : M_57 ao = some (.inl (K.2.1 1, 1, .inr (.inl (vp_updL o9 0 0)))) := (congrFun hM_58 _).trans gw_s
      refine lv_goto (tgt := 22) hx hb dL_copy_16 (by decide) ?_
      refine lv_iconst (v := nI 0) hx hb dL_copy_22 (by decide) ?_
      refine vx_ret ?_
      exact gw_iret hx hb hr hlocks hG hT (by omega) (by omega) dL_copy_23 (Or.inr ⟨rfl, r_55, M_56, hw, ha0, by rw [if_pos hz]; exact hM_58⟩)
    · refine lv_lconst (v := 1) hx hb dL_copy_10 (by decide) ?_
      refine lv_goto (tgt := 15) hx hb dL_copy_11 (by decide) ?_
      refine gw_last_n hx hb hK hG ha0 1 rfl (by omega) (by omega) dL_copy_15 (fun H locs hG => ?_)
      obtain ⟨M_60, hM_61⟩ : ∃ M1 : gw_M, M1 = gw_up M_56 ao (.inl (K.2.1 1, 1, .inr (.inl (vp_updL o9 0 1)))) := ⟨_, rfl⟩
      have hG : gw_B K M_60 s.heap H locs := by rw [hM_61]; exact hG
      have hc_62 : M_60 ao = some (.inl (K.2.1 1, 1, .inr (.inl (vp_updL o9 0 1)))) := (congrFun hM_61 _).trans gw_s
      refine lv_goto (tgt := 22) hx hb dL_copy_16 (by decide) ?_
      refine lv_iconst (v := nI 0) hx hb dL_copy_22 (by decide) ?_
      refine vx_ret ?_
      exact gw_iret hx hb hr hlocks hG hT (by omega) (by omega) dL_copy_23 (Or.inr ⟨rfl, r_55, M_56, hw, ha0, by rw [if_neg hz]; exact hM_61⟩)

set_option maxHeartbeats 4000000 in
set_option maxRecDepth 100000 in
/-- w_turn -/
theorem w_turn (l : Launch) (hnt : l.stackTraces = false) (K : gw_C) (M : gw_M) (x : Nat) (ro : Nat → Nat) (S : gst) (i9 r9 : Int32)  (hS : CS K M ro x S)  : vx_Met l yL_turn wsL_turn ({ frames := 11, cells := 2, slots := 12, locals := 240 } : Room) (va_Pc [.ref x, .int i9, .int r9] (gw_I K M)) (va_Qi (fun r M1 => (r = nI 1 ∧ M1 = M ∧ (¬ (inN i9 S.2.2.1 ∧ inN r9 S.1))) ∨ (r = nI 0 ∧ (fun M1 => ∃ k rk, (k < S.2.2.1 ∧ i9 = nI k) ∧ (rk < S.1 ∧ r9 = nI rk) ∧ CS K M1 ro x (sto S k rk) ∧ ofr 60 1000 M M1 ro ro) M1)) (gw_I K) (gw_A K)) (gw_X K (fun _ _ => False)) 2 12 (gw_A K) := by
  refine vx_ofWH (cc := cL_turn) (maxL := 4) (ret := (some .int)) (hh := [(0, 6, 9, 13)]) (by decide) rfl ?_
  intro p e s m args below meth c s₁ B hml hv
  obtain ⟨hav, hI⟩ := hv
  have hx := B.exec
  have hb := B.bytes
  have hr := B.returns
  have hts := atoms_spec (ws := wsL_turn) B.pre
  have hown : s.vm.findClass RL = some m.cls := findClass_of_methodNamed B.named
  have hlocks : meth.locks = false := B.notSynchronized
  have htab : c.exceptionTable.toList = tableOf [(0, 6, 9, 13)] := vx_table (x := yL_turn) B (hts _ List.mem_cons_self)
  have hT := hI.2.2
  have hK := hT.K
  have hG := hI.B
  have hE : entryFrame m args 4 = entryFrame m ([.ref x, .int i9, .int r9] : List Value).toArray 4 := by rw [hav]
  rw [hE]
  have hl := lv_entry ([.ref x, .int i9, .int r9]) (n := 4) (Nat.le_of_ble_eq_true rfl)
  rw [lg_entry_eq]
  generalize (lg_sl ([.ref x, .int i9, .int r9]) ++ List.replicate (4 - (lg_sl ([.ref x, .int i9, .int r9])).length) Slot.unset).toArray = ls at hl ⊢
  have hl : lv_has ls 4 [(0, .ref x), (1, .int i9), (2, .int r9)] := hl
  obtain ⟨aH, wl, la, cap, mc9, g, lf, ho, had, my, sn, sad, hcs, hrs⟩ := id hS
  refine lv_aload_n hx hb dL_turn_0 rfl (lv_at hl 0 rfl) ?_
  refine lv_iload_n hx hb dL_turn_1 rfl (lv_at hl 1 rfl) ?_
  refine lv_iload_n hx hb dL_turn_2 rfl (lv_at hl 2 rfl) ?_
  refine gw_xcallv (vx_runV (As := [.int i9, .int r9]) (rest := []) ⟨hx, hb, hml, hown, hts⟩ (c_turn l hnt K M x ro S i9 r9 hS) (cwV 2 hts gL_turn_X2_turn rfl rfl rfl (by decide +kernel) ⟨Nat.le_of_ble_eq_true rfl, Nat.le_of_ble_eq_true rfl⟩) (gw_preV hG hT hcs.2.1 rfl) rfl rfl hl.1 rfl (lv_room (Nat.le_of_ble_eq_true rfl)) dL_turn_3 ⟨Nat.le_of_ble_eq_true rfl, Nat.le_of_ble_eq_true rfl⟩) hG (fun E9 ce9 qx9 M_64 H locs hw hG h7 h8 h9 => ?_) (fun M_64 H locs hw hG => ?_)
  · obtain ⟨hE9, hM1, hC⟩ := hw
    rw [hM1] at hG
    rw [hE9] at h9
    refine gc_first (name := "java/lang/IllegalArgumentException") hown (htab.trans rfl) (by decide) (by decide) (hts (.classLink RL 13 "java/lang/IllegalArgumentException") (by decide +kernel)) hT.2.2.2.1.1 h7 h8 h9 ?_
    refine lv_astore_n (lv' := [(3, .ref qx9), (0, .ref x), (1, .int i9), (2, .int r9)]) hx hb dL_turn_9 rfl hl (by decide) rfl (fun ls hl => ?_)
    refine lv_iconst (v := nI 1) hx hb dL_turn_10 (by decide) ?_
    refine vx_ret ?_
    exact gw_iret hx hb hr hlocks hG hT (by omega) (by omega) dL_turn_11 (Or.inl ⟨rfl, rfl, hC⟩)
  · refine lv_goto (tgt := 12) hx hb dL_turn_6 (by decide) ?_
    refine lv_iconst (v := nI 0) hx hb dL_turn_12 (by decide) ?_
    refine vx_ret ?_
    exact gw_iret hx hb hr hlocks hG hT (by omega) (by omega) dL_turn_13 (Or.inr ⟨rfl, hw⟩)

set_option maxHeartbeats 4000000 in
set_option maxRecDepth 100000 in
/-- w_contains -/
theorem w_contains (l : Launch) (hnt : l.stackTraces = false) (K : gw_C) (M : gw_M) (x : Nat) (ro : Nat → Nat) (S : gst) (r9 s9 e9 : Int32) (ao : Nat) (o9 : Nat → Int64)  (hS : CS K M ro x S) (hao : M ao = some (.inl (K.2.1 1, 1, .inr (.inl o9)))) (hro : ro ao = 60) : vx_Met l yL_contains wsL_contains ({ frames := 11, cells := 3, slots := 18, locals := 240 } : Room) (va_Pc [.ref x, .int r9, .int s9, .int e9, .ref ao] (gw_I K M)) (va_Qi (fun r M1 => (r = nI 1 ∧ M1 = M ∧ (¬ (inN r9 S.1 ∧ inN s9 4 ∧ inN e9 16))) ∨ (r = nI 0 ∧ ∃ r0 M0, (fun r M1 => M1 = M ∧ ∃ rk ks ke, (rk < S.1 ∧ r9 = nI rk) ∧ (ks < 4 ∧ s9 = nI ks) ∧ (ke < 16 ∧ e9 = nI ke) ∧ r = if dcnt (S.2.1 rk).2.1 (ks * 16 + ke) 6 = 0 then nI 0 else nI 1) r0 M0 ∧ M0 ao = some (.inl (K.2.1 1, 1, .inr (.inl o9))) ∧ M1 = gw_up M0 ao (.inl (K.2.1 1, 1, .inr (.inl (vp_updL o9 0 (if r0 = 0 then 0 else 1))))))) (gw_I K) (gw_A K)) (gw_X K (fun _ _ => False)) 3 18 (gw_A K) := by
  refine vx_ofWH (cc := cL_contains) (maxL := 6) (ret := (some .int)) (hh := [(0, 19, 22, 13)]) (by decide) rfl ?_
  intro p e s m args below meth c s₁ B hml hv
  obtain ⟨hav, hI⟩ := hv
  have hx := B.exec
  have hb := B.bytes
  have hr := B.returns
  have hts := atoms_spec (ws := wsL_contains) B.pre
  have hown : s.vm.findClass RL = some m.cls := findClass_of_methodNamed B.named
  have hlocks : meth.locks = false := B.notSynchronized
  have htab : c.exceptionTable.toList = tableOf [(0, 19, 22, 13)] := vx_table (x := yL_contains) B (hts _ List.mem_cons_self)
  have hT := hI.2.2
  have hK := hT.K
  have hG := hI.B
  have hE : entryFrame m args 6 = entryFrame m ([.ref x, .int r9, .int s9, .int e9, .ref ao] : List Value).toArray 6 := by rw [hav]
  rw [hE]
  have hl := lv_entry ([.ref x, .int r9, .int s9, .int e9, .ref ao]) (n := 6) (Nat.le_of_ble_eq_true rfl)
  rw [lg_entry_eq]
  generalize (lg_sl ([.ref x, .int r9, .int s9, .int e9, .ref ao]) ++ List.replicate (6 - (lg_sl ([.ref x, .int r9, .int s9, .int e9, .ref ao])).length) Slot.unset).toArray = ls at hl ⊢
  have hl : lv_has ls 6 [(0, .ref x), (1, .int r9), (2, .int s9), (3, .int e9), (4, .ref ao)] := hl
  obtain ⟨aH, wl, la, cap, mc9, g, lf, ho, had, my, sn, sad, hcs, hrs⟩ := id hS
  refine lv_aload hx hb dL_contains_0 (lv_at hl 4 rfl) ?_
  refine lv_iconst (v := nI 0) hx hb dL_contains_2 (by decide) ?_
  refine lv_aload_n hx hb dL_contains_3 rfl (lv_at hl 0 rfl) ?_
  refine lv_iload_n hx hb dL_contains_4 rfl (lv_at hl 1 rfl) ?_
  refine lv_iload_n hx hb dL_contains_5 rfl (lv_at hl 2 rfl) ?_
  refine lv_iload_n hx hb dL_contains_6 rfl (lv_at hl 3 rfl) ?_
  refine gw_xcalli (vx_runV (As := [.int r9, .int s9, .int e9]) (rest := [.int (nI 0), .ref ao]) ⟨hx, hb, hml, hown, hts⟩ (c_contains l hnt K M x ro S r9 s9 e9 hS) (cwV 3 hts gL_contains_X2_contains rfl rfl rfl (by decide +kernel) ⟨Nat.le_of_ble_eq_true rfl, Nat.le_of_ble_eq_true rfl⟩) (gw_preV hG hT hcs.2.1 rfl) rfl rfl hl.1 rfl (lv_room (Nat.le_of_ble_eq_true rfl)) dL_contains_7 ⟨Nat.le_of_ble_eq_true rfl, Nat.le_of_ble_eq_true rfl⟩) hG (fun E9 ce9 qx9 M_66 H locs hw hG h7 h8 h9 => ?_) (fun r_65 M_66 H locs hw hG => ?_)
  · obtain ⟨hE9, hM1, hC⟩ := hw
    rw [hM1] at hG
    rw [hE9] at h9
    refine gc_first (name := "java/lang/IllegalArgumentException") hown (htab.trans rfl) (by decide) (by decide) (hts (.classLink RL 13 "java/lang/IllegalArgumentException") (by decide +kernel)) hT.2.2.2.1.1 h7 h8 h9 ?_
    refine lv_astore (lv' := [(5, .ref qx9), (0, .ref x), (1, .int r9), (2, .int s9), (3, .int e9), (4, .ref ao)]) hx hb dL_contains_22 hl (by decide) rfl (fun ls hl => ?_)
    refine lv_iconst (v := nI 1) hx hb dL_contains_24 (by decide) ?_
    refine vx_ret ?_
    exact gw_iret hx hb hr hlocks hG hT (by omega) (by omega) dL_contains_25 (Or.inl ⟨rfl, rfl, hC⟩)
  · have ha0 : M_66 ao = some (.inl (K.2.1 1, 1, .inr (.inl o9))) := by rw [hw.1]; exact hao
    refine lv_if_eq hx hb (tgt := 17) dL_contains_10 (by decide) (fun hz => ?_) (fun hz => ?_)
    · refine lv_lconst (v := 0) hx hb dL_contains_17 (by decide) ?_
      refine gw_last_n hx hb hK hG ha0 1 rfl (by omega) (by omega) dL_contains_18 (fun H locs hG => ?_)
      obtain ⟨M_67, hM_68⟩ : ∃ M1 : gw_M, M1 = gw_up M_66 ao (.inl (K.2.1 1, 1, .inr (.inl (vp_updL o9 0 0)))) := ⟨_, rfl⟩
      have hG : gw_B K M_67 s.heap H locs := by rw [hM_68]; exact hG
      have hc_69 : M_67 ao = some (.inl (K.2.1 1, 1, .inr (.inl (vp_updL o9 0 0)))) := (congrFun hM_68 _).trans gw_s
      refine lv_goto (tgt := 26) hx hb dL_contains_19 (by decide) ?_
      refine lv_iconst (v := nI 0) hx hb dL_contains_26 (by decide) ?_
      refine vx_ret ?_
      exact gw_iret hx hb hr hlocks hG hT (by omega) (by omega) dL_contains_27 (Or.inr ⟨rfl, r_65, M_66, hw, ha0, by rw [if_pos hz]; exact hM_68⟩)
    · refine lv_lconst (v := 1) hx hb dL_contains_13 (by decide) ?_
      refine lv_goto (tgt := 18) hx hb dL_contains_14 (by decide) ?_
      refine gw_last_n hx hb hK hG ha0 1 rfl (by omega) (by omega) dL_contains_18 (fun H locs hG => ?_)
      obtain ⟨M_70, hM_71⟩ : ∃ M1 : gw_M, M1 = gw_up M_66 ao (.inl (K.2.1 1, 1, .inr (.inl (vp_updL o9 0 1)))) := ⟨_, rfl⟩
      have hG : gw_B K M_70 s.heap H locs := by rw [hM_71]; exact hG
      have hc_72 : M_70 ao = some (.inl (K.2.1 1, 1, .inr (.inl (vp_updL o9 0 1)))) := (congrFun hM_71 _).trans gw_s
      refine lv_goto (tgt := 26) hx hb dL_contains_19 (by decide) ?_
      refine lv_iconst (v := nI 0) hx hb dL_contains_26 (by decide) ?_
      refine vx_ret ?_
      exact gw_iret hx hb hr hlocks hG hT (by omega) (by omega) dL_contains_27 (Or.inr ⟨rfl, r_65, M_66, hw, ha0, by rw [if_neg hz]; exact hM_71⟩)

set_option maxHeartbeats 4000000 in
set_option maxRecDepth 100000 in
/-- w_size -/
theorem w_size (l : Launch) (hnt : l.stackTraces = false) (K : gw_C) (M : gw_M) (x : Nat) (ro : Nat → Nat) (S : gst) (r9 s9 : Int32) (ao : Nat) (o9 : Nat → Int64)  (hS : CS K M ro x S) (hao : M ao = some (.inl (K.2.1 1, 1, .inr (.inl o9)))) (hro : ro ao = 60) : vx_Met l yL_size wsL_size ({ frames := 11, cells := 2, slots := 12, locals := 240 } : Room) (va_Pc [.ref x, .int r9, .int s9, .ref ao] (gw_I K M)) (va_Qi (fun r M1 => (r = nI 1 ∧ M1 = M ∧ (¬ (inN r9 S.1 ∧ inN s9 4))) ∨ (r = nI 0 ∧ ∃ r0 M0, (fun r M1 => M1 = M ∧ ∃ ra sa, (ra < S.1 ∧ r9 = nI ra) ∧ (sa < 4 ∧ s9 = nI sa) ∧ r = nI (scnt (S.2.1 ra).2.1 sa 16)) r0 M0 ∧ M0 ao = some (.inl (K.2.1 1, 1, .inr (.inl o9))) ∧ M1 = gw_up M0 ao (.inl (K.2.1 1, 1, .inr (.inl (vp_updL o9 0 r0.toInt64)))))) (gw_I K) (gw_A K)) (gw_X K (fun _ _ => False)) 2 12 (gw_A K) := by
  refine vx_ofWH (cc := cL_size) (maxL := 5) (ret := (some .int)) (hh := [(0, 10, 13, 13)]) (by decide) rfl ?_
  intro p e s m args below meth c s₁ B hml hv
  obtain ⟨hav, hI⟩ := hv
  have hx := B.exec
  have hb := B.bytes
  have hr := B.returns
  have hts := atoms_spec (ws := wsL_size) B.pre
  have hown : s.vm.findClass RL = some m.cls := findClass_of_methodNamed B.named
  have hlocks : meth.locks = false := B.notSynchronized
  have htab : c.exceptionTable.toList = tableOf [(0, 10, 13, 13)] := vx_table (x := yL_size) B (hts _ List.mem_cons_self)
  have hT := hI.2.2
  have hK := hT.K
  have hG := hI.B
  have hE : entryFrame m args 5 = entryFrame m ([.ref x, .int r9, .int s9, .ref ao] : List Value).toArray 5 := by rw [hav]
  rw [hE]
  have hl := lv_entry ([.ref x, .int r9, .int s9, .ref ao]) (n := 5) (Nat.le_of_ble_eq_true rfl)
  rw [lg_entry_eq]
  generalize (lg_sl ([.ref x, .int r9, .int s9, .ref ao]) ++ List.replicate (5 - (lg_sl ([.ref x, .int r9, .int s9, .ref ao])).length) Slot.unset).toArray = ls at hl ⊢
  have hl : lv_has ls 5 [(0, .ref x), (1, .int r9), (2, .int s9), (3, .ref ao)] := hl
  obtain ⟨aH, wl, la, cap, mc9, g, lf, ho, had, my, sn, sad, hcs, hrs⟩ := id hS
  refine lv_aload_n hx hb dL_size_0 rfl (lv_at hl 3 rfl) ?_
  refine lv_iconst (v := nI 0) hx hb dL_size_1 (by decide) ?_
  refine lv_aload_n hx hb dL_size_2 rfl (lv_at hl 0 rfl) ?_
  refine lv_iload_n hx hb dL_size_3 rfl (lv_at hl 1 rfl) ?_
  refine lv_iload_n hx hb dL_size_4 rfl (lv_at hl 2 rfl) ?_
  refine gw_xcalli (vx_runV (As := [.int r9, .int s9]) (rest := [.int (nI 0), .ref ao]) ⟨hx, hb, hml, hown, hts⟩ (c_size l hnt K M x ro S r9 s9 hS) (cwV 2 hts gL_size_X2_size rfl rfl rfl (by decide +kernel) ⟨Nat.le_of_ble_eq_true rfl, Nat.le_of_ble_eq_true rfl⟩) (gw_preV hG hT hcs.2.1 rfl) rfl rfl hl.1 rfl (lv_room (Nat.le_of_ble_eq_true rfl)) dL_size_5 ⟨Nat.le_of_ble_eq_true rfl, Nat.le_of_ble_eq_true rfl⟩) hG (fun E9 ce9 qx9 M_74 H locs hw hG h7 h8 h9 => ?_) (fun r_73 M_74 H locs hw hG => ?_)
  · obtain ⟨hE9, hM1, hC⟩ := hw
    rw [hM1] at hG
    rw [hE9] at h9
    refine gc_first (name := "java/lang/IllegalArgumentException") hown (htab.trans rfl) (by decide) (by decide) (hts (.classLink RL 13 "java/lang/IllegalArgumentException") (by decide +kernel)) hT.2.2.2.1.1 h7 h8 h9 ?_
    refine lv_astore (lv' := [(4, .ref qx9), (0, .ref x), (1, .int r9), (2, .int s9), (3, .ref ao)]) hx hb dL_size_13 hl (by decide) rfl (fun ls hl => ?_)
    refine lv_iconst (v := nI 1) hx hb dL_size_15 (by decide) ?_
    refine vx_ret ?_
    exact gw_iret hx hb hr hlocks hG hT (by omega) (by omega) dL_size_16 (Or.inl ⟨rfl, rfl, hC⟩)
  · have ha0 : M_74 ao = some (.inl (K.2.1 1, 1, .inr (.inl o9))) := by rw [hw.1]; exact hao
    refine lv_i2l hx hb dL_size_8 rfl ?_
    refine gw_last_n hx hb hK hG ha0 1 rfl (by omega) (by omega) dL_size_9 (fun H locs hG => ?_)
    obtain ⟨M_75, hM_76⟩ : ∃ M1 : gw_M, M1 = gw_up M_74 ao (.inl (K.2.1 1, 1, .inr (.inl (vp_updL o9 0 r_73.toInt64)))) := ⟨_, rfl⟩
    have hG : gw_B K M_75 s.heap H locs := by rw [hM_76]; exact hG
    have hc_77 : M_75 ao = some (.inl (K.2.1 1, 1, .inr (.inl (vp_updL o9 0 r_73.toInt64)))) := (congrFun hM_76 _).trans gw_s
    refine lv_goto (tgt := 17) hx hb dL_size_10 (by decide) ?_
    refine lv_iconst (v := nI 0) hx hb dL_size_17 (by decide) ?_
    refine vx_ret ?_
    exact gw_iret hx hb hr hlocks hG hT (by omega) (by omega) dL_size_18 (Or.inr ⟨rfl, r_73, M_74, hw, ha0, hM_76⟩)

set_option maxHeartbeats 4000000 in
set_option maxRecDepth 100000 in
/-- w_dot -/
theorem w_dot (l : Launch) (hnt : l.stackTraces = false) (K : gw_C) (M : gw_M) (x : Nat) (ro : Nat → Nat) (S : gst) (r9 s9 e9 i9 q9 : Int32) (ao : Nat) (o9 : Nat → Int64)  (hS : CS K M ro x S) (hao : M ao = some (.inl (K.2.1 1, 1, .inr (.inl o9)))) (hro : ro ao = 60) : vx_Met l yL_dot wsL_dot ({ frames := 11, cells := 4, slots := 24, locals := 240 } : Room) (va_Pc [.ref x, .int r9, .int s9, .int e9, .int i9, .int q9, .ref ao] (gw_I K M)) (va_Qi (fun r M1 => (r = nI 1 ∧ M1 = M ∧ (¬ ((inN r9 S.1 ∧ inN s9 4 ∧ inN e9 16) ∧ (q9 = 0 ∨ q9 = 1)))) ∨ (r = nI 0 ∧ ∃ r0 M0, (fun r M1 => M1 = M ∧ ∃ rk ks ke, (rk < S.1 ∧ r9 = nI rk) ∧ (ks < 4 ∧ s9 = nI ks) ∧ (ke < 16 ∧ e9 = nI ke) ∧ (q9 = 0 ∨ q9 = 1) ∧ r = if q9 = 0 then mko (S.2.1 rk).2.1 (ks * 16 + ke) i9 6 else if mko (S.2.1 rk).2.1 (ks * 16 + ke) i9 6 = -1 then -1 else (S.2.1 rk).2.1 ((ks * 16 + ke) * 6 + (mko (S.2.1 rk).2.1 (ks * 16 + ke) i9 6).toNatClampNeg)) r0 M0 ∧ M0 ao = some (.inl (K.2.1 1, 1, .inr (.inl o9))) ∧ M1 = gw_up M0 ao (.inl (K.2.1 1, 1, .inr (.inl (vp_updL o9 0 r0.toInt64)))))) (gw_I K) (gw_A K)) (gw_X K (fun _ _ => False)) 4 24 (gw_A K) := by
  refine vx_ofWH (cc := cL_dot) (maxL := 8) (ret := (some .int)) (hh := [(0, 16, 19, 13)]) (by decide) rfl ?_
  intro p e s m args below meth c s₁ B hml hv
  obtain ⟨hav, hI⟩ := hv
  have hx := B.exec
  have hb := B.bytes
  have hr := B.returns
  have hts := atoms_spec (ws := wsL_dot) B.pre
  have hown : s.vm.findClass RL = some m.cls := findClass_of_methodNamed B.named
  have hlocks : meth.locks = false := B.notSynchronized
  have htab : c.exceptionTable.toList = tableOf [(0, 16, 19, 13)] := vx_table (x := yL_dot) B (hts _ List.mem_cons_self)
  have hT := hI.2.2
  have hK := hT.K
  have hG := hI.B
  have hE : entryFrame m args 8 = entryFrame m ([.ref x, .int r9, .int s9, .int e9, .int i9, .int q9, .ref ao] : List Value).toArray 8 := by rw [hav]
  rw [hE]
  have hl := lv_entry ([.ref x, .int r9, .int s9, .int e9, .int i9, .int q9, .ref ao]) (n := 8) (Nat.le_of_ble_eq_true rfl)
  rw [lg_entry_eq]
  generalize (lg_sl ([.ref x, .int r9, .int s9, .int e9, .int i9, .int q9, .ref ao]) ++ List.replicate (8 - (lg_sl ([.ref x, .int r9, .int s9, .int e9, .int i9, .int q9, .ref ao])).length) Slot.unset).toArray = ls at hl ⊢
  have hl : lv_has ls 8 [(0, .ref x), (1, .int r9), (2, .int s9), (3, .int e9), (4, .int i9), (5, .int q9), (6, .ref ao)] := hl
  obtain ⟨aH, wl, la, cap, mc9, g, lf, ho, had, my, sn, sad, hcs, hrs⟩ := id hS
  refine lv_aload hx hb dL_dot_0 (lv_at hl 6 rfl) ?_
  refine lv_iconst (v := nI 0) hx hb dL_dot_2 (by decide) ?_
  refine lv_aload_n hx hb dL_dot_3 rfl (lv_at hl 0 rfl) ?_
  refine lv_iload_n hx hb dL_dot_4 rfl (lv_at hl 1 rfl) ?_
  refine lv_iload_n hx hb dL_dot_5 rfl (lv_at hl 2 rfl) ?_
  refine lv_iload_n hx hb dL_dot_6 rfl (lv_at hl 3 rfl) ?_
  refine lv_iload hx hb dL_dot_7 (lv_at hl 4 rfl) ?_
  refine lv_iload hx hb dL_dot_9 (lv_at hl 5 rfl) ?_
  refine gw_xcalli (vx_runV (As := [.int r9, .int s9, .int e9, .int i9, .int q9]) (rest := [.int (nI 0), .ref ao]) ⟨hx, hb, hml, hown, hts⟩ (c_dot l hnt K M x ro S r9 s9 e9 i9 q9 hS) (cwV 5 hts gL_dot_X2_dot rfl rfl rfl (by decide +kernel) ⟨Nat.le_of_ble_eq_true rfl, Nat.le_of_ble_eq_true rfl⟩) (gw_preV hG hT hcs.2.1 rfl) rfl rfl hl.1 rfl (lv_room (Nat.le_of_ble_eq_true rfl)) dL_dot_11 ⟨Nat.le_of_ble_eq_true rfl, Nat.le_of_ble_eq_true rfl⟩) hG (fun E9 ce9 qx9 M_79 H locs hw hG h7 h8 h9 => ?_) (fun r_78 M_79 H locs hw hG => ?_)
  · obtain ⟨hE9, hM1, hC⟩ := hw
    rw [hM1] at hG
    rw [hE9] at h9
    refine gc_first (name := "java/lang/IllegalArgumentException") hown (htab.trans rfl) (by decide) (by decide) (hts (.classLink RL 13 "java/lang/IllegalArgumentException") (by decide +kernel)) hT.2.2.2.1.1 h7 h8 h9 ?_
    refine lv_astore (lv' := [(7, .ref qx9), (0, .ref x), (1, .int r9), (2, .int s9), (3, .int e9), (4, .int i9), (5, .int q9), (6, .ref ao)]) hx hb dL_dot_19 hl (by decide) rfl (fun ls hl => ?_)
    refine lv_iconst (v := nI 1) hx hb dL_dot_21 (by decide) ?_
    refine vx_ret ?_
    exact gw_iret hx hb hr hlocks hG hT (by omega) (by omega) dL_dot_22 (Or.inl ⟨rfl, rfl, hC⟩)
  · have ha0 : M_79 ao = some (.inl (K.2.1 1, 1, .inr (.inl o9))) := by rw [hw.1]; exact hao
    refine lv_i2l hx hb dL_dot_14 rfl ?_
    refine gw_last_n hx hb hK hG ha0 1 rfl (by omega) (by omega) dL_dot_15 (fun H locs hG => ?_)
    obtain ⟨M_80, hM_81⟩ : ∃ M1 : gw_M, M1 = gw_up M_79 ao (.inl (K.2.1 1, 1, .inr (.inl (vp_updL o9 0 r_78.toInt64)))) := ⟨_, rfl⟩
    have hG : gw_B K M_80 s.heap H locs := by rw [hM_81]; exact hG
    have hc_82 : M_80 ao = some (.inl (K.2.1 1, 1, .inr (.inl (vp_updL o9 0 r_78.toInt64)))) := (congrFun hM_81 _).trans gw_s
    refine lv_goto (tgt := 23) hx hb dL_dot_16 (by decide) ?_
    refine lv_iconst (v := nI 0) hx hb dL_dot_23 (by decide) ?_
    refine vx_ret ?_
    exact gw_iret hx hb hr hlocks hG hT (by omega) (by omega) dL_dot_24 (Or.inr ⟨rfl, r_78, M_79, hw, ha0, hM_81⟩)

set_option maxHeartbeats 4000000 in
set_option maxRecDepth 100000 in
/-- w_value -/
theorem w_value (l : Launch) (hnt : l.stackTraces = false) (K : gw_C) (M : gw_M) (x : Nat) (ro : Nat → Nat) (S : gst) (r9 s9 i9 q9 : Int32) (ao : Nat) (o9 : Nat → Int64)  (hS : CS K M ro x S) (hao : M ao = some (.inl (K.2.1 1, 1, .inr (.inl o9)))) (hro : ro ao = 60) : vx_Met l yL_value wsL_value ({ frames := 11, cells := 3, slots := 18, locals := 240 } : Room) (va_Pc [.ref x, .int r9, .int s9, .int i9, .int q9, .ref ao] (gw_I K M)) (va_Qi (fun r M1 => (r = nI 1 ∧ M1 = M ∧ (¬ ((inN r9 S.1 ∧ inN s9 4) ∧ (q9 = 0 ∨ q9 = 1 ∨ q9 = 2)))) ∨ (r = nI 0 ∧ ∃ r0 M0, (fun r M1 => M1 = M ∧ ∃ rk ks, (rk < S.1 ∧ r9 = nI rk) ∧ (ks < 4 ∧ s9 = nI ks) ∧ (q9 = 0 ∨ q9 = 1 ∨ q9 = 2) ∧ r = if q9 = 2 then (if mko (S.2.1 rk).2.1 (64 + ks) i9 6 = -1 then 0 else (S.2.1 rk).2.2.1 (ks * 6 + (mko (S.2.1 rk).2.1 (64 + ks) i9 6).toNatClampNeg)) else if q9 = 0 then mko (S.2.1 rk).2.1 (64 + ks) i9 6 else if mko (S.2.1 rk).2.1 (64 + ks) i9 6 = -1 then -1 else (S.2.1 rk).2.1 ((64 + ks) * 6 + (mko (S.2.1 rk).2.1 (64 + ks) i9 6).toNatClampNeg)) r0 M0 ∧ M0 ao = some (.inl (K.2.1 1, 1, .inr (.inl o9))) ∧ M1 = gw_up M0 ao (.inl (K.2.1 1, 1, .inr (.inl (vp_updL o9 0 r0.toInt64)))))) (gw_I K) (gw_A K)) (gw_X K (fun _ _ => False)) 3 18 (gw_A K) := by
  refine vx_ofWH (cc := cL_value) (maxL := 7) (ret := (some .int)) (hh := [(0, 14, 17, 13)]) (by decide) rfl ?_
  intro p e s m args below meth c s₁ B hml hv
  obtain ⟨hav, hI⟩ := hv
  have hx := B.exec
  have hb := B.bytes
  have hr := B.returns
  have hts := atoms_spec (ws := wsL_value) B.pre
  have hown : s.vm.findClass RL = some m.cls := findClass_of_methodNamed B.named
  have hlocks : meth.locks = false := B.notSynchronized
  have htab : c.exceptionTable.toList = tableOf [(0, 14, 17, 13)] := vx_table (x := yL_value) B (hts _ List.mem_cons_self)
  have hT := hI.2.2
  have hK := hT.K
  have hG := hI.B
  have hE : entryFrame m args 7 = entryFrame m ([.ref x, .int r9, .int s9, .int i9, .int q9, .ref ao] : List Value).toArray 7 := by rw [hav]
  rw [hE]
  have hl := lv_entry ([.ref x, .int r9, .int s9, .int i9, .int q9, .ref ao]) (n := 7) (Nat.le_of_ble_eq_true rfl)
  rw [lg_entry_eq]
  generalize (lg_sl ([.ref x, .int r9, .int s9, .int i9, .int q9, .ref ao]) ++ List.replicate (7 - (lg_sl ([.ref x, .int r9, .int s9, .int i9, .int q9, .ref ao])).length) Slot.unset).toArray = ls at hl ⊢
  have hl : lv_has ls 7 [(0, .ref x), (1, .int r9), (2, .int s9), (3, .int i9), (4, .int q9), (5, .ref ao)] := hl
  obtain ⟨aH, wl, la, cap, mc9, g, lf, ho, had, my, sn, sad, hcs, hrs⟩ := id hS
  refine lv_aload hx hb dL_value_0 (lv_at hl 5 rfl) ?_
  refine lv_iconst (v := nI 0) hx hb dL_value_2 (by decide) ?_
  refine lv_aload_n hx hb dL_value_3 rfl (lv_at hl 0 rfl) ?_
  refine lv_iload_n hx hb dL_value_4 rfl (lv_at hl 1 rfl) ?_
  refine lv_iload_n hx hb dL_value_5 rfl (lv_at hl 2 rfl) ?_
  refine lv_iload_n hx hb dL_value_6 rfl (lv_at hl 3 rfl) ?_
  refine lv_iload hx hb dL_value_7 (lv_at hl 4 rfl) ?_
  refine gw_xcalli (vx_runV (As := [.int r9, .int s9, .int i9, .int q9]) (rest := [.int (nI 0), .ref ao]) ⟨hx, hb, hml, hown, hts⟩ (c_value l hnt K M x ro S r9 s9 i9 q9 hS) (cwV 4 hts gL_value_X2_value rfl rfl rfl (by decide +kernel) ⟨Nat.le_of_ble_eq_true rfl, Nat.le_of_ble_eq_true rfl⟩) (gw_preV hG hT hcs.2.1 rfl) rfl rfl hl.1 rfl (lv_room (Nat.le_of_ble_eq_true rfl)) dL_value_9 ⟨Nat.le_of_ble_eq_true rfl, Nat.le_of_ble_eq_true rfl⟩) hG (fun E9 ce9 qx9 M_84 H locs hw hG h7 h8 h9 => ?_) (fun r_83 M_84 H locs hw hG => ?_)
  · obtain ⟨hE9, hM1, hC⟩ := hw
    rw [hM1] at hG
    rw [hE9] at h9
    refine gc_first (name := "java/lang/IllegalArgumentException") hown (htab.trans rfl) (by decide) (by decide) (hts (.classLink RL 13 "java/lang/IllegalArgumentException") (by decide +kernel)) hT.2.2.2.1.1 h7 h8 h9 ?_
    refine lv_astore (lv' := [(6, .ref qx9), (0, .ref x), (1, .int r9), (2, .int s9), (3, .int i9), (4, .int q9), (5, .ref ao)]) hx hb dL_value_17 hl (by decide) rfl (fun ls hl => ?_)
    refine lv_iconst (v := nI 1) hx hb dL_value_19 (by decide) ?_
    refine vx_ret ?_
    exact gw_iret hx hb hr hlocks hG hT (by omega) (by omega) dL_value_20 (Or.inl ⟨rfl, rfl, hC⟩)
  · have ha0 : M_84 ao = some (.inl (K.2.1 1, 1, .inr (.inl o9))) := by rw [hw.1]; exact hao
    refine lv_i2l hx hb dL_value_12 rfl ?_
    refine gw_last_n hx hb hK hG ha0 1 rfl (by omega) (by omega) dL_value_13 (fun H locs hG => ?_)
    obtain ⟨M_85, hM_86⟩ : ∃ M1 : gw_M, M1 = gw_up M_84 ao (.inl (K.2.1 1, 1, .inr (.inl (vp_updL o9 0 r_83.toInt64)))) := ⟨_, rfl⟩
    have hG : gw_B K M_85 s.heap H locs := by rw [hM_86]; exact hG
    have hc_87 : M_85 ao = some (.inl (K.2.1 1, 1, .inr (.inl (vp_updL o9 0 r_83.toInt64)))) := (congrFun hM_86 _).trans gw_s
    refine lv_goto (tgt := 21) hx hb dL_value_14 (by decide) ?_
    refine lv_iconst (v := nI 0) hx hb dL_value_21 (by decide) ?_
    refine vx_ret ?_
    exact gw_iret hx hb hr hlocks hG hT (by omega) (by omega) dL_value_22 (Or.inr ⟨rfl, r_83, M_84, hw, ha0, hM_86⟩)

set_option maxHeartbeats 4000000 in
set_option maxRecDepth 100000 in
/-- w_values -/
theorem w_values (l : Launch) (hnt : l.stackTraces = false) (K : gw_C) (M : gw_M) (x : Nat) (ro : Nat → Nat) (S : gst) (r9 s9 : Int32) (ao : Nat) (o9 : Nat → Int64)  (hS : CS K M ro x S) (hao : M ao = some (.inl (K.2.1 1, 1, .inr (.inl o9)))) (hro : ro ao = 60) : vx_Met l yL_values wsL_values ({ frames := 11, cells := 2, slots := 12, locals := 240 } : Room) (va_Pc [.ref x, .int r9, .int s9, .ref ao] (gw_I K M)) (va_Qi (fun r M1 => (r = nI 1 ∧ M1 = M ∧ (¬ (inN r9 S.1 ∧ inN s9 4))) ∨ (r = nI 0 ∧ ∃ r0 M0, (fun r M1 => M1 = M ∧ ∃ rk ks, (rk < S.1 ∧ r9 = nI rk) ∧ (ks < 4 ∧ s9 = nI ks) ∧ r = nI (dcnt (S.2.1 rk).2.1 (64 + ks) 6)) r0 M0 ∧ M0 ao = some (.inl (K.2.1 1, 1, .inr (.inl o9))) ∧ M1 = gw_up M0 ao (.inl (K.2.1 1, 1, .inr (.inl (vp_updL o9 0 r0.toInt64)))))) (gw_I K) (gw_A K)) (gw_X K (fun _ _ => False)) 2 12 (gw_A K) := by
  refine vx_ofWH (cc := cL_values) (maxL := 5) (ret := (some .int)) (hh := [(0, 10, 13, 13)]) (by decide) rfl ?_
  intro p e s m args below meth c s₁ B hml hv
  obtain ⟨hav, hI⟩ := hv
  have hx := B.exec
  have hb := B.bytes
  have hr := B.returns
  have hts := atoms_spec (ws := wsL_values) B.pre
  have hown : s.vm.findClass RL = some m.cls := findClass_of_methodNamed B.named
  have hlocks : meth.locks = false := B.notSynchronized
  have htab : c.exceptionTable.toList = tableOf [(0, 10, 13, 13)] := vx_table (x := yL_values) B (hts _ List.mem_cons_self)
  have hT := hI.2.2
  have hK := hT.K
  have hG := hI.B
  have hE : entryFrame m args 5 = entryFrame m ([.ref x, .int r9, .int s9, .ref ao] : List Value).toArray 5 := by rw [hav]
  rw [hE]
  have hl := lv_entry ([.ref x, .int r9, .int s9, .ref ao]) (n := 5) (Nat.le_of_ble_eq_true rfl)
  rw [lg_entry_eq]
  generalize (lg_sl ([.ref x, .int r9, .int s9, .ref ao]) ++ List.replicate (5 - (lg_sl ([.ref x, .int r9, .int s9, .ref ao])).length) Slot.unset).toArray = ls at hl ⊢
  have hl : lv_has ls 5 [(0, .ref x), (1, .int r9), (2, .int s9), (3, .ref ao)] := hl
  obtain ⟨aH, wl, la, cap, mc9, g, lf, ho, had, my, sn, sad, hcs, hrs⟩ := id hS
  refine lv_aload_n hx hb dL_values_0 rfl (lv_at hl 3 rfl) ?_
  refine lv_iconst (v := nI 0) hx hb dL_values_1 (by decide) ?_
  refine lv_aload_n hx hb dL_values_2 rfl (lv_at hl 0 rfl) ?_
  refine lv_iload_n hx hb dL_values_3 rfl (lv_at hl 1 rfl) ?_
  refine lv_iload_n hx hb dL_values_4 rfl (lv_at hl 2 rfl) ?_
  refine gw_xcalli (vx_runV (As := [.int r9, .int s9]) (rest := [.int (nI 0), .ref ao]) ⟨hx, hb, hml, hown, hts⟩ (c_values l hnt K M x ro S r9 s9 hS) (cwV 2 hts gL_values_X2_values rfl rfl rfl (by decide +kernel) ⟨Nat.le_of_ble_eq_true rfl, Nat.le_of_ble_eq_true rfl⟩) (gw_preV hG hT hcs.2.1 rfl) rfl rfl hl.1 rfl (lv_room (Nat.le_of_ble_eq_true rfl)) dL_values_5 ⟨Nat.le_of_ble_eq_true rfl, Nat.le_of_ble_eq_true rfl⟩) hG (fun E9 ce9 qx9 M_89 H locs hw hG h7 h8 h9 => ?_) (fun r_88 M_89 H locs hw hG => ?_)
  · obtain ⟨hE9, hM1, hC⟩ := hw
    rw [hM1] at hG
    rw [hE9] at h9
    refine gc_first (name := "java/lang/IllegalArgumentException") hown (htab.trans rfl) (by decide) (by decide) (hts (.classLink RL 13 "java/lang/IllegalArgumentException") (by decide +kernel)) hT.2.2.2.1.1 h7 h8 h9 ?_
    refine lv_astore (lv' := [(4, .ref qx9), (0, .ref x), (1, .int r9), (2, .int s9), (3, .ref ao)]) hx hb dL_values_13 hl (by decide) rfl (fun ls hl => ?_)
    refine lv_iconst (v := nI 1) hx hb dL_values_15 (by decide) ?_
    refine vx_ret ?_
    exact gw_iret hx hb hr hlocks hG hT (by omega) (by omega) dL_values_16 (Or.inl ⟨rfl, rfl, hC⟩)
  · have ha0 : M_89 ao = some (.inl (K.2.1 1, 1, .inr (.inl o9))) := by rw [hw.1]; exact hao
    refine lv_i2l hx hb dL_values_8 rfl ?_
    refine gw_last_n hx hb hK hG ha0 1 rfl (by omega) (by omega) dL_values_9 (fun H locs hG => ?_)
    obtain ⟨M_90, hM_91⟩ : ∃ M1 : gw_M, M1 = gw_up M_89 ao (.inl (K.2.1 1, 1, .inr (.inl (vp_updL o9 0 r_88.toInt64)))) := ⟨_, rfl⟩
    have hG : gw_B K M_90 s.heap H locs := by rw [hM_91]; exact hG
    have hc_92 : M_90 ao = some (.inl (K.2.1 1, 1, .inr (.inl (vp_updL o9 0 r_88.toInt64)))) := (congrFun hM_91 _).trans gw_s
    refine lv_goto (tgt := 17) hx hb dL_values_10 (by decide) ?_
    refine lv_iconst (v := nI 0) hx hb dL_values_17 (by decide) ?_
    refine vx_ret ?_
    exact gw_iret hx hb hr hlocks hG hT (by omega) (by omega) dL_values_18 (Or.inr ⟨rfl, r_88, M_89, hw, ha0, hM_91⟩)

set_option maxHeartbeats 4000000 in
set_option maxRecDepth 100000 in
/-- w_total -/
theorem w_total (l : Launch) (hnt : l.stackTraces = false) (K : gw_C) (M : gw_M) (x : Nat) (ro : Nat → Nat) (S : gst) (r9 s9 : Int32) (ao : Nat) (o9 : Nat → Int64)  (hS : CS K M ro x S) (hao : M ao = some (.inl (K.2.1 1, 1, .inr (.inl o9)))) (hro : ro ao = 60) : vx_Met l yL_total wsL_total ({ frames := 11, cells := 2, slots := 12, locals := 240 } : Room) (va_Pc [.ref x, .int r9, .int s9, .ref ao] (gw_I K M)) (va_Qi (fun r M1 => (r = nI 1 ∧ M1 = M ∧ (¬ (inN r9 S.1 ∧ inN s9 4))) ∨ (r = nI 0 ∧ ∃ r0 M0, (fun r M1 => M1 = M ∧ ∃ rk ks, (rk < S.1 ∧ r9 = nI rk) ∧ (ks < 4 ∧ s9 = nI ks) ∧ r = (wsum (S.2.1 rk).2.2.2.1 (S.2.1 rk).2.2.2.2 ks 6).toInt32) r0 M0 ∧ M0 ao = some (.inl (K.2.1 1, 1, .inr (.inl o9))) ∧ M1 = gw_up M0 ao (.inl (K.2.1 1, 1, .inr (.inl (vp_updL o9 0 r0.toInt64)))))) (gw_I K) (gw_A K)) (gw_X K (fun _ _ => False)) 2 12 (gw_A K) := by
  refine vx_ofWH (cc := cL_total) (maxL := 5) (ret := (some .int)) (hh := [(0, 10, 13, 13)]) (by decide) rfl ?_
  intro p e s m args below meth c s₁ B hml hv
  obtain ⟨hav, hI⟩ := hv
  have hx := B.exec
  have hb := B.bytes
  have hr := B.returns
  have hts := atoms_spec (ws := wsL_total) B.pre
  have hown : s.vm.findClass RL = some m.cls := findClass_of_methodNamed B.named
  have hlocks : meth.locks = false := B.notSynchronized
  have htab : c.exceptionTable.toList = tableOf [(0, 10, 13, 13)] := vx_table (x := yL_total) B (hts _ List.mem_cons_self)
  have hT := hI.2.2
  have hK := hT.K
  have hG := hI.B
  have hE : entryFrame m args 5 = entryFrame m ([.ref x, .int r9, .int s9, .ref ao] : List Value).toArray 5 := by rw [hav]
  rw [hE]
  have hl := lv_entry ([.ref x, .int r9, .int s9, .ref ao]) (n := 5) (Nat.le_of_ble_eq_true rfl)
  rw [lg_entry_eq]
  generalize (lg_sl ([.ref x, .int r9, .int s9, .ref ao]) ++ List.replicate (5 - (lg_sl ([.ref x, .int r9, .int s9, .ref ao])).length) Slot.unset).toArray = ls at hl ⊢
  have hl : lv_has ls 5 [(0, .ref x), (1, .int r9), (2, .int s9), (3, .ref ao)] := hl
  obtain ⟨aH, wl, la, cap, mc9, g, lf, ho, had, my, sn, sad, hcs, hrs⟩ := id hS
  refine lv_aload_n hx hb dL_total_0 rfl (lv_at hl 3 rfl) ?_
  refine lv_iconst (v := nI 0) hx hb dL_total_1 (by decide) ?_
  refine lv_aload_n hx hb dL_total_2 rfl (lv_at hl 0 rfl) ?_
  refine lv_iload_n hx hb dL_total_3 rfl (lv_at hl 1 rfl) ?_
  refine lv_iload_n hx hb dL_total_4 rfl (lv_at hl 2 rfl) ?_
  refine gw_xcalli (vx_runV (As := [.int r9, .int s9]) (rest := [.int (nI 0), .ref ao]) ⟨hx, hb, hml, hown, hts⟩ (c_total l hnt K M x ro S r9 s9 hS) (cwV 2 hts gL_total_X2_total rfl rfl rfl (by decide +kernel) ⟨Nat.le_of_ble_eq_true rfl, Nat.le_of_ble_eq_true rfl⟩) (gw_preV hG hT hcs.2.1 rfl) rfl rfl hl.1 rfl (lv_room (Nat.le_of_ble_eq_true rfl)) dL_total_5 ⟨Nat.le_of_ble_eq_true rfl, Nat.le_of_ble_eq_true rfl⟩) hG (fun E9 ce9 qx9 M_94 H locs hw hG h7 h8 h9 => ?_) (fun r_93 M_94 H locs hw hG => ?_)
  · obtain ⟨hE9, hM1, hC⟩ := hw
    rw [hM1] at hG
    rw [hE9] at h9
    refine gc_first (name := "java/lang/IllegalArgumentException") hown (htab.trans rfl) (by decide) (by decide) (hts (.classLink RL 13 "java/lang/IllegalArgumentException") (by decide +kernel)) hT.2.2.2.1.1 h7 h8 h9 ?_
    refine lv_astore (lv' := [(4, .ref qx9), (0, .ref x), (1, .int r9), (2, .int s9), (3, .ref ao)]) hx hb dL_total_13 hl (by decide) rfl (fun ls hl => ?_)
    refine lv_iconst (v := nI 1) hx hb dL_total_15 (by decide) ?_
    refine vx_ret ?_
    exact gw_iret hx hb hr hlocks hG hT (by omega) (by omega) dL_total_16 (Or.inl ⟨rfl, rfl, hC⟩)
  · have ha0 : M_94 ao = some (.inl (K.2.1 1, 1, .inr (.inl o9))) := by rw [hw.1]; exact hao
    refine lv_i2l hx hb dL_total_8 rfl ?_
    refine gw_last_n hx hb hK hG ha0 1 rfl (by omega) (by omega) dL_total_9 (fun H locs hG => ?_)
    obtain ⟨M_95, hM_96⟩ : ∃ M1 : gw_M, M1 = gw_up M_94 ao (.inl (K.2.1 1, 1, .inr (.inl (vp_updL o9 0 r_93.toInt64)))) := ⟨_, rfl⟩
    have hG : gw_B K M_95 s.heap H locs := by rw [hM_96]; exact hG
    have hc_97 : M_95 ao = some (.inl (K.2.1 1, 1, .inr (.inl (vp_updL o9 0 r_93.toInt64)))) := (congrFun hM_96 _).trans gw_s
    refine lv_goto (tgt := 17) hx hb dL_total_10 (by decide) ?_
    refine lv_iconst (v := nI 0) hx hb dL_total_17 (by decide) ?_
    refine vx_ret ?_
    exact gw_iret hx hb hr hlocks hG hT (by omega) (by omega) dL_total_18 (Or.inr ⟨rfl, r_93, M_94, hw, ha0, hM_96⟩)

set_option maxHeartbeats 4000000 in
set_option maxRecDepth 100000 in
/-- w_vector -/
theorem w_vector (l : Launch) (hnt : l.stackTraces = false) (K : gw_C) (M : gw_M) (x : Nat) (ro : Nat → Nat) (S : gst) (r9 s9 : Int32) (ao : Nat) (o9 : Nat → Int64)  (hS : CS K M ro x S) (hao : M ao = some (.inl (K.2.1 1, 1, .inr (.inl o9)))) (hro : ro ao = 60) : vx_Met l yL_vector wsL_vector ({ frames := 11, cells := 2, slots := 12, locals := 240 } : Room) (va_Pc [.ref x, .int r9, .int s9, .ref ao] (gw_I K M)) (va_Qi (fun r M1 => (r = nI 1 ∧ M1 = M ∧ (¬ (inN r9 S.1 ∧ inN s9 S.1))) ∨ (r = nI 0 ∧ ∃ r0 M0, (fun r M1 => M1 = M ∧ ∃ rk rj, (rk < S.1 ∧ r9 = nI rk) ∧ (rj < S.1 ∧ s9 = nI rj) ∧ r = (S.2.1 rk).1 rj) r0 M0 ∧ M0 ao = some (.inl (K.2.1 1, 1, .inr (.inl o9))) ∧ M1 = gw_up M0 ao (.inl (K.2.1 1, 1, .inr (.inl (vp_updL o9 0 r0.toInt64)))))) (gw_I K) (gw_A K)) (gw_X K (fun _ _ => False)) 2 12 (gw_A K) := by
  refine vx_ofWH (cc := cL_vector) (maxL := 5) (ret := (some .int)) (hh := [(0, 10, 13, 13)]) (by decide) rfl ?_
  intro p e s m args below meth c s₁ B hml hv
  obtain ⟨hav, hI⟩ := hv
  have hx := B.exec
  have hb := B.bytes
  have hr := B.returns
  have hts := atoms_spec (ws := wsL_vector) B.pre
  have hown : s.vm.findClass RL = some m.cls := findClass_of_methodNamed B.named
  have hlocks : meth.locks = false := B.notSynchronized
  have htab : c.exceptionTable.toList = tableOf [(0, 10, 13, 13)] := vx_table (x := yL_vector) B (hts _ List.mem_cons_self)
  have hT := hI.2.2
  have hK := hT.K
  have hG := hI.B
  have hE : entryFrame m args 5 = entryFrame m ([.ref x, .int r9, .int s9, .ref ao] : List Value).toArray 5 := by rw [hav]
  rw [hE]
  have hl := lv_entry ([.ref x, .int r9, .int s9, .ref ao]) (n := 5) (Nat.le_of_ble_eq_true rfl)
  rw [lg_entry_eq]
  generalize (lg_sl ([.ref x, .int r9, .int s9, .ref ao]) ++ List.replicate (5 - (lg_sl ([.ref x, .int r9, .int s9, .ref ao])).length) Slot.unset).toArray = ls at hl ⊢
  have hl : lv_has ls 5 [(0, .ref x), (1, .int r9), (2, .int s9), (3, .ref ao)] := hl
  obtain ⟨aH, wl, la, cap, mc9, g, lf, ho, had, my, sn, sad, hcs, hrs⟩ := id hS
  refine lv_aload_n hx hb dL_vector_0 rfl (lv_at hl 3 rfl) ?_
  refine lv_iconst (v := nI 0) hx hb dL_vector_1 (by decide) ?_
  refine lv_aload_n hx hb dL_vector_2 rfl (lv_at hl 0 rfl) ?_
  refine lv_iload_n hx hb dL_vector_3 rfl (lv_at hl 1 rfl) ?_
  refine lv_iload_n hx hb dL_vector_4 rfl (lv_at hl 2 rfl) ?_
  refine gw_xcalli (vx_runV (As := [.int r9, .int s9]) (rest := [.int (nI 0), .ref ao]) ⟨hx, hb, hml, hown, hts⟩ (c_vector l hnt K M x ro S r9 s9 hS) (cwV 2 hts gL_vector_X2_vector rfl rfl rfl (by decide +kernel) ⟨Nat.le_of_ble_eq_true rfl, Nat.le_of_ble_eq_true rfl⟩) (gw_preV hG hT hcs.2.1 rfl) rfl rfl hl.1 rfl (lv_room (Nat.le_of_ble_eq_true rfl)) dL_vector_5 ⟨Nat.le_of_ble_eq_true rfl, Nat.le_of_ble_eq_true rfl⟩) hG (fun E9 ce9 qx9 M_99 H locs hw hG h7 h8 h9 => ?_) (fun r_98 M_99 H locs hw hG => ?_)
  · obtain ⟨hE9, hM1, hC⟩ := hw
    rw [hM1] at hG
    rw [hE9] at h9
    refine gc_first (name := "java/lang/IllegalArgumentException") hown (htab.trans rfl) (by decide) (by decide) (hts (.classLink RL 13 "java/lang/IllegalArgumentException") (by decide +kernel)) hT.2.2.2.1.1 h7 h8 h9 ?_
    refine lv_astore (lv' := [(4, .ref qx9), (0, .ref x), (1, .int r9), (2, .int s9), (3, .ref ao)]) hx hb dL_vector_13 hl (by decide) rfl (fun ls hl => ?_)
    refine lv_iconst (v := nI 1) hx hb dL_vector_15 (by decide) ?_
    refine vx_ret ?_
    exact gw_iret hx hb hr hlocks hG hT (by omega) (by omega) dL_vector_16 (Or.inl ⟨rfl, rfl, hC⟩)
  · have ha0 : M_99 ao = some (.inl (K.2.1 1, 1, .inr (.inl o9))) := by rw [hw.1]; exact hao
    refine lv_i2l hx hb dL_vector_8 rfl ?_
    refine gw_last_n hx hb hK hG ha0 1 rfl (by omega) (by omega) dL_vector_9 (fun H locs hG => ?_)
    obtain ⟨M_100, hM_101⟩ : ∃ M1 : gw_M, M1 = gw_up M_99 ao (.inl (K.2.1 1, 1, .inr (.inl (vp_updL o9 0 r_98.toInt64)))) := ⟨_, rfl⟩
    have hG : gw_B K M_100 s.heap H locs := by rw [hM_101]; exact hG
    have hc_102 : M_100 ao = some (.inl (K.2.1 1, 1, .inr (.inl (vp_updL o9 0 r_98.toInt64)))) := (congrFun hM_101 _).trans gw_s
    refine lv_goto (tgt := 17) hx hb dL_vector_10 (by decide) ?_
    refine lv_iconst (v := nI 0) hx hb dL_vector_17 (by decide) ?_
    refine vx_ret ?_
    exact gw_iret hx hb hr hlocks hG hT (by omega) (by omega) dL_vector_18 (Or.inr ⟨rfl, r_98, M_99, hw, ha0, hM_101⟩)

set_option maxHeartbeats 4000000 in
set_option maxRecDepth 100000 in
/-- w_o -/
theorem w_open (l : Launch) (hnt : l.stackTraces = false) (K : gw_C) (M : gw_M) (x : Nat) (ro : Nat → Nat) (S : gst) (n9 : Int32)  (hS : CS K M ro x S)  : vx_Met l yL_open wsL_open ({ frames := 11, cells := 1, slots := 6, locals := 240 } : Room) (va_Pc [.ref x, .int n9] (gw_I K M)) (va_Qi (fun r M1 => (r = nI 1 ∧ M1 = M ∧ (¬ inR n9)) ∨ (r = nI 0 ∧ (fun M1 => ∃ k9, (2 ≤ k9 ∧ k9 ≤ 6) ∧ n9 = nI k9 ∧ ∃ ro1, CS K M1 ro1 x (sopen S k9) ∧ ofr 60 1000 M M1 ro ro1) M1)) (gw_I K) (gw_A K)) (gw_X K (fun _ _ => False)) 1 6 (gw_A K) := by
  refine vx_ofWH (cc := cL_open) (maxL := 3) (ret := (some .int)) (hh := [(0, 5, 8, 13)]) (by decide) rfl ?_
  intro p e s m args below meth c s₁ B hml hv
  obtain ⟨hav, hI⟩ := hv
  have hx := B.exec
  have hb := B.bytes
  have hr := B.returns
  have hts := atoms_spec (ws := wsL_open) B.pre
  have hown : s.vm.findClass RL = some m.cls := findClass_of_methodNamed B.named
  have hlocks : meth.locks = false := B.notSynchronized
  have htab : c.exceptionTable.toList = tableOf [(0, 5, 8, 13)] := vx_table (x := yL_open) B (hts _ List.mem_cons_self)
  have hT := hI.2.2
  have hK := hT.K
  have hG := hI.B
  have hE : entryFrame m args 3 = entryFrame m ([.ref x, .int n9] : List Value).toArray 3 := by rw [hav]
  rw [hE]
  have hl := lv_entry ([.ref x, .int n9]) (n := 3) (Nat.le_of_ble_eq_true rfl)
  rw [lg_entry_eq]
  generalize (lg_sl ([.ref x, .int n9]) ++ List.replicate (3 - (lg_sl ([.ref x, .int n9])).length) Slot.unset).toArray = ls at hl ⊢
  have hl : lv_has ls 3 [(0, .ref x), (1, .int n9)] := hl
  obtain ⟨aH, wl, la, cap, mc9, g, lf, ho, had, my, sn, sad, hcs, hrs⟩ := id hS
  refine lv_aload_n hx hb dL_open_0 rfl (lv_at hl 0 rfl) ?_
  refine lv_iload_n hx hb dL_open_1 rfl (lv_at hl 1 rfl) ?_
  refine gw_xcallv (vx_runV (As := [.int n9]) (rest := []) ⟨hx, hb, hml, hown, hts⟩ (c_open l hnt K M x ro S n9 hS) (cwV 1 hts gL_open_X2_open rfl rfl rfl (by decide +kernel) ⟨Nat.le_of_ble_eq_true rfl, Nat.le_of_ble_eq_true rfl⟩) (gw_preV hG hT hcs.2.1 rfl) rfl rfl hl.1 rfl (lv_room (Nat.le_of_ble_eq_true rfl)) dL_open_2 ⟨Nat.le_of_ble_eq_true rfl, Nat.le_of_ble_eq_true rfl⟩) hG (fun E9 ce9 qx9 M_117 H locs hw hG h7 h8 h9 => ?_) (fun M_117 H locs hw hG => ?_)
  · obtain ⟨hE9, hM1, hC⟩ := hw
    rw [hM1] at hG
    rw [hE9] at h9
    refine gc_first (name := "java/lang/IllegalArgumentException") hown (htab.trans rfl) (by decide) (by decide) (hts (.classLink RL 13 "java/lang/IllegalArgumentException") (by decide +kernel)) hT.2.2.2.1.1 h7 h8 h9 ?_
    refine lv_astore_n (lv' := [(2, .ref qx9), (0, .ref x), (1, .int n9)]) hx hb dL_open_8 rfl hl (by decide) rfl (fun ls hl => ?_)
    refine lv_iconst (v := nI 1) hx hb dL_open_9 (by decide) ?_
    refine vx_ret ?_
    exact gw_iret hx hb hr hlocks hG hT (by omega) (by omega) dL_open_10 (Or.inl ⟨rfl, rfl, hC⟩)
  · refine lv_goto (tgt := 11) hx hb dL_open_5 (by decide) ?_
    refine lv_iconst (v := nI 0) hx hb dL_open_11 (by decide) ?_
    refine vx_ret ?_
    exact gw_iret hx hb hr hlocks hG hT (by omega) (by omega) dL_open_12 (Or.inr ⟨rfl, hw⟩)
