set_option maxHeartbeats 4000000 in
set_option maxRecDepth 100000 in
/-- w_same -/
theorem w_same (l : Launch) (hnt : l.stackTraces = false) (K : gw_C) (M : gw_M) (x : Nat) (ro : Nat → Nat) (S : gst) (r9 s9 : Int32) (ao : Nat) (o9 : Nat → Int64)  (hS : CS K M ro x S) (hao : M ao = some (.inl (K.2.1 1, 1, .inr (.inl o9)))) (hro : ro ao = 60) : vx_Met l yL_same wsL_same ({ frames := 11, cells := 2, slots := 12, locals := 240 } : Room) (va_Pc [.ref x, .int r9, .int s9, .ref ao] (gw_I K M)) (va_Qi (fun r M1 => (r = nI 1 ∧ M1 = M ∧ (¬ (inN r9 S.1 ∧ inN s9 S.1))) ∨ (r = nI 0 ∧ ∃ r0 M0, (fun r M1 => M1 = M ∧ ∃ rk rj, (rk < S.1 ∧ r9 = nI rk) ∧ (rj < S.1 ∧ s9 = nI rj) ∧ ((r = nI 1 ∧ heq (S.2.1 rk) (S.2.1 rj)) ∨ (r = nI 0 ∧ ¬ heq (S.2.1 rk) (S.2.1 rj)))) r0 M0 ∧ M0 ao = some (.inl (K.2.1 1, 1, .inr (.inl o9))) ∧ M1 = gw_up M0 ao (.inl (K.2.1 1, 1, .inr (.inl (vp_updL o9 0 (if r0 = 0 then 0 else 1))))))) (gw_I K) (gw_A K)) (gw_X K (fun _ _ => False)) 2 12 (gw_A K) := by
  refine vx_ofWH (cc := cL_same) (maxL := 5) (ret := (some .int)) (hh := [(0, 17, 20, 13)]) (by decide) rfl ?_
  intro p e s m args below meth c s₁ B hml hv
  obtain ⟨hav, hI⟩ := hv
  have hx := B.exec
  have hb := B.bytes
  have hr := B.returns
  have hts := atoms_spec (ws := wsL_same) B.pre
  have hown : s.vm.findClass RL = some m.cls := findClass_of_methodNamed B.named
  have hlocks : meth.locks = false := B.notSynchronized
  have htab : c.exceptionTable.toList = tableOf [(0, 17, 20, 13)] := vx_table (x := yL_same) B (hts _ List.mem_cons_self)
  have hT := hI.2.2
  have hK := hT.K
  have hG := hI.B
  have hE : entryFrame m args 5 = entryFrame m ([.ref x, .int r9, .int s9, .ref ao] : List Value).toArray 5 := by rw [hav]
  rw [hE]
  have hl := lv_entry ([.ref x, .int r9, .int s9, .ref ao]) (n := 5) (Nat.le_of_ble_eq_true rfl)
  rw [lg_entry_eq]
  generalize (lg_sl ([.ref x, .int r9, .int s9, .ref ao]) ++ List.replicate (5 - (lg_sl ([.ref x, .int r9, .int s9, .ref ao])).length) Slot.unset).toArray = ls at hl ⊢
  have hl : lv_has ls 5 [(0, .ref x), (1, .int r9), (2, .int s9), (3, .ref ao)] := hl
  obtain ⟨aH, wl, la, cap, mc9, g, lf, ho, had, my, sn, sad, hcs, hrs⟩ := id hS
  refine lv_aload_n hx hb dL_same_0 rfl (lv_at hl 3 rfl) ?_
  refine lv_iconst (v := nI 0) hx hb dL_same_1 (by decide) ?_
  refine lv_aload_n hx hb dL_same_2 rfl (lv_at hl 0 rfl) ?_
  refine lv_iload_n hx hb dL_same_3 rfl (lv_at hl 1 rfl) ?_
  refine lv_iload_n hx hb dL_same_4 rfl (lv_at hl 2 rfl) ?_
  refine gw_xcalli (vx_runV (As := [.int r9, .int s9]) (rest := [.int (nI 0), .ref ao]) ⟨hx, hb, hml, hown, hts⟩ (c_same l hnt K M x ro S r9 s9 hS) (cwV 2 hts gL_same_X2_same rfl rfl rfl (by decide +kernel) ⟨Nat.le_of_ble_eq_true rfl, Nat.le_of_ble_eq_true rfl⟩) (gw_preV hG hT hcs.2.1 rfl) rfl rfl hl.1 rfl (lv_room (Nat.le_of_ble_eq_true rfl)) dL_same_5 ⟨Nat.le_of_ble_eq_true rfl, Nat.le_of_ble_eq_true rfl⟩) hG (fun E9 ce9 qx9 M_104 H locs hw hG h7 h8 h9 => ?_) (fun r_103 M_104 H locs hw hG => ?_)
  · obtain ⟨hE9, hM1, hC⟩ := hw
    rw [hM1] at hG
    rw [hE9] at h9
    refine gc_first (name := "java/lang/IllegalArgumentException") hown (htab.trans rfl) (by decide) (by decide) (hts (.classLink RL 13 "java/lang/IllegalArgumentException") (by decide +kernel)) hT.2.2.2.1.1 h7 h8 h9 ?_
    refine lv_astore (lv' := [(4, .ref qx9), (0, .ref x), (1, .int r9), (2, .int s9), (3, .ref ao)]) hx hb dL_same_20 hl (by decide) rfl (fun ls hl => ?_)
    refine lv_iconst (v := nI 1) hx hb dL_same_22 (by decide) ?_
    refine vx_ret ?_
    exact gw_iret hx hb hr hlocks hG hT (by omega) (by omega) dL_same_23 (Or.inl ⟨rfl, rfl, hC⟩)
  · have ha0 : M_104 ao = some (.inl (K.2.1 1, 1, .inr (.inl o9))) := by rw [hw.1]; exact hao
    refine lv_if_eq hx hb (tgt := 15) dL_same_8 (by decide) (fun hz => ?_) (fun hz => ?_)
    · refine lv_lconst (v := 0) hx hb dL_same_15 (by decide) ?_
      refine gw_last_n hx hb hK hG ha0 1 rfl (by omega) (by omega) dL_same_16 (fun H locs hG => ?_)
      obtain ⟨M_105, hM_106⟩ : ∃ M1 : gw_M, M1 = gw_up M_104 ao (.inl (K.2.1 1, 1, .inr (.inl (vp_updL o9 0 0)))) := ⟨_, rfl⟩
      have hG : gw_B K M_105 s.heap H locs := by rw [hM_106]; exact hG
      have hc_107 : M_105 ao = some (.inl (K.2.1 1, 1, .inr (.inl (vp_updL o9 0 0)))) := (congrFun hM_106 _).trans gw_s
      refine lv_goto (tgt := 24) hx hb dL_same_17 (by decide) ?_
      refine lv_iconst (v := nI 0) hx hb dL_same_24 (by decide) ?_
      refine vx_ret ?_
      exact gw_iret hx hb hr hlocks hG hT (by omega) (by omega) dL_same_25 (Or.inr ⟨rfl, r_103, M_104, hw, ha0, by rw [if_pos hz]; exact hM_106⟩)
    · refine lv_lconst (v := 1) hx hb dL_same_11 (by decide) ?_
      refine lv_goto (tgt := 16) hx hb dL_same_12 (by decide) ?_
      refine gw_last_n hx hb hK hG ha0 1 rfl (by omega) (by omega) dL_same_16 (fun H locs hG => ?_)
      obtain ⟨M_108, hM_109⟩ : ∃ M1 : gw_M, M1 = gw_up M_104 ao (.inl (K.2.1 1, 1, .inr (.inl (vp_updL o9 0 1)))) := ⟨_, rfl⟩
      have hG : gw_B K M_108 s.heap H locs := by rw [hM_109]; exact hG
      have hc_110 : M_108 ao = some (.inl (K.2.1 1, 1, .inr (.inl (vp_updL o9 0 1)))) := (congrFun hM_109 _).trans gw_s
      refine lv_goto (tgt := 24) hx hb dL_same_17 (by decide) ?_
      refine lv_iconst (v := nI 0) hx hb dL_same_24 (by decide) ?_
      refine vx_ret ?_
      exact gw_iret hx hb hr hlocks hG hT (by omega) (by omega) dL_same_25 (Or.inr ⟨rfl, r_103, M_104, hw, ha0, by rw [if_neg hz]; exact hM_109⟩)

set_option maxHeartbeats 4000000 in
set_option maxRecDepth 100000 in
/-- w_message -/
theorem w_message (l : Launch) (hnt : l.stackTraces = false) (K : gw_C) (M : gw_M) (x : Nat) (ro : Nat → Nat) (S : gst) (i9 q9 : Int32) (ao : Nat) (o9 : Nat → Int64)  (hS : CS K M ro x S) (hao : M ao = some (.inl (K.2.1 1, 1, .inr (.inl o9)))) (hro : ro ao = 60) : vx_Met l yL_message wsL_message ({ frames := 11, cells := 2, slots := 12, locals := 240 } : Room) (va_Pc [.ref x, .int i9, .int q9, .ref ao] (gw_I K M)) (va_Qi (fun r M1 => (r = nI 1 ∧ M1 = M ∧ (¬ q9 = -1 ∧ ¬ q9 = -2 ∧ ¬ (inN i9 S.2.2.1 ∧ inN q9 (S.1 + 2)))) ∨ (r = nI 0 ∧ ∃ r0 M0, (fun r M1 => M1 = M ∧ ((q9 = -1 ∧ r = nI S.1) ∨ (q9 = -2 ∧ r = nI S.2.2.1) ∨ (¬ q9 = -1 ∧ ¬ q9 = -2 ∧ ∃ k, (k < S.2.2.1 ∧ i9 = nI k) ∧ inN q9 (S.1 + 2) ∧ r = if q9 = 0 then nI (S.2.2.2.1 k) else if q9 = 1 then nI (S.2.2.2.2.1 k) else (S.2.2.2.2.2 k).1 (q9 - nI 2).toNatClampNeg))) r0 M0 ∧ M0 ao = some (.inl (K.2.1 1, 1, .inr (.inl o9))) ∧ M1 = gw_up M0 ao (.inl (K.2.1 1, 1, .inr (.inl (vp_updL o9 0 r0.toInt64)))))) (gw_I K) (gw_A K)) (gw_X K (fun _ _ => False)) 2 12 (gw_A K) := by
  refine vx_ofWH (cc := cL_message) (maxL := 5) (ret := (some .int)) (hh := [(0, 10, 13, 13)]) (by decide) rfl ?_
  intro p e s m args below meth c s₁ B hml hv
  obtain ⟨hav, hI⟩ := hv
  have hx := B.exec
  have hb := B.bytes
  have hr := B.returns
  have hts := atoms_spec (ws := wsL_message) B.pre
  have hown : s.vm.findClass RL = some m.cls := findClass_of_methodNamed B.named
  have hlocks : meth.locks = false := B.notSynchronized
  have htab : c.exceptionTable.toList = tableOf [(0, 10, 13, 13)] := vx_table (x := yL_message) B (hts _ List.mem_cons_self)
  have hT := hI.2.2
  have hK := hT.K
  have hG := hI.B
  have hE : entryFrame m args 5 = entryFrame m ([.ref x, .int i9, .int q9, .ref ao] : List Value).toArray 5 := by rw [hav]
  rw [hE]
  have hl := lv_entry ([.ref x, .int i9, .int q9, .ref ao]) (n := 5) (Nat.le_of_ble_eq_true rfl)
  rw [lg_entry_eq]
  generalize (lg_sl ([.ref x, .int i9, .int q9, .ref ao]) ++ List.replicate (5 - (lg_sl ([.ref x, .int i9, .int q9, .ref ao])).length) Slot.unset).toArray = ls at hl ⊢
  have hl : lv_has ls 5 [(0, .ref x), (1, .int i9), (2, .int q9), (3, .ref ao)] := hl
  obtain ⟨aH, wl, la, cap, mc9, g, lf, ho, had, my, sn, sad, hcs, hrs⟩ := id hS
  refine lv_aload_n hx hb dL_message_0 rfl (lv_at hl 3 rfl) ?_
  refine lv_iconst (v := nI 0) hx hb dL_message_1 (by decide) ?_
  refine lv_aload_n hx hb dL_message_2 rfl (lv_at hl 0 rfl) ?_
  refine lv_iload_n hx hb dL_message_3 rfl (lv_at hl 1 rfl) ?_
  refine lv_iload_n hx hb dL_message_4 rfl (lv_at hl 2 rfl) ?_
  refine gw_xcalli (vx_runV (As := [.int i9, .int q9]) (rest := [.int (nI 0), .ref ao]) ⟨hx, hb, hml, hown, hts⟩ (c_message l hnt K M x ro S i9 q9 hS) (cwV 2 hts gL_message_X2_message rfl rfl rfl (by decide +kernel) ⟨Nat.le_of_ble_eq_true rfl, Nat.le_of_ble_eq_true rfl⟩) (gw_preV hG hT hcs.2.1 rfl) rfl rfl hl.1 rfl (lv_room (Nat.le_of_ble_eq_true rfl)) dL_message_5 ⟨Nat.le_of_ble_eq_true rfl, Nat.le_of_ble_eq_true rfl⟩) hG (fun E9 ce9 qx9 M_112 H locs hw hG h7 h8 h9 => ?_) (fun r_111 M_112 H locs hw hG => ?_)
  · obtain ⟨hE9, hM1, hC⟩ := hw
    rw [hM1] at hG
    rw [hE9] at h9
    refine gc_first (name := "java/lang/IllegalArgumentException") hown (htab.trans rfl) (by decide) (by decide) (hts (.classLink RL 13 "java/lang/IllegalArgumentException") (by decide +kernel)) hT.2.2.2.1.1 h7 h8 h9 ?_
    refine lv_astore (lv' := [(4, .ref qx9), (0, .ref x), (1, .int i9), (2, .int q9), (3, .ref ao)]) hx hb dL_message_13 hl (by decide) rfl (fun ls hl => ?_)
    refine lv_iconst (v := nI 1) hx hb dL_message_15 (by decide) ?_
    refine vx_ret ?_
    exact gw_iret hx hb hr hlocks hG hT (by omega) (by omega) dL_message_16 (Or.inl ⟨rfl, rfl, hC⟩)
  · have ha0 : M_112 ao = some (.inl (K.2.1 1, 1, .inr (.inl o9))) := by rw [hw.1]; exact hao
    refine lv_i2l hx hb dL_message_8 rfl ?_
    refine gw_last_n hx hb hK hG ha0 1 rfl (by omega) (by omega) dL_message_9 (fun H locs hG => ?_)
    obtain ⟨M_113, hM_114⟩ : ∃ M1 : gw_M, M1 = gw_up M_112 ao (.inl (K.2.1 1, 1, .inr (.inl (vp_updL o9 0 r_111.toInt64)))) := ⟨_, rfl⟩
    have hG : gw_B K M_113 s.heap H locs := by rw [hM_114]; exact hG
    have hc_115 : M_113 ao = some (.inl (K.2.1 1, 1, .inr (.inl (vp_updL o9 0 r_111.toInt64)))) := (congrFun hM_114 _).trans gw_s
    refine lv_goto (tgt := 17) hx hb dL_message_10 (by decide) ?_
    refine lv_iconst (v := nI 0) hx hb dL_message_17 (by decide) ?_
    refine vx_ret ?_
    exact gw_iret hx hb hr hlocks hG hT (by omega) (by omega) dL_message_18 (Or.inr ⟨rfl, r_111, M_112, hw, ha0, hM_114⟩)
