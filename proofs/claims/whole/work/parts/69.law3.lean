set_option maxHeartbeats 4000000 in
set_option maxRecDepth 100000 in
theorem law_value {p : Program} {e : Env} {s : State} {m : MethodId} {below : List Frame} {meth : Method} {c : Code} (l : Launch) (hnt : l.stackTraces = false) {b L : Nat} {xs : Nat → Int32} (K : gw_C) (x mo ao : Nat) (ad : Nat → Nat) (S : gst) (t i : Nat) (M : gw_M) (ro : Nat → Nat) (C0 : LC p s m meth c b L xs K) (hi : i + 6 ≤ L) (ht : t ≤ 511) (hJ : LJ K x mo ao ad S t M ro) {H : Heap} {locs : List Loc} (hG : gw_B K M s.heap H locs) {ls : Array Slot} (hl : lv_has ls 7 [(4, .int (nI i)), (3, .ref ao), (2, .ref mo), (1, .ref x), (0, .ref b)]) (kk : LK p l e s m below meth c b K x mo ao ad t i) : W p l e room_1 s m #[Value.ref b] below meth c H locs (48 + 11 * t) (54728 + 662 * t) (lw_Z below #[Value.ref b] s) (F0 m 1110 ls []) := by
  obtain ⟨C1, hT, hA0, hL⟩ := C0
  obtain ⟨hx, hb, hr, hml, hown9, htsA, hX, hbl, hlocks, hgv⟩ := id C1
  have hown : s.vm.findClass RL = some m.cls := hown9
  have hts : ∀ w ∈ wsL_law, w.before #[Value.ref b] s = true := fun w h => htsA w (wsL_law_in w h)
  have hK := hT.K
  have hbA : ¬ gw_A K b := fun q => Nat.not_le.mpr hbl (by rw [← hA0]; exact q)
  obtain ⟨hCS, ⟨cd, tb, vb, sb, fm, tq, hmd, hrel⟩, ⟨o9, hao⟩, hLR, hInv⟩ := hJ
  have hn6 := hmd.1.1
  have hk100 := hmd.1.2
  refine lv_aload_n hx hb dL_law_1110 rfl (lv_at hl 3 rfl) ?_
  refine lv_aload_n hx hb dL_law_1111 rfl (lv_at hl 4 rfl) ?_
  refine lv_iload hx hb dL_law_1112 (lv_at hl 0 rfl) ?_
  refine lv_iconst (v := nI 1) hx hb dL_law_1114 (by decide) ?_
  refine gw_iadd hx hb dL_law_1115 ?_
  refine va_sld hx hb hX hbl hbA hG.S (gw_in (j := i + 1) (by omega) (by omega)) dL_law_1116 ?_
  refine gw_as (y := xs (i + 1)) (congrArg xs (nI_clamp (by omega))) ?_
  refine lv_aload_n hx hb dL_law_1117 rfl (lv_at hl 4 rfl) ?_
  refine lv_iload hx hb dL_law_1118 (lv_at hl 0 rfl) ?_
  refine lv_iconst (v := nI 2) hx hb dL_law_1120 (by decide) ?_
  refine gw_iadd hx hb dL_law_1121 ?_
  refine va_sld hx hb hX hbl hbA hG.S (gw_in (j := i + 2) (by omega) (by omega)) dL_law_1122 ?_
  refine gw_as (y := xs (i + 2)) (congrArg xs (nI_clamp (by omega))) ?_
  refine lv_aload_n hx hb dL_law_1123 rfl (lv_at hl 4 rfl) ?_
  refine lv_iload hx hb dL_law_1124 (lv_at hl 0 rfl) ?_
  refine lv_iconst (v := nI 3) hx hb dL_law_1126 (by decide) ?_
  refine gw_iadd hx hb dL_law_1127 ?_
  refine va_sld hx hb hX hbl hbA hG.S (gw_in (j := i + 3) (by omega) (by omega)) dL_law_1128 ?_
  refine gw_as (y := xs (i + 3)) (congrArg xs (nI_clamp (by omega))) ?_
  refine lv_aload_n hx hb dL_law_1129 rfl (lv_at hl 4 rfl) ?_
  refine lv_iload hx hb dL_law_1130 (lv_at hl 0 rfl) ?_
  refine lv_iconst (v := nI 4) hx hb dL_law_1132 (by decide) ?_
  refine gw_iadd hx hb dL_law_1133 ?_
  refine va_sld hx hb hX hbl hbA hG.S (gw_in (j := i + 4) (by omega) (by omega)) dL_law_1134 ?_
  refine gw_as (y := xs (i + 4)) (congrArg xs (nI_clamp (by omega))) ?_
  refine lv_aload_n hx hb dL_law_1135 rfl (lv_at hl 1 rfl) ?_
  refine gw_xcalli (vx_runSX (As := [.ref x, .int (xs (i + 1)), .int (xs (i + 2)), .int (xs (i + 3)), .int (xs (i + 4)), .ref ao]) (rest := []) ⟨hx, hb, hml, hown, hts⟩ (w_value l hnt K M x ro S (xs (i + 1)) (xs (i + 2)) (xs (i + 3)) (xs (i + 4)) ao o9 hCS hao hLR.2.2) (vx_cwSW 6 hts gL_law_L_value rfl rfl rfl (by decide +kernel) ⟨Nat.le_of_ble_eq_true rfl, Nat.le_of_ble_eq_true rfl⟩) (gw_preS hG hT) rfl rfl hl.1 rfl (lv_room (Nat.le_of_ble_eq_true rfl)) dL_law_1136 ⟨show 48 + 11 * t + 3 ≤ 601024 by omega, show 54728 + 662 * t + 18 ≤ 7293034 by omega⟩) hG (fun E9 ce9 qx9 M9 H9 locs9 hw hG h7 h8 h9 => hw.elim) (fun r_530 M_531 H locs hw hG => ?_)
  rcases hw with ⟨hr9, hM1, hC⟩ | ⟨hr9, r0, M0, hP, ha0, hM1⟩
  · rw [hM1] at hG
    refine gw_as hr9 ?_
    refine lv_istore (lv' := [(5, .int (nI 1)), (4, .int (nI i)), (3, .ref ao), (2, .ref mo), (1, .ref x), (0, .ref b)]) hx hb dL_law_1139 hl (by decide) rfl (fun ls hl => ?_)
    refine lv_aload_n hx hb dL_law_1141 rfl (lv_at hl 3 rfl) ?_
    refine lv_aload_n hx hb dL_law_1142 rfl (lv_at hl 5 rfl) ?_
    refine lv_iload hx hb dL_law_1143 (lv_at hl 1 rfl) ?_
    refine lv_iconst (v := nI 1) hx hb dL_law_1145 (by decide) ?_
    refine gw_iadd hx hb dL_law_1146 ?_
    refine va_sld hx hb hX hbl hbA hG.S (gw_in (j := i + 1) (by omega) (by omega)) dL_law_1147 ?_
    refine gw_as (y := xs (i + 1)) (congrArg xs (nI_clamp (by omega))) ?_
    refine lv_aload_n hx hb dL_law_1148 rfl (lv_at hl 5 rfl) ?_
    refine lv_iload hx hb dL_law_1149 (lv_at hl 1 rfl) ?_
    refine lv_iconst (v := nI 2) hx hb dL_law_1151 (by decide) ?_
    refine gw_iadd hx hb dL_law_1152 ?_
    refine va_sld hx hb hX hbl hbA hG.S (gw_in (j := i + 2) (by omega) (by omega)) dL_law_1153 ?_
    refine gw_as (y := xs (i + 2)) (congrArg xs (nI_clamp (by omega))) ?_
    refine lv_aload_n hx hb dL_law_1154 rfl (lv_at hl 5 rfl) ?_
    refine lv_iload hx hb dL_law_1155 (lv_at hl 1 rfl) ?_
    refine lv_iconst (v := nI 3) hx hb dL_law_1157 (by decide) ?_
    refine gw_iadd hx hb dL_law_1158 ?_
    refine va_sld hx hb hX hbl hbA hG.S (gw_in (j := i + 3) (by omega) (by omega)) dL_law_1159 ?_
    refine gw_as (y := xs (i + 3)) (congrArg xs (nI_clamp (by omega))) ?_
    refine lv_aload_n hx hb dL_law_1160 rfl (lv_at hl 5 rfl) ?_
    refine lv_iload hx hb dL_law_1161 (lv_at hl 1 rfl) ?_
    refine lv_iconst (v := nI 4) hx hb dL_law_1163 (by decide) ?_
    refine gw_iadd hx hb dL_law_1164 ?_
    refine va_sld hx hb hX hbl hbA hG.S (gw_in (j := i + 4) (by omega) (by omega)) dL_law_1165 ?_
    refine gw_as (y := xs (i + 4)) (congrArg xs (nI_clamp (by omega))) ?_
    refine gw_calli (va_runV (As := [.int (xs (i + 1)), .int (xs (i + 2)), .int (xs (i + 3)), .int (xs (i + 4))]) (rest := []) ⟨hx, hb, hml, hown, hts⟩ (m_value_no l K M mo ad _ _ _ _ _ _ _ _ (xs (i + 1)) (xs (i + 2)) (xs (i + 3)) (xs (i + 4)) hmd (fun q => hC ⟨⟨q.1, q.2.1⟩, inN3 q.2.2⟩)) (cwV 4 hts gL_law_X3_value rfl rfl rfl (by decide +kernel) ⟨Nat.le_of_ble_eq_true rfl, Nat.le_of_ble_eq_true rfl⟩) (gw_preV hG hT hmd.2.1 rfl) rfl rfl hl.1 rfl (lv_room (Nat.le_of_ble_eq_true rfl)) dL_law_1166 ⟨show 48 + 11 * t + 3 + 0 ≤ 601024 by omega, show 54728 + 662 * t + 18 + 0 ≤ 7293034 by omega⟩) hG (fun r_532 M_533 H locs hw hG => ?_)
    obtain ⟨hmd2, hf2⟩ := hw
    obtain ⟨hCS2, hao2⟩ := LJ_mod hCS hmd hao hLR hf2
    refine lv_istore (lv' := [(6, .int r_532), (5, .int (nI 1)), (4, .int (nI i)), (3, .ref ao), (2, .ref mo), (1, .ref x), (0, .ref b)]) hx hb dL_law_1169 hl (by decide) rfl (fun ls hl => ?_)
    refine lv_aload_n hx hb dL_law_1171 rfl (lv_at hl 4 rfl) ?_
    refine gw_calli (va_runV (As := []) (rest := []) ⟨hx, hb, hml, hown, hts⟩ (c_thrown l K M_533 mo ad _ _ _ _ _ _ _ _ hmd2) (cwV 0 hts gL_law_X3_thrown rfl rfl rfl (by decide +kernel) ⟨Nat.le_of_ble_eq_true rfl, Nat.le_of_ble_eq_true rfl⟩) (gw_preV hG hT hmd2.2.1 rfl) rfl rfl hl.1 rfl (lv_room (Nat.le_of_ble_eq_true rfl)) dL_law_1172 ⟨show 48 + 11 * t + 3 + 0 ≤ 601024 by omega, show 54728 + 662 * t + 18 + 0 ≤ 7293034 by omega⟩) hG (fun r_534 M_535 H locs hw hG => ?_)
    rw [hw.1] at hG
    refine gw_as hw.2 ?_
    refine lv_iload hx hb dL_law_1175 (lv_at hl 1 rfl) ?_
    refine lv_icmp_eq hx hb (tgt := 1182) dL_law_1177 (by decide) (fun hc => ?_) (fun hc => absurd rfl hc)
    refine lv_iload hx hb dL_law_1182 (lv_at hl 1 rfl) ?_
    refine lv_if_ne hx hb (tgt := 1199) dL_law_1184 (by decide) (fun hc => ?_) (fun hc => absurd hc (by decide))
    refine lv_goto (tgt := 1549) hx hb dL_law_1199 (by decide) ?_
    refine W.widen (k := 48 + 11 * (t + 1)) (n := 54728 + 662 * (t + 1)) (by omega) (by omega) ?_
    exact kk S M_533 ro _ _ ls ⟨hCS2, ⟨_, _, _, _, _, _, hmd2, hrel⟩, ⟨_, hao2⟩, hLR, (hInv).mono (Nat.le_succ t)⟩ hG (lv_sub hl [2, 3, 4, 5, 6] rfl)
  · refine gw_as hr9 ?_
    obtain ⟨hM0, rk, ks, ⟨hrk, e1⟩, ⟨hks, e2⟩, h5, hv⟩ := hP
    rcases h5 with hq | hq | hq
    · have h6 : rk < 6 := by omega
      obtain ⟨hCS1, hmd1, hao1, hLR1⟩ := LJ_out (e := .inl (K.2.1 1, 1, .inr (.inl (vp_updL o9 0 r0.toInt64)))) (show CS K M0 ro x S by rw [hM0]; exact hCS) (show ofr 60 1000 M M0 ro ro by rw [hM0]; exact ofr.rf) hmd hao ha0 hLR
      rw [← hM1] at hCS1 hmd1 hao1
      refine lv_istore (lv' := [(5, .int (nI 0)), (4, .int (nI i)), (3, .ref ao), (2, .ref mo), (1, .ref x), (0, .ref b)]) hx hb dL_law_1139 hl (by decide) rfl (fun ls hl => ?_)
      refine lv_aload_n hx hb dL_law_1141 rfl (lv_at hl 3 rfl) ?_
      refine lv_aload_n hx hb dL_law_1142 rfl (lv_at hl 5 rfl) ?_
      refine lv_iload hx hb dL_law_1143 (lv_at hl 1 rfl) ?_
      refine lv_iconst (v := nI 1) hx hb dL_law_1145 (by decide) ?_
      refine gw_iadd hx hb dL_law_1146 ?_
      refine va_sld hx hb hX hbl hbA hG.S (gw_in (j := i + 1) (by omega) (by omega)) dL_law_1147 ?_
      refine gw_as (y := xs (i + 1)) (congrArg xs (nI_clamp (by omega))) ?_
      refine gw_as e1 ?_
      refine lv_aload_n hx hb dL_law_1148 rfl (lv_at hl 5 rfl) ?_
      refine lv_iload hx hb dL_law_1149 (lv_at hl 1 rfl) ?_
      refine lv_iconst (v := nI 2) hx hb dL_law_1151 (by decide) ?_
      refine gw_iadd hx hb dL_law_1152 ?_
      refine va_sld hx hb hX hbl hbA hG.S (gw_in (j := i + 2) (by omega) (by omega)) dL_law_1153 ?_
      refine gw_as (y := xs (i + 2)) (congrArg xs (nI_clamp (by omega))) ?_
      refine gw_as e2 ?_
      refine lv_aload_n hx hb dL_law_1154 rfl (lv_at hl 5 rfl) ?_
      refine lv_iload hx hb dL_law_1155 (lv_at hl 1 rfl) ?_
      refine lv_iconst (v := nI 3) hx hb dL_law_1157 (by decide) ?_
      refine gw_iadd hx hb dL_law_1158 ?_
      refine va_sld hx hb hX hbl hbA hG.S (gw_in (j := i + 3) (by omega) (by omega)) dL_law_1159 ?_
      refine gw_as (y := xs (i + 3)) (congrArg xs (nI_clamp (by omega))) ?_
      refine lv_aload_n hx hb dL_law_1160 rfl (lv_at hl 5 rfl) ?_
      refine lv_iload hx hb dL_law_1161 (lv_at hl 1 rfl) ?_
      refine lv_iconst (v := nI 4) hx hb dL_law_1163 (by decide) ?_
      refine gw_iadd hx hb dL_law_1164 ?_
      refine va_sld hx hb hX hbl hbA hG.S (gw_in (j := i + 4) (by omega) (by omega)) dL_law_1165 ?_
      refine gw_as (y := xs (i + 4)) (congrArg xs (nI_clamp (by omega))) ?_
      refine gw_as hq ?_
      refine gw_calli (va_runV (As := [.int (nI rk), .int (nI ks), .int (xs (i + 3)), .int (nI 0)]) (rest := []) ⟨hx, hb, hml, hown, hts⟩ (m_value0 l K M_531 mo ad _ _ _ _ _ _ _ _ rk ks (xs (i + 3)) hmd1 hrk hks) (cwV 4 hts gL_law_X3_value rfl rfl rfl (by decide +kernel) ⟨Nat.le_of_ble_eq_true rfl, Nat.le_of_ble_eq_true rfl⟩) (gw_preV hG hT hmd1.2.1 rfl) rfl rfl hl.1 rfl (lv_room (Nat.le_of_ble_eq_true rfl)) dL_law_1166 ⟨show 48 + 11 * t + 3 + 0 ≤ 601024 by omega, show 54728 + 662 * t + 18 + 0 ≤ 7293034 by omega⟩) hG (fun r_536 M_537 H locs hw hG => ?_)
      obtain ⟨hv2, hmd2, hf2⟩ := hw
      have heq9 : r0 = r_536 := (((hv.trans (if_neg (by rw [hq]; decide))).trans (if_pos (by rw [hq]))).trans (veq_mko (ii := xs (i + 3)) (hrel.1 rk h6) (hInv.nng (vin_h h6)) (pl := 64 + ks) (b := (414 * rk + 6 + 6 * (64 + ks))) (by omega) (by omega))).trans hv2.symm
      obtain ⟨hCS2, hao2⟩ := LJ_mod hCS1 hmd1 hao1 hLR1 hf2
      refine lv_istore (lv' := [(6, .int r_536), (5, .int (nI 0)), (4, .int (nI i)), (3, .ref ao), (2, .ref mo), (1, .ref x), (0, .ref b)]) hx hb dL_law_1169 hl (by decide) rfl (fun ls hl => ?_)
      refine lv_aload_n hx hb dL_law_1171 rfl (lv_at hl 4 rfl) ?_
      refine gw_calli (va_runV (As := []) (rest := []) ⟨hx, hb, hml, hown, hts⟩ (c_thrown l K M_537 mo ad _ _ _ _ _ _ _ _ hmd2) (cwV 0 hts gL_law_X3_thrown rfl rfl rfl (by decide +kernel) ⟨Nat.le_of_ble_eq_true rfl, Nat.le_of_ble_eq_true rfl⟩) (gw_preV hG hT hmd2.2.1 rfl) rfl rfl hl.1 rfl (lv_room (Nat.le_of_ble_eq_true rfl)) dL_law_1172 ⟨show 48 + 11 * t + 3 + 0 ≤ 601024 by omega, show 54728 + 662 * t + 18 + 0 ≤ 7293034 by omega⟩) hG (fun r_538 M_539 H locs hw hG => ?_)
      rw [hw.1] at hG
      refine gw_as hw.2 ?_
      refine lv_iload hx hb dL_law_1175 (lv_at hl 1 rfl) ?_
      refine lv_icmp_eq hx hb (tgt := 1182) dL_law_1177 (by decide) (fun hc => ?_) (fun hc => absurd rfl hc)
      refine lv_iload hx hb dL_law_1182 (lv_at hl 1 rfl) ?_
      refine lv_if_ne hx hb (tgt := 1199) dL_law_1184 (by decide) (fun hc => absurd rfl hc) (fun hc => ?_)
      refine lv_aload_n hx hb dL_law_1187 rfl (lv_at hl 3 rfl) ?_
      refine lv_iconst (v := nI 0) hx hb dL_law_1188 (by decide) ?_
      refine gw_lald_n hx hb hK hG hao2 1 rfl (by omega) (by omega) dL_law_1189 ?_
      refine gw_asl (y := r0.toInt64) (if_pos rfl) ?_
      refine lv_iload hx hb dL_law_1190 (lv_at hl 0 rfl) ?_
      refine lv_i2l hx hb dL_law_1192 rfl ?_
      refine W.lcmp hx hb dL_law_1193 ?_
      refine lv_if_eq hx hb (tgt := 1199) dL_law_1194 (by decide) (fun hc => ?_) (fun hc => absurd (lcmp_of (congrArg Int32.toInt64 heq9)) hc)
      refine lv_goto (tgt := 1549) hx hb dL_law_1199 (by decide) ?_
      refine W.widen (k := 48 + 11 * (t + 1)) (n := 54728 + 662 * (t + 1)) (by omega) (by omega) ?_
      exact kk S M_537 ro _ _ ls ⟨hCS2, ⟨_, _, _, _, _, _, hmd2, hrel⟩, ⟨_, hao2⟩, hLR1, (hInv).mono (Nat.le_succ t)⟩ hG (lv_sub hl [2, 3, 4, 5, 6] rfl)
    · have h6 : rk < 6 := by omega
      obtain ⟨hCS1, hmd1, hao1, hLR1⟩ := LJ_out (e := .inl (K.2.1 1, 1, .inr (.inl (vp_updL o9 0 r0.toInt64)))) (show CS K M0 ro x S by rw [hM0]; exact hCS) (show ofr 60 1000 M M0 ro ro by rw [hM0]; exact ofr.rf) hmd hao ha0 hLR
      rw [← hM1] at hCS1 hmd1 hao1
      refine lv_istore (lv' := [(5, .int (nI 0)), (4, .int (nI i)), (3, .ref ao), (2, .ref mo), (1, .ref x), (0, .ref b)]) hx hb dL_law_1139 hl (by decide) rfl (fun ls hl => ?_)
      refine lv_aload_n hx hb dL_law_1141 rfl (lv_at hl 3 rfl) ?_
      refine lv_aload_n hx hb dL_law_1142 rfl (lv_at hl 5 rfl) ?_
      refine lv_iload hx hb dL_law_1143 (lv_at hl 1 rfl) ?_
      refine lv_iconst (v := nI 1) hx hb dL_law_1145 (by decide) ?_
      refine gw_iadd hx hb dL_law_1146 ?_
      refine va_sld hx hb hX hbl hbA hG.S (gw_in (j := i + 1) (by omega) (by omega)) dL_law_1147 ?_
      refine gw_as (y := xs (i + 1)) (congrArg xs (nI_clamp (by omega))) ?_
      refine gw_as e1 ?_
      refine lv_aload_n hx hb dL_law_1148 rfl (lv_at hl 5 rfl) ?_
      refine lv_iload hx hb dL_law_1149 (lv_at hl 1 rfl) ?_
      refine lv_iconst (v := nI 2) hx hb dL_law_1151 (by decide) ?_
      refine gw_iadd hx hb dL_law_1152 ?_
      refine va_sld hx hb hX hbl hbA hG.S (gw_in (j := i + 2) (by omega) (by omega)) dL_law_1153 ?_
      refine gw_as (y := xs (i + 2)) (congrArg xs (nI_clamp (by omega))) ?_
      refine gw_as e2 ?_
      refine lv_aload_n hx hb dL_law_1154 rfl (lv_at hl 5 rfl) ?_
      refine lv_iload hx hb dL_law_1155 (lv_at hl 1 rfl) ?_
      refine lv_iconst (v := nI 3) hx hb dL_law_1157 (by decide) ?_
      refine gw_iadd hx hb dL_law_1158 ?_
      refine va_sld hx hb hX hbl hbA hG.S (gw_in (j := i + 3) (by omega) (by omega)) dL_law_1159 ?_
      refine gw_as (y := xs (i + 3)) (congrArg xs (nI_clamp (by omega))) ?_
      refine lv_aload_n hx hb dL_law_1160 rfl (lv_at hl 5 rfl) ?_
      refine lv_iload hx hb dL_law_1161 (lv_at hl 1 rfl) ?_
      refine lv_iconst (v := nI 4) hx hb dL_law_1163 (by decide) ?_
      refine gw_iadd hx hb dL_law_1164 ?_
      refine va_sld hx hb hX hbl hbA hG.S (gw_in (j := i + 4) (by omega) (by omega)) dL_law_1165 ?_
      refine gw_as (y := xs (i + 4)) (congrArg xs (nI_clamp (by omega))) ?_
      refine gw_as hq ?_
      refine gw_calli (va_runV (As := [.int (nI rk), .int (nI ks), .int (xs (i + 3)), .int (nI 1)]) (rest := []) ⟨hx, hb, hml, hown, hts⟩ (m_value1 l K M_531 mo ad _ _ _ _ _ _ _ _ rk ks (xs (i + 3)) hmd1 hrk hks) (cwV 4 hts gL_law_X3_value rfl rfl rfl (by decide +kernel) ⟨Nat.le_of_ble_eq_true rfl, Nat.le_of_ble_eq_true rfl⟩) (gw_preV hG hT hmd1.2.1 rfl) rfl rfl hl.1 rfl (lv_room (Nat.le_of_ble_eq_true rfl)) dL_law_1166 ⟨show 48 + 11 * t + 3 + 0 ≤ 601024 by omega, show 54728 + 662 * t + 18 + 0 ≤ 7293034 by omega⟩) hG (fun r_540 M_541 H locs hw hG => ?_)
      obtain ⟨hv2, hmd2, hf2⟩ := hw
      have heq9 : r0 = r_540 := (dot_eq ((hv.trans (if_neg (by rw [hq]; decide))).trans (if_neg (by rw [hq]; decide))) (veq_mko (ii := xs (i + 3)) (hrel.1 rk h6) (hInv.nng (vin_h h6)) (pl := 64 + ks) (b := (414 * rk + 6 + 6 * (64 + ks))) (by omega) (by omega)) (fun j hj => (dmv (hrel.1 rk h6) (hInv.nng (vin_h h6)) (pl := 64 + ks) (b := (414 * rk + 6 + 6 * (64 + ks))) (by omega) (by omega) j hj).1)).trans hv2.symm
      obtain ⟨hCS2, hao2⟩ := LJ_mod hCS1 hmd1 hao1 hLR1 hf2
      refine lv_istore (lv' := [(6, .int r_540), (5, .int (nI 0)), (4, .int (nI i)), (3, .ref ao), (2, .ref mo), (1, .ref x), (0, .ref b)]) hx hb dL_law_1169 hl (by decide) rfl (fun ls hl => ?_)
      refine lv_aload_n hx hb dL_law_1171 rfl (lv_at hl 4 rfl) ?_
      refine gw_calli (va_runV (As := []) (rest := []) ⟨hx, hb, hml, hown, hts⟩ (c_thrown l K M_541 mo ad _ _ _ _ _ _ _ _ hmd2) (cwV 0 hts gL_law_X3_thrown rfl rfl rfl (by decide +kernel) ⟨Nat.le_of_ble_eq_true rfl, Nat.le_of_ble_eq_true rfl⟩) (gw_preV hG hT hmd2.2.1 rfl) rfl rfl hl.1 rfl (lv_room (Nat.le_of_ble_eq_true rfl)) dL_law_1172 ⟨show 48 + 11 * t + 3 + 0 ≤ 601024 by omega, show 54728 + 662 * t + 18 + 0 ≤ 7293034 by omega⟩) hG (fun r_542 M_543 H locs hw hG => ?_)
      rw [hw.1] at hG
      refine gw_as hw.2 ?_
      refine lv_iload hx hb dL_law_1175 (lv_at hl 1 rfl) ?_
      refine lv_icmp_eq hx hb (tgt := 1182) dL_law_1177 (by decide) (fun hc => ?_) (fun hc => absurd rfl hc)
      refine lv_iload hx hb dL_law_1182 (lv_at hl 1 rfl) ?_
      refine lv_if_ne hx hb (tgt := 1199) dL_law_1184 (by decide) (fun hc => absurd rfl hc) (fun hc => ?_)
      refine lv_aload_n hx hb dL_law_1187 rfl (lv_at hl 3 rfl) ?_
      refine lv_iconst (v := nI 0) hx hb dL_law_1188 (by decide) ?_
      refine gw_lald_n hx hb hK hG hao2 1 rfl (by omega) (by omega) dL_law_1189 ?_
      refine gw_asl (y := r0.toInt64) (if_pos rfl) ?_
      refine lv_iload hx hb dL_law_1190 (lv_at hl 0 rfl) ?_
      refine lv_i2l hx hb dL_law_1192 rfl ?_
      refine W.lcmp hx hb dL_law_1193 ?_
      refine lv_if_eq hx hb (tgt := 1199) dL_law_1194 (by decide) (fun hc => ?_) (fun hc => absurd (lcmp_of (congrArg Int32.toInt64 heq9)) hc)
      refine lv_goto (tgt := 1549) hx hb dL_law_1199 (by decide) ?_
      refine W.widen (k := 48 + 11 * (t + 1)) (n := 54728 + 662 * (t + 1)) (by omega) (by omega) ?_
      exact kk S M_541 ro _ _ ls ⟨hCS2, ⟨_, _, _, _, _, _, hmd2, hrel⟩, ⟨_, hao2⟩, hLR1, (hInv).mono (Nat.le_succ t)⟩ hG (lv_sub hl [2, 3, 4, 5, 6] rfl)
    · have h6 : rk < 6 := by omega
      obtain ⟨hCS1, hmd1, hao1, hLR1⟩ := LJ_out (e := .inl (K.2.1 1, 1, .inr (.inl (vp_updL o9 0 r0.toInt64)))) (show CS K M0 ro x S by rw [hM0]; exact hCS) (show ofr 60 1000 M M0 ro ro by rw [hM0]; exact ofr.rf) hmd hao ha0 hLR
      rw [← hM1] at hCS1 hmd1 hao1
      refine lv_istore (lv' := [(5, .int (nI 0)), (4, .int (nI i)), (3, .ref ao), (2, .ref mo), (1, .ref x), (0, .ref b)]) hx hb dL_law_1139 hl (by decide) rfl (fun ls hl => ?_)
      refine lv_aload_n hx hb dL_law_1141 rfl (lv_at hl 3 rfl) ?_
      refine lv_aload_n hx hb dL_law_1142 rfl (lv_at hl 5 rfl) ?_
      refine lv_iload hx hb dL_law_1143 (lv_at hl 1 rfl) ?_
      refine lv_iconst (v := nI 1) hx hb dL_law_1145 (by decide) ?_
      refine gw_iadd hx hb dL_law_1146 ?_
      refine va_sld hx hb hX hbl hbA hG.S (gw_in (j := i + 1) (by omega) (by omega)) dL_law_1147 ?_
      refine gw_as (y := xs (i + 1)) (congrArg xs (nI_clamp (by omega))) ?_
      refine gw_as e1 ?_
      refine lv_aload_n hx hb dL_law_1148 rfl (lv_at hl 5 rfl) ?_
      refine lv_iload hx hb dL_law_1149 (lv_at hl 1 rfl) ?_
      refine lv_iconst (v := nI 2) hx hb dL_law_1151 (by decide) ?_
      refine gw_iadd hx hb dL_law_1152 ?_
      refine va_sld hx hb hX hbl hbA hG.S (gw_in (j := i + 2) (by omega) (by omega)) dL_law_1153 ?_
      refine gw_as (y := xs (i + 2)) (congrArg xs (nI_clamp (by omega))) ?_
      refine gw_as e2 ?_
      refine lv_aload_n hx hb dL_law_1154 rfl (lv_at hl 5 rfl) ?_
      refine lv_iload hx hb dL_law_1155 (lv_at hl 1 rfl) ?_
      refine lv_iconst (v := nI 3) hx hb dL_law_1157 (by decide) ?_
      refine gw_iadd hx hb dL_law_1158 ?_
      refine va_sld hx hb hX hbl hbA hG.S (gw_in (j := i + 3) (by omega) (by omega)) dL_law_1159 ?_
      refine gw_as (y := xs (i + 3)) (congrArg xs (nI_clamp (by omega))) ?_
      refine lv_aload_n hx hb dL_law_1160 rfl (lv_at hl 5 rfl) ?_
      refine lv_iload hx hb dL_law_1161 (lv_at hl 1 rfl) ?_
      refine lv_iconst (v := nI 4) hx hb dL_law_1163 (by decide) ?_
      refine gw_iadd hx hb dL_law_1164 ?_
      refine va_sld hx hb hX hbl hbA hG.S (gw_in (j := i + 4) (by omega) (by omega)) dL_law_1165 ?_
      refine gw_as (y := xs (i + 4)) (congrArg xs (nI_clamp (by omega))) ?_
      refine gw_as hq ?_
      refine gw_calli (va_runV (As := [.int (nI rk), .int (nI ks), .int (xs (i + 3)), .int (nI 2)]) (rest := []) ⟨hx, hb, hml, hown, hts⟩ (m_value2 l K M_531 mo ad _ _ _ _ _ _ _ _ rk ks (xs (i + 3)) hmd1 hrk hks) (cwV 4 hts gL_law_X3_value rfl rfl rfl (by decide +kernel) ⟨Nat.le_of_ble_eq_true rfl, Nat.le_of_ble_eq_true rfl⟩) (gw_preV hG hT hmd1.2.1 rfl) rfl rfl hl.1 rfl (lv_room (Nat.le_of_ble_eq_true rfl)) dL_law_1166 ⟨show 48 + 11 * t + 3 + 0 ≤ 601024 by omega, show 54728 + 662 * t + 18 + 0 ≤ 7293034 by omega⟩) hG (fun r_544 M_545 H locs hw hG => ?_)
      obtain ⟨hv2, hmd2, hf2⟩ := hw
      have heq9 : r0 = r_544 := (val_eq (hv.trans (if_pos (by rw [hq]))) (veq_mko (ii := xs (i + 3)) (hrel.1 rk h6) (hInv.nng (vin_h h6)) (pl := 64 + ks) (b := (414 * rk + 6 + 6 * (64 + ks))) (by omega) (by omega)) (fun j hj => ((hrel.1 rk h6).2.2.1 (ks * 6 + j) (by omega)).trans (congrArg vb (show 24 * rk + (ks * 6 + j) = 24 * rk + 6 * ks + j by omega)))).trans hv2.symm
      obtain ⟨hCS2, hao2⟩ := LJ_mod hCS1 hmd1 hao1 hLR1 hf2
      refine lv_istore (lv' := [(6, .int r_544), (5, .int (nI 0)), (4, .int (nI i)), (3, .ref ao), (2, .ref mo), (1, .ref x), (0, .ref b)]) hx hb dL_law_1169 hl (by decide) rfl (fun ls hl => ?_)
      refine lv_aload_n hx hb dL_law_1171 rfl (lv_at hl 4 rfl) ?_
      refine gw_calli (va_runV (As := []) (rest := []) ⟨hx, hb, hml, hown, hts⟩ (c_thrown l K M_545 mo ad _ _ _ _ _ _ _ _ hmd2) (cwV 0 hts gL_law_X3_thrown rfl rfl rfl (by decide +kernel) ⟨Nat.le_of_ble_eq_true rfl, Nat.le_of_ble_eq_true rfl⟩) (gw_preV hG hT hmd2.2.1 rfl) rfl rfl hl.1 rfl (lv_room (Nat.le_of_ble_eq_true rfl)) dL_law_1172 ⟨show 48 + 11 * t + 3 + 0 ≤ 601024 by omega, show 54728 + 662 * t + 18 + 0 ≤ 7293034 by omega⟩) hG (fun r_546 M_547 H locs hw hG => ?_)
      rw [hw.1] at hG
      refine gw_as hw.2 ?_
      refine lv_iload hx hb dL_law_1175 (lv_at hl 1 rfl) ?_
      refine lv_icmp_eq hx hb (tgt := 1182) dL_law_1177 (by decide) (fun hc => ?_) (fun hc => absurd rfl hc)
      refine lv_iload hx hb dL_law_1182 (lv_at hl 1 rfl) ?_
      refine lv_if_ne hx hb (tgt := 1199) dL_law_1184 (by decide) (fun hc => absurd rfl hc) (fun hc => ?_)
      refine lv_aload_n hx hb dL_law_1187 rfl (lv_at hl 3 rfl) ?_
      refine lv_iconst (v := nI 0) hx hb dL_law_1188 (by decide) ?_
      refine gw_lald_n hx hb hK hG hao2 1 rfl (by omega) (by omega) dL_law_1189 ?_
      refine gw_asl (y := r0.toInt64) (if_pos rfl) ?_
      refine lv_iload hx hb dL_law_1190 (lv_at hl 0 rfl) ?_
      refine lv_i2l hx hb dL_law_1192 rfl ?_
      refine W.lcmp hx hb dL_law_1193 ?_
      refine lv_if_eq hx hb (tgt := 1199) dL_law_1194 (by decide) (fun hc => ?_) (fun hc => absurd (lcmp_of (congrArg Int32.toInt64 heq9)) hc)
      refine lv_goto (tgt := 1549) hx hb dL_law_1199 (by decide) ?_
      refine W.widen (k := 48 + 11 * (t + 1)) (n := 54728 + 662 * (t + 1)) (by omega) (by omega) ?_
      exact kk S M_545 ro _ _ ls ⟨hCS2, ⟨_, _, _, _, _, _, hmd2, hrel⟩, ⟨_, hao2⟩, hLR1, (hInv).mono (Nat.le_succ t)⟩ hG (lv_sub hl [2, 3, 4, 5, 6] rfl)

set_option maxHeartbeats 4000000 in
set_option maxRecDepth 100000 in
theorem law_values {p : Program} {e : Env} {s : State} {m : MethodId} {below : List Frame} {meth : Method} {c : Code} (l : Launch) (hnt : l.stackTraces = false) {b L : Nat} {xs : Nat → Int32} (K : gw_C) (x mo ao : Nat) (ad : Nat → Nat) (S : gst) (t i : Nat) (M : gw_M) (ro : Nat → Nat) (C0 : LC p s m meth c b L xs K) (hi : i + 6 ≤ L) (ht : t ≤ 511) (hJ : LJ K x mo ao ad S t M ro) {H : Heap} {locs : List Loc} (hG : gw_B K M s.heap H locs) {ls : Array Slot} (hl : lv_has ls 7 [(4, .int (nI i)), (3, .ref ao), (2, .ref mo), (1, .ref x), (0, .ref b)]) (kk : LK p l e s m below meth c b K x mo ao ad t i) : W p l e room_1 s m #[Value.ref b] below meth c H locs (48 + 11 * t) (54728 + 662 * t) (lw_Z below #[Value.ref b] s) (F0 m 1202 ls []) := by
  obtain ⟨C1, hT, hA0, hL⟩ := C0
  obtain ⟨hx, hb, hr, hml, hown9, htsA, hX, hbl, hlocks, hgv⟩ := id C1
  have hown : s.vm.findClass RL = some m.cls := hown9
  have hts : ∀ w ∈ wsL_law, w.before #[Value.ref b] s = true := fun w h => htsA w (wsL_law_in w h)
  have hK := hT.K
  have hbA : ¬ gw_A K b := fun q => Nat.not_le.mpr hbl (by rw [← hA0]; exact q)
  obtain ⟨hCS, ⟨cd, tb, vb, sb, fm, tq, hmd, hrel⟩, ⟨o9, hao⟩, hLR, hInv⟩ := hJ
  have hn6 := hmd.1.1
  have hk100 := hmd.1.2
  refine lv_aload_n hx hb dL_law_1202 rfl (lv_at hl 3 rfl) ?_
  refine lv_aload_n hx hb dL_law_1203 rfl (lv_at hl 4 rfl) ?_
  refine lv_iload hx hb dL_law_1204 (lv_at hl 0 rfl) ?_
  refine lv_iconst (v := nI 1) hx hb dL_law_1206 (by decide) ?_
  refine gw_iadd hx hb dL_law_1207 ?_
  refine va_sld hx hb hX hbl hbA hG.S (gw_in (j := i + 1) (by omega) (by omega)) dL_law_1208 ?_
  refine gw_as (y := xs (i + 1)) (congrArg xs (nI_clamp (by omega))) ?_
  refine lv_aload_n hx hb dL_law_1209 rfl (lv_at hl 4 rfl) ?_
  refine lv_iload hx hb dL_law_1210 (lv_at hl 0 rfl) ?_
  refine lv_iconst (v := nI 2) hx hb dL_law_1212 (by decide) ?_
  refine gw_iadd hx hb dL_law_1213 ?_
  refine va_sld hx hb hX hbl hbA hG.S (gw_in (j := i + 2) (by omega) (by omega)) dL_law_1214 ?_
  refine gw_as (y := xs (i + 2)) (congrArg xs (nI_clamp (by omega))) ?_
  refine lv_aload_n hx hb dL_law_1215 rfl (lv_at hl 1 rfl) ?_
  refine gw_xcalli (vx_runSX (As := [.ref x, .int (xs (i + 1)), .int (xs (i + 2)), .ref ao]) (rest := []) ⟨hx, hb, hml, hown, hts⟩ (w_values l hnt K M x ro S (xs (i + 1)) (xs (i + 2)) ao o9 hCS hao hLR.2.2) (vx_cwSW 4 hts gL_law_L_values rfl rfl rfl (by decide +kernel) ⟨Nat.le_of_ble_eq_true rfl, Nat.le_of_ble_eq_true rfl⟩) (gw_preS hG hT) rfl rfl hl.1 rfl (lv_room (Nat.le_of_ble_eq_true rfl)) dL_law_1216 ⟨show 48 + 11 * t + 2 ≤ 601024 by omega, show 54728 + 662 * t + 12 ≤ 7293034 by omega⟩) hG (fun E9 ce9 qx9 M9 H9 locs9 hw hG h7 h8 h9 => hw.elim) (fun r_548 M_549 H locs hw hG => ?_)
  rcases hw with ⟨hr9, hM1, hC⟩ | ⟨hr9, r0, M0, hP, ha0, hM1⟩
  · rw [hM1] at hG
    refine gw_as hr9 ?_
    refine lv_istore (lv' := [(5, .int (nI 1)), (4, .int (nI i)), (3, .ref ao), (2, .ref mo), (1, .ref x), (0, .ref b)]) hx hb dL_law_1219 hl (by decide) rfl (fun ls hl => ?_)
    refine lv_aload_n hx hb dL_law_1221 rfl (lv_at hl 3 rfl) ?_
    refine lv_aload_n hx hb dL_law_1222 rfl (lv_at hl 5 rfl) ?_
    refine lv_iload hx hb dL_law_1223 (lv_at hl 1 rfl) ?_
    refine lv_iconst (v := nI 1) hx hb dL_law_1225 (by decide) ?_
    refine gw_iadd hx hb dL_law_1226 ?_
    refine va_sld hx hb hX hbl hbA hG.S (gw_in (j := i + 1) (by omega) (by omega)) dL_law_1227 ?_
    refine gw_as (y := xs (i + 1)) (congrArg xs (nI_clamp (by omega))) ?_
    refine lv_aload_n hx hb dL_law_1228 rfl (lv_at hl 5 rfl) ?_
    refine lv_iload hx hb dL_law_1229 (lv_at hl 1 rfl) ?_
    refine lv_iconst (v := nI 2) hx hb dL_law_1231 (by decide) ?_
    refine gw_iadd hx hb dL_law_1232 ?_
    refine va_sld hx hb hX hbl hbA hG.S (gw_in (j := i + 2) (by omega) (by omega)) dL_law_1233 ?_
    refine gw_as (y := xs (i + 2)) (congrArg xs (nI_clamp (by omega))) ?_
    refine gw_calli (va_runV (As := [.int (xs (i + 1)), .int (xs (i + 2))]) (rest := []) ⟨hx, hb, hml, hown, hts⟩ (m_values_no l K M mo ad _ _ _ _ _ _ _ _ (xs (i + 1)) (xs (i + 2)) hmd hC) (cwV 2 hts gL_law_X3_values rfl rfl rfl (by decide +kernel) ⟨Nat.le_of_ble_eq_true rfl, Nat.le_of_ble_eq_true rfl⟩) (gw_preV hG hT hmd.2.1 rfl) rfl rfl hl.1 rfl (lv_room (Nat.le_of_ble_eq_true rfl)) dL_law_1234 ⟨show 48 + 11 * t + 2 + 0 ≤ 601024 by omega, show 54728 + 662 * t + 12 + 0 ≤ 7293034 by omega⟩) hG (fun r_550 M_551 H locs hw hG => ?_)
    obtain ⟨hmd2, hf2⟩ := hw
    obtain ⟨hCS2, hao2⟩ := LJ_mod hCS hmd hao hLR hf2
    refine lv_istore (lv' := [(6, .int r_550), (5, .int (nI 1)), (4, .int (nI i)), (3, .ref ao), (2, .ref mo), (1, .ref x), (0, .ref b)]) hx hb dL_law_1237 hl (by decide) rfl (fun ls hl => ?_)
    refine lv_aload_n hx hb dL_law_1239 rfl (lv_at hl 4 rfl) ?_
    refine gw_calli (va_runV (As := []) (rest := []) ⟨hx, hb, hml, hown, hts⟩ (c_thrown l K M_551 mo ad _ _ _ _ _ _ _ _ hmd2) (cwV 0 hts gL_law_X3_thrown rfl rfl rfl (by decide +kernel) ⟨Nat.le_of_ble_eq_true rfl, Nat.le_of_ble_eq_true rfl⟩) (gw_preV hG hT hmd2.2.1 rfl) rfl rfl hl.1 rfl (lv_room (Nat.le_of_ble_eq_true rfl)) dL_law_1240 ⟨show 48 + 11 * t + 2 + 0 ≤ 601024 by omega, show 54728 + 662 * t + 12 + 0 ≤ 7293034 by omega⟩) hG (fun r_552 M_553 H locs hw hG => ?_)
    rw [hw.1] at hG
    refine gw_as hw.2 ?_
    refine lv_iload hx hb dL_law_1243 (lv_at hl 1 rfl) ?_
    refine lv_icmp_eq hx hb (tgt := 1250) dL_law_1245 (by decide) (fun hc => ?_) (fun hc => absurd rfl hc)
    refine lv_iload hx hb dL_law_1250 (lv_at hl 1 rfl) ?_
    refine lv_if_ne hx hb (tgt := 1267) dL_law_1252 (by decide) (fun hc => ?_) (fun hc => absurd hc (by decide))
    refine lv_goto (tgt := 1549) hx hb dL_law_1267 (by decide) ?_
    refine W.widen (k := 48 + 11 * (t + 1)) (n := 54728 + 662 * (t + 1)) (by omega) (by omega) ?_
    exact kk S M_551 ro _ _ ls ⟨hCS2, ⟨_, _, _, _, _, _, hmd2, hrel⟩, ⟨_, hao2⟩, hLR, (hInv).mono (Nat.le_succ t)⟩ hG (lv_sub hl [2, 3, 4, 5, 6] rfl)
  · refine gw_as hr9 ?_
    obtain ⟨hM0, rk, ks, ⟨hrk, e1⟩, ⟨hks, e2⟩, hv⟩ := hP
    have h6 : rk < 6 := by omega
    obtain ⟨hCS1, hmd1, hao1, hLR1⟩ := LJ_out (e := .inl (K.2.1 1, 1, .inr (.inl (vp_updL o9 0 r0.toInt64)))) (show CS K M0 ro x S by rw [hM0]; exact hCS) (show ofr 60 1000 M M0 ro ro by rw [hM0]; exact ofr.rf) hmd hao ha0 hLR
    rw [← hM1] at hCS1 hmd1 hao1
    refine lv_istore (lv' := [(5, .int (nI 0)), (4, .int (nI i)), (3, .ref ao), (2, .ref mo), (1, .ref x), (0, .ref b)]) hx hb dL_law_1219 hl (by decide) rfl (fun ls hl => ?_)
    refine lv_aload_n hx hb dL_law_1221 rfl (lv_at hl 3 rfl) ?_
    refine lv_aload_n hx hb dL_law_1222 rfl (lv_at hl 5 rfl) ?_
    refine lv_iload hx hb dL_law_1223 (lv_at hl 1 rfl) ?_
    refine lv_iconst (v := nI 1) hx hb dL_law_1225 (by decide) ?_
    refine gw_iadd hx hb dL_law_1226 ?_
    refine va_sld hx hb hX hbl hbA hG.S (gw_in (j := i + 1) (by omega) (by omega)) dL_law_1227 ?_
    refine gw_as (y := xs (i + 1)) (congrArg xs (nI_clamp (by omega))) ?_
    refine gw_as e1 ?_
    refine lv_aload_n hx hb dL_law_1228 rfl (lv_at hl 5 rfl) ?_
    refine lv_iload hx hb dL_law_1229 (lv_at hl 1 rfl) ?_
    refine lv_iconst (v := nI 2) hx hb dL_law_1231 (by decide) ?_
    refine gw_iadd hx hb dL_law_1232 ?_
    refine va_sld hx hb hX hbl hbA hG.S (gw_in (j := i + 2) (by omega) (by omega)) dL_law_1233 ?_
    refine gw_as (y := xs (i + 2)) (congrArg xs (nI_clamp (by omega))) ?_
    refine gw_as e2 ?_
    refine gw_calli (va_runV (As := [.int (nI rk), .int (nI ks)]) (rest := []) ⟨hx, hb, hml, hown, hts⟩ (m_values l K M_549 mo ad _ _ _ _ _ _ _ _ rk ks hmd1 hrk hks) (cwV 2 hts gL_law_X3_values rfl rfl rfl (by decide +kernel) ⟨Nat.le_of_ble_eq_true rfl, Nat.le_of_ble_eq_true rfl⟩) (gw_preV hG hT hmd1.2.1 rfl) rfl rfl hl.1 rfl (lv_room (Nat.le_of_ble_eq_true rfl)) dL_law_1234 ⟨show 48 + 11 * t + 2 + 0 ≤ 601024 by omega, show 54728 + 662 * t + 12 + 0 ≤ 7293034 by omega⟩) hG (fun r_554 M_555 H locs hw hG => ?_)
    obtain ⟨hv2, hmd2, hf2⟩ := hw
    have heq9 : r0 = r_554 := (hv.trans (congrArg nI (veq_dcnt (hrel.1 rk h6) (hInv.nng (vin_h h6)) (by omega) (by omega)))).trans hv2.symm
    obtain ⟨hCS2, hao2⟩ := LJ_mod hCS1 hmd1 hao1 hLR1 hf2
    refine lv_istore (lv' := [(6, .int r_554), (5, .int (nI 0)), (4, .int (nI i)), (3, .ref ao), (2, .ref mo), (1, .ref x), (0, .ref b)]) hx hb dL_law_1237 hl (by decide) rfl (fun ls hl => ?_)
    refine lv_aload_n hx hb dL_law_1239 rfl (lv_at hl 4 rfl) ?_
    refine gw_calli (va_runV (As := []) (rest := []) ⟨hx, hb, hml, hown, hts⟩ (c_thrown l K M_555 mo ad _ _ _ _ _ _ _ _ hmd2) (cwV 0 hts gL_law_X3_thrown rfl rfl rfl (by decide +kernel) ⟨Nat.le_of_ble_eq_true rfl, Nat.le_of_ble_eq_true rfl⟩) (gw_preV hG hT hmd2.2.1 rfl) rfl rfl hl.1 rfl (lv_room (Nat.le_of_ble_eq_true rfl)) dL_law_1240 ⟨show 48 + 11 * t + 2 + 0 ≤ 601024 by omega, show 54728 + 662 * t + 12 + 0 ≤ 7293034 by omega⟩) hG (fun r_556 M_557 H locs hw hG => ?_)
    rw [hw.1] at hG
    refine gw_as hw.2 ?_
    refine lv_iload hx hb dL_law_1243 (lv_at hl 1 rfl) ?_
    refine lv_icmp_eq hx hb (tgt := 1250) dL_law_1245 (by decide) (fun hc => ?_) (fun hc => absurd rfl hc)
    refine lv_iload hx hb dL_law_1250 (lv_at hl 1 rfl) ?_
    refine lv_if_ne hx hb (tgt := 1267) dL_law_1252 (by decide) (fun hc => absurd rfl hc) (fun hc => ?_)
    refine lv_aload_n hx hb dL_law_1255 rfl (lv_at hl 3 rfl) ?_
    refine lv_iconst (v := nI 0) hx hb dL_law_1256 (by decide) ?_
    refine gw_lald_n hx hb hK hG hao2 1 rfl (by omega) (by omega) dL_law_1257 ?_
    refine gw_asl (y := r0.toInt64) (if_pos rfl) ?_
    refine lv_iload hx hb dL_law_1258 (lv_at hl 0 rfl) ?_
    refine lv_i2l hx hb dL_law_1260 rfl ?_
    refine W.lcmp hx hb dL_law_1261 ?_
    refine lv_if_eq hx hb (tgt := 1267) dL_law_1262 (by decide) (fun hc => ?_) (fun hc => absurd (lcmp_of (congrArg Int32.toInt64 heq9)) hc)
    refine lv_goto (tgt := 1549) hx hb dL_law_1267 (by decide) ?_
    refine W.widen (k := 48 + 11 * (t + 1)) (n := 54728 + 662 * (t + 1)) (by omega) (by omega) ?_
    exact kk S M_555 ro _ _ ls ⟨hCS2, ⟨_, _, _, _, _, _, hmd2, hrel⟩, ⟨_, hao2⟩, hLR1, (hInv).mono (Nat.le_succ t)⟩ hG (lv_sub hl [2, 3, 4, 5, 6] rfl)

set_option maxHeartbeats 4000000 in
set_option maxRecDepth 100000 in
theorem law_total {p : Program} {e : Env} {s : State} {m : MethodId} {below : List Frame} {meth : Method} {c : Code} (l : Launch) (hnt : l.stackTraces = false) {b L : Nat} {xs : Nat → Int32} (K : gw_C) (x mo ao : Nat) (ad : Nat → Nat) (S : gst) (t i : Nat) (M : gw_M) (ro : Nat → Nat) (C0 : LC p s m meth c b L xs K) (hi : i + 6 ≤ L) (ht : t ≤ 511) (hJ : LJ K x mo ao ad S t M ro) {H : Heap} {locs : List Loc} (hG : gw_B K M s.heap H locs) {ls : Array Slot} (hl : lv_has ls 7 [(4, .int (nI i)), (3, .ref ao), (2, .ref mo), (1, .ref x), (0, .ref b)]) (kk : LK p l e s m below meth c b K x mo ao ad t i) : W p l e room_1 s m #[Value.ref b] below meth c H locs (48 + 11 * t) (54728 + 662 * t) (lw_Z below #[Value.ref b] s) (F0 m 1270 ls []) := by
  obtain ⟨C1, hT, hA0, hL⟩ := C0
  obtain ⟨hx, hb, hr, hml, hown9, htsA, hX, hbl, hlocks, hgv⟩ := id C1
  have hown : s.vm.findClass RL = some m.cls := hown9
  have hts : ∀ w ∈ wsL_law, w.before #[Value.ref b] s = true := fun w h => htsA w (wsL_law_in w h)
  have hK := hT.K
  have hbA : ¬ gw_A K b := fun q => Nat.not_le.mpr hbl (by rw [← hA0]; exact q)
  obtain ⟨hCS, ⟨cd, tb, vb, sb, fm, tq, hmd, hrel⟩, ⟨o9, hao⟩, hLR, hInv⟩ := hJ
  have hn6 := hmd.1.1
  have hk100 := hmd.1.2
  refine lv_aload_n hx hb dL_law_1270 rfl (lv_at hl 3 rfl) ?_
  refine lv_aload_n hx hb dL_law_1271 rfl (lv_at hl 4 rfl) ?_
  refine lv_iload hx hb dL_law_1272 (lv_at hl 0 rfl) ?_
  refine lv_iconst (v := nI 1) hx hb dL_law_1274 (by decide) ?_
  refine gw_iadd hx hb dL_law_1275 ?_
  refine va_sld hx hb hX hbl hbA hG.S (gw_in (j := i + 1) (by omega) (by omega)) dL_law_1276 ?_
  refine gw_as (y := xs (i + 1)) (congrArg xs (nI_clamp (by omega))) ?_
  refine lv_aload_n hx hb dL_law_1277 rfl (lv_at hl 4 rfl) ?_
  refine lv_iload hx hb dL_law_1278 (lv_at hl 0 rfl) ?_
  refine lv_iconst (v := nI 2) hx hb dL_law_1280 (by decide) ?_
  refine gw_iadd hx hb dL_law_1281 ?_
  refine va_sld hx hb hX hbl hbA hG.S (gw_in (j := i + 2) (by omega) (by omega)) dL_law_1282 ?_
  refine gw_as (y := xs (i + 2)) (congrArg xs (nI_clamp (by omega))) ?_
  refine lv_aload_n hx hb dL_law_1283 rfl (lv_at hl 1 rfl) ?_
  refine gw_xcalli (vx_runSX (As := [.ref x, .int (xs (i + 1)), .int (xs (i + 2)), .ref ao]) (rest := []) ⟨hx, hb, hml, hown, hts⟩ (w_total l hnt K M x ro S (xs (i + 1)) (xs (i + 2)) ao o9 hCS hao hLR.2.2) (vx_cwSW 4 hts gL_law_L_total rfl rfl rfl (by decide +kernel) ⟨Nat.le_of_ble_eq_true rfl, Nat.le_of_ble_eq_true rfl⟩) (gw_preS hG hT) rfl rfl hl.1 rfl (lv_room (Nat.le_of_ble_eq_true rfl)) dL_law_1284 ⟨show 48 + 11 * t + 2 ≤ 601024 by omega, show 54728 + 662 * t + 12 ≤ 7293034 by omega⟩) hG (fun E9 ce9 qx9 M9 H9 locs9 hw hG h7 h8 h9 => hw.elim) (fun r_558 M_559 H locs hw hG => ?_)
  rcases hw with ⟨hr9, hM1, hC⟩ | ⟨hr9, r0, M0, hP, ha0, hM1⟩
  · rw [hM1] at hG
    refine gw_as hr9 ?_
    refine lv_istore (lv' := [(5, .int (nI 1)), (4, .int (nI i)), (3, .ref ao), (2, .ref mo), (1, .ref x), (0, .ref b)]) hx hb dL_law_1287 hl (by decide) rfl (fun ls hl => ?_)
    refine lv_aload_n hx hb dL_law_1289 rfl (lv_at hl 3 rfl) ?_
    refine lv_aload_n hx hb dL_law_1290 rfl (lv_at hl 5 rfl) ?_
    refine lv_iload hx hb dL_law_1291 (lv_at hl 1 rfl) ?_
    refine lv_iconst (v := nI 1) hx hb dL_law_1293 (by decide) ?_
    refine gw_iadd hx hb dL_law_1294 ?_
    refine va_sld hx hb hX hbl hbA hG.S (gw_in (j := i + 1) (by omega) (by omega)) dL_law_1295 ?_
    refine gw_as (y := xs (i + 1)) (congrArg xs (nI_clamp (by omega))) ?_
    refine lv_aload_n hx hb dL_law_1296 rfl (lv_at hl 5 rfl) ?_
    refine lv_iload hx hb dL_law_1297 (lv_at hl 1 rfl) ?_
    refine lv_iconst (v := nI 2) hx hb dL_law_1299 (by decide) ?_
    refine gw_iadd hx hb dL_law_1300 ?_
    refine va_sld hx hb hX hbl hbA hG.S (gw_in (j := i + 2) (by omega) (by omega)) dL_law_1301 ?_
    refine gw_as (y := xs (i + 2)) (congrArg xs (nI_clamp (by omega))) ?_
    refine gw_calli (va_runV (As := [.int (xs (i + 1)), .int (xs (i + 2))]) (rest := []) ⟨hx, hb, hml, hown, hts⟩ (m_total_no l K M mo ad _ _ _ _ _ _ _ _ (xs (i + 1)) (xs (i + 2)) hmd hC) (cwV 2 hts gL_law_X3_total rfl rfl rfl (by decide +kernel) ⟨Nat.le_of_ble_eq_true rfl, Nat.le_of_ble_eq_true rfl⟩) (gw_preV hG hT hmd.2.1 rfl) rfl rfl hl.1 rfl (lv_room (Nat.le_of_ble_eq_true rfl)) dL_law_1302 ⟨show 48 + 11 * t + 2 + 0 ≤ 601024 by omega, show 54728 + 662 * t + 12 + 0 ≤ 7293034 by omega⟩) hG (fun r_560 M_561 H locs hw hG => ?_)
    obtain ⟨hmd2, hf2⟩ := hw
    obtain ⟨hCS2, hao2⟩ := LJ_mod hCS hmd hao hLR hf2
    refine lv_istore (lv' := [(6, .int r_560), (5, .int (nI 1)), (4, .int (nI i)), (3, .ref ao), (2, .ref mo), (1, .ref x), (0, .ref b)]) hx hb dL_law_1305 hl (by decide) rfl (fun ls hl => ?_)
    refine lv_aload_n hx hb dL_law_1307 rfl (lv_at hl 4 rfl) ?_
    refine gw_calli (va_runV (As := []) (rest := []) ⟨hx, hb, hml, hown, hts⟩ (c_thrown l K M_561 mo ad _ _ _ _ _ _ _ _ hmd2) (cwV 0 hts gL_law_X3_thrown rfl rfl rfl (by decide +kernel) ⟨Nat.le_of_ble_eq_true rfl, Nat.le_of_ble_eq_true rfl⟩) (gw_preV hG hT hmd2.2.1 rfl) rfl rfl hl.1 rfl (lv_room (Nat.le_of_ble_eq_true rfl)) dL_law_1308 ⟨show 48 + 11 * t + 2 + 0 ≤ 601024 by omega, show 54728 + 662 * t + 12 + 0 ≤ 7293034 by omega⟩) hG (fun r_562 M_563 H locs hw hG => ?_)
    rw [hw.1] at hG
    refine gw_as hw.2 ?_
    refine lv_iload hx hb dL_law_1311 (lv_at hl 1 rfl) ?_
    refine lv_icmp_eq hx hb (tgt := 1318) dL_law_1313 (by decide) (fun hc => ?_) (fun hc => absurd rfl hc)
    refine lv_iload hx hb dL_law_1318 (lv_at hl 1 rfl) ?_
    refine lv_if_ne hx hb (tgt := 1335) dL_law_1320 (by decide) (fun hc => ?_) (fun hc => absurd hc (by decide))
    refine lv_goto (tgt := 1549) hx hb dL_law_1335 (by decide) ?_
    refine W.widen (k := 48 + 11 * (t + 1)) (n := 54728 + 662 * (t + 1)) (by omega) (by omega) ?_
    exact kk S M_561 ro _ _ ls ⟨hCS2, ⟨_, _, _, _, _, _, hmd2, hrel⟩, ⟨_, hao2⟩, hLR, (hInv).mono (Nat.le_succ t)⟩ hG (lv_sub hl [2, 3, 4, 5, 6] rfl)
  · refine gw_as hr9 ?_
    obtain ⟨hM0, rk, ks, ⟨hrk, e1⟩, ⟨hks, e2⟩, hv⟩ := hP
    have h6 : rk < 6 := by omega
    obtain ⟨hCS1, hmd1, hao1, hLR1⟩ := LJ_out (e := .inl (K.2.1 1, 1, .inr (.inl (vp_updL o9 0 r0.toInt64)))) (show CS K M0 ro x S by rw [hM0]; exact hCS) (show ofr 60 1000 M M0 ro ro by rw [hM0]; exact ofr.rf) hmd hao ha0 hLR
    rw [← hM1] at hCS1 hmd1 hao1
    refine lv_istore (lv' := [(5, .int (nI 0)), (4, .int (nI i)), (3, .ref ao), (2, .ref mo), (1, .ref x), (0, .ref b)]) hx hb dL_law_1287 hl (by decide) rfl (fun ls hl => ?_)
    refine lv_aload_n hx hb dL_law_1289 rfl (lv_at hl 3 rfl) ?_
    refine lv_aload_n hx hb dL_law_1290 rfl (lv_at hl 5 rfl) ?_
    refine lv_iload hx hb dL_law_1291 (lv_at hl 1 rfl) ?_
    refine lv_iconst (v := nI 1) hx hb dL_law_1293 (by decide) ?_
    refine gw_iadd hx hb dL_law_1294 ?_
    refine va_sld hx hb hX hbl hbA hG.S (gw_in (j := i + 1) (by omega) (by omega)) dL_law_1295 ?_
    refine gw_as (y := xs (i + 1)) (congrArg xs (nI_clamp (by omega))) ?_
    refine gw_as e1 ?_
    refine lv_aload_n hx hb dL_law_1296 rfl (lv_at hl 5 rfl) ?_
    refine lv_iload hx hb dL_law_1297 (lv_at hl 1 rfl) ?_
    refine lv_iconst (v := nI 2) hx hb dL_law_1299 (by decide) ?_
    refine gw_iadd hx hb dL_law_1300 ?_
    refine va_sld hx hb hX hbl hbA hG.S (gw_in (j := i + 2) (by omega) (by omega)) dL_law_1301 ?_
    refine gw_as (y := xs (i + 2)) (congrArg xs (nI_clamp (by omega))) ?_
    refine gw_as e2 ?_
    refine gw_calli (va_runV (As := [.int (nI rk), .int (nI ks)]) (rest := []) ⟨hx, hb, hml, hown, hts⟩ (m_total l K M_559 mo ad _ _ _ _ _ _ _ _ rk ks hmd1 hrk hks) (cwV 2 hts gL_law_X3_total rfl rfl rfl (by decide +kernel) ⟨Nat.le_of_ble_eq_true rfl, Nat.le_of_ble_eq_true rfl⟩) (gw_preV hG hT hmd1.2.1 rfl) rfl rfl hl.1 rfl (lv_room (Nat.le_of_ble_eq_true rfl)) dL_law_1302 ⟨show 48 + 11 * t + 2 + 0 ≤ 601024 by omega, show 54728 + 662 * t + 12 + 0 ≤ 7293034 by omega⟩) hG (fun r_564 M_565 H locs hw hG => ?_)
    obtain ⟨hv2, hmd2, hf2⟩ := hw
    have heq9 : r0 = r_564 := (hv.trans (congrArg Int64.toInt32 (veq_wsum (hrel.1 rk h6) hks))).trans hv2.symm
    obtain ⟨hCS2, hao2⟩ := LJ_mod hCS1 hmd1 hao1 hLR1 hf2
    refine lv_istore (lv' := [(6, .int r_564), (5, .int (nI 0)), (4, .int (nI i)), (3, .ref ao), (2, .ref mo), (1, .ref x), (0, .ref b)]) hx hb dL_law_1305 hl (by decide) rfl (fun ls hl => ?_)
    refine lv_aload_n hx hb dL_law_1307 rfl (lv_at hl 4 rfl) ?_
    refine gw_calli (va_runV (As := []) (rest := []) ⟨hx, hb, hml, hown, hts⟩ (c_thrown l K M_565 mo ad _ _ _ _ _ _ _ _ hmd2) (cwV 0 hts gL_law_X3_thrown rfl rfl rfl (by decide +kernel) ⟨Nat.le_of_ble_eq_true rfl, Nat.le_of_ble_eq_true rfl⟩) (gw_preV hG hT hmd2.2.1 rfl) rfl rfl hl.1 rfl (lv_room (Nat.le_of_ble_eq_true rfl)) dL_law_1308 ⟨show 48 + 11 * t + 2 + 0 ≤ 601024 by omega, show 54728 + 662 * t + 12 + 0 ≤ 7293034 by omega⟩) hG (fun r_566 M_567 H locs hw hG => ?_)
    rw [hw.1] at hG
    refine gw_as hw.2 ?_
    refine lv_iload hx hb dL_law_1311 (lv_at hl 1 rfl) ?_
    refine lv_icmp_eq hx hb (tgt := 1318) dL_law_1313 (by decide) (fun hc => ?_) (fun hc => absurd rfl hc)
    refine lv_iload hx hb dL_law_1318 (lv_at hl 1 rfl) ?_
    refine lv_if_ne hx hb (tgt := 1335) dL_law_1320 (by decide) (fun hc => absurd rfl hc) (fun hc => ?_)
    refine lv_aload_n hx hb dL_law_1323 rfl (lv_at hl 3 rfl) ?_
    refine lv_iconst (v := nI 0) hx hb dL_law_1324 (by decide) ?_
    refine gw_lald_n hx hb hK hG hao2 1 rfl (by omega) (by omega) dL_law_1325 ?_
    refine gw_asl (y := r0.toInt64) (if_pos rfl) ?_
    refine lv_iload hx hb dL_law_1326 (lv_at hl 0 rfl) ?_
    refine lv_i2l hx hb dL_law_1328 rfl ?_
    refine W.lcmp hx hb dL_law_1329 ?_
    refine lv_if_eq hx hb (tgt := 1335) dL_law_1330 (by decide) (fun hc => ?_) (fun hc => absurd (lcmp_of (congrArg Int32.toInt64 heq9)) hc)
    refine lv_goto (tgt := 1549) hx hb dL_law_1335 (by decide) ?_
    refine W.widen (k := 48 + 11 * (t + 1)) (n := 54728 + 662 * (t + 1)) (by omega) (by omega) ?_
    exact kk S M_565 ro _ _ ls ⟨hCS2, ⟨_, _, _, _, _, _, hmd2, hrel⟩, ⟨_, hao2⟩, hLR1, (hInv).mono (Nat.le_succ t)⟩ hG (lv_sub hl [2, 3, 4, 5, 6] rfl)

set_option maxHeartbeats 4000000 in
set_option maxRecDepth 100000 in
theorem law_vector {p : Program} {e : Env} {s : State} {m : MethodId} {below : List Frame} {meth : Method} {c : Code} (l : Launch) (hnt : l.stackTraces = false) {b L : Nat} {xs : Nat → Int32} (K : gw_C) (x mo ao : Nat) (ad : Nat → Nat) (S : gst) (t i : Nat) (M : gw_M) (ro : Nat → Nat) (C0 : LC p s m meth c b L xs K) (hi : i + 6 ≤ L) (ht : t ≤ 511) (hJ : LJ K x mo ao ad S t M ro) {H : Heap} {locs : List Loc} (hG : gw_B K M s.heap H locs) {ls : Array Slot} (hl : lv_has ls 7 [(4, .int (nI i)), (3, .ref ao), (2, .ref mo), (1, .ref x), (0, .ref b)]) (kk : LK p l e s m below meth c b K x mo ao ad t i) : W p l e room_1 s m #[Value.ref b] below meth c H locs (48 + 11 * t) (54728 + 662 * t) (lw_Z below #[Value.ref b] s) (F0 m 1338 ls []) := by
  obtain ⟨C1, hT, hA0, hL⟩ := C0
  obtain ⟨hx, hb, hr, hml, hown9, htsA, hX, hbl, hlocks, hgv⟩ := id C1
  have hown : s.vm.findClass RL = some m.cls := hown9
  have hts : ∀ w ∈ wsL_law, w.before #[Value.ref b] s = true := fun w h => htsA w (wsL_law_in w h)
  have hK := hT.K
  have hbA : ¬ gw_A K b := fun q => Nat.not_le.mpr hbl (by rw [← hA0]; exact q)
  obtain ⟨hCS, ⟨cd, tb, vb, sb, fm, tq, hmd, hrel⟩, ⟨o9, hao⟩, hLR, hInv⟩ := hJ
  have hn6 := hmd.1.1
  have hk100 := hmd.1.2
  refine lv_aload_n hx hb dL_law_1338 rfl (lv_at hl 3 rfl) ?_
  refine lv_aload_n hx hb dL_law_1339 rfl (lv_at hl 4 rfl) ?_
  refine lv_iload hx hb dL_law_1340 (lv_at hl 0 rfl) ?_
  refine lv_iconst (v := nI 1) hx hb dL_law_1342 (by decide) ?_
  refine gw_iadd hx hb dL_law_1343 ?_
  refine va_sld hx hb hX hbl hbA hG.S (gw_in (j := i + 1) (by omega) (by omega)) dL_law_1344 ?_
  refine gw_as (y := xs (i + 1)) (congrArg xs (nI_clamp (by omega))) ?_
  refine lv_aload_n hx hb dL_law_1345 rfl (lv_at hl 4 rfl) ?_
  refine lv_iload hx hb dL_law_1346 (lv_at hl 0 rfl) ?_
  refine lv_iconst (v := nI 2) hx hb dL_law_1348 (by decide) ?_
  refine gw_iadd hx hb dL_law_1349 ?_
  refine va_sld hx hb hX hbl hbA hG.S (gw_in (j := i + 2) (by omega) (by omega)) dL_law_1350 ?_
  refine gw_as (y := xs (i + 2)) (congrArg xs (nI_clamp (by omega))) ?_
  refine lv_aload_n hx hb dL_law_1351 rfl (lv_at hl 1 rfl) ?_
  refine gw_xcalli (vx_runSX (As := [.ref x, .int (xs (i + 1)), .int (xs (i + 2)), .ref ao]) (rest := []) ⟨hx, hb, hml, hown, hts⟩ (w_vector l hnt K M x ro S (xs (i + 1)) (xs (i + 2)) ao o9 hCS hao hLR.2.2) (vx_cwSW 4 hts gL_law_L_vector rfl rfl rfl (by decide +kernel) ⟨Nat.le_of_ble_eq_true rfl, Nat.le_of_ble_eq_true rfl⟩) (gw_preS hG hT) rfl rfl hl.1 rfl (lv_room (Nat.le_of_ble_eq_true rfl)) dL_law_1352 ⟨show 48 + 11 * t + 2 ≤ 601024 by omega, show 54728 + 662 * t + 12 ≤ 7293034 by omega⟩) hG (fun E9 ce9 qx9 M9 H9 locs9 hw hG h7 h8 h9 => hw.elim) (fun r_568 M_569 H locs hw hG => ?_)
  rcases hw with ⟨hr9, hM1, hC⟩ | ⟨hr9, r0, M0, hP, ha0, hM1⟩
  · rw [hM1] at hG
    refine gw_as hr9 ?_
    refine lv_istore (lv' := [(5, .int (nI 1)), (4, .int (nI i)), (3, .ref ao), (2, .ref mo), (1, .ref x), (0, .ref b)]) hx hb dL_law_1355 hl (by decide) rfl (fun ls hl => ?_)
    refine lv_aload_n hx hb dL_law_1357 rfl (lv_at hl 3 rfl) ?_
    refine lv_aload_n hx hb dL_law_1358 rfl (lv_at hl 5 rfl) ?_
    refine lv_iload hx hb dL_law_1359 (lv_at hl 1 rfl) ?_
    refine lv_iconst (v := nI 1) hx hb dL_law_1361 (by decide) ?_
    refine gw_iadd hx hb dL_law_1362 ?_
    refine va_sld hx hb hX hbl hbA hG.S (gw_in (j := i + 1) (by omega) (by omega)) dL_law_1363 ?_
    refine gw_as (y := xs (i + 1)) (congrArg xs (nI_clamp (by omega))) ?_
    refine lv_aload_n hx hb dL_law_1364 rfl (lv_at hl 5 rfl) ?_
    refine lv_iload hx hb dL_law_1365 (lv_at hl 1 rfl) ?_
    refine lv_iconst (v := nI 2) hx hb dL_law_1367 (by decide) ?_
    refine gw_iadd hx hb dL_law_1368 ?_
    refine va_sld hx hb hX hbl hbA hG.S (gw_in (j := i + 2) (by omega) (by omega)) dL_law_1369 ?_
    refine gw_as (y := xs (i + 2)) (congrArg xs (nI_clamp (by omega))) ?_
    refine gw_calli (va_runV (As := [.int (xs (i + 1)), .int (xs (i + 2))]) (rest := []) ⟨hx, hb, hml, hown, hts⟩ (m_vector_no l K M mo ad _ _ _ _ _ _ _ _ (xs (i + 1)) (xs (i + 2)) hmd hC) (cwV 2 hts gL_law_X3_vector rfl rfl rfl (by decide +kernel) ⟨Nat.le_of_ble_eq_true rfl, Nat.le_of_ble_eq_true rfl⟩) (gw_preV hG hT hmd.2.1 rfl) rfl rfl hl.1 rfl (lv_room (Nat.le_of_ble_eq_true rfl)) dL_law_1370 ⟨show 48 + 11 * t + 2 + 0 ≤ 601024 by omega, show 54728 + 662 * t + 12 + 0 ≤ 7293034 by omega⟩) hG (fun r_570 M_571 H locs hw hG => ?_)
    obtain ⟨hmd2, hf2⟩ := hw
    obtain ⟨hCS2, hao2⟩ := LJ_mod hCS hmd hao hLR hf2
    refine lv_istore (lv' := [(6, .int r_570), (5, .int (nI 1)), (4, .int (nI i)), (3, .ref ao), (2, .ref mo), (1, .ref x), (0, .ref b)]) hx hb dL_law_1373 hl (by decide) rfl (fun ls hl => ?_)
    refine lv_aload_n hx hb dL_law_1375 rfl (lv_at hl 4 rfl) ?_
    refine gw_calli (va_runV (As := []) (rest := []) ⟨hx, hb, hml, hown, hts⟩ (c_thrown l K M_571 mo ad _ _ _ _ _ _ _ _ hmd2) (cwV 0 hts gL_law_X3_thrown rfl rfl rfl (by decide +kernel) ⟨Nat.le_of_ble_eq_true rfl, Nat.le_of_ble_eq_true rfl⟩) (gw_preV hG hT hmd2.2.1 rfl) rfl rfl hl.1 rfl (lv_room (Nat.le_of_ble_eq_true rfl)) dL_law_1376 ⟨show 48 + 11 * t + 2 + 0 ≤ 601024 by omega, show 54728 + 662 * t + 12 + 0 ≤ 7293034 by omega⟩) hG (fun r_572 M_573 H locs hw hG => ?_)
    rw [hw.1] at hG
    refine gw_as hw.2 ?_
    refine lv_iload hx hb dL_law_1379 (lv_at hl 1 rfl) ?_
    refine lv_icmp_eq hx hb (tgt := 1386) dL_law_1381 (by decide) (fun hc => ?_) (fun hc => absurd rfl hc)
    refine lv_iload hx hb dL_law_1386 (lv_at hl 1 rfl) ?_
    refine lv_if_ne hx hb (tgt := 1403) dL_law_1388 (by decide) (fun hc => ?_) (fun hc => absurd hc (by decide))
    refine lv_goto (tgt := 1549) hx hb dL_law_1403 (by decide) ?_
    refine W.widen (k := 48 + 11 * (t + 1)) (n := 54728 + 662 * (t + 1)) (by omega) (by omega) ?_
    exact kk S M_571 ro _ _ ls ⟨hCS2, ⟨_, _, _, _, _, _, hmd2, hrel⟩, ⟨_, hao2⟩, hLR, (hInv).mono (Nat.le_succ t)⟩ hG (lv_sub hl [2, 3, 4, 5, 6] rfl)
  · refine gw_as hr9 ?_
    obtain ⟨hM0, rk, rj, ⟨hrk, e1⟩, ⟨hrj, e2⟩, hv⟩ := hP
    have h6 : rk < 6 := by omega
    obtain ⟨hCS1, hmd1, hao1, hLR1⟩ := LJ_out (e := .inl (K.2.1 1, 1, .inr (.inl (vp_updL o9 0 r0.toInt64)))) (show CS K M0 ro x S by rw [hM0]; exact hCS) (show ofr 60 1000 M M0 ro ro by rw [hM0]; exact ofr.rf) hmd hao ha0 hLR
    rw [← hM1] at hCS1 hmd1 hao1
    refine lv_istore (lv' := [(5, .int (nI 0)), (4, .int (nI i)), (3, .ref ao), (2, .ref mo), (1, .ref x), (0, .ref b)]) hx hb dL_law_1355 hl (by decide) rfl (fun ls hl => ?_)
    refine lv_aload_n hx hb dL_law_1357 rfl (lv_at hl 3 rfl) ?_
    refine lv_aload_n hx hb dL_law_1358 rfl (lv_at hl 5 rfl) ?_
    refine lv_iload hx hb dL_law_1359 (lv_at hl 1 rfl) ?_
    refine lv_iconst (v := nI 1) hx hb dL_law_1361 (by decide) ?_
    refine gw_iadd hx hb dL_law_1362 ?_
    refine va_sld hx hb hX hbl hbA hG.S (gw_in (j := i + 1) (by omega) (by omega)) dL_law_1363 ?_
    refine gw_as (y := xs (i + 1)) (congrArg xs (nI_clamp (by omega))) ?_
    refine gw_as e1 ?_
    refine lv_aload_n hx hb dL_law_1364 rfl (lv_at hl 5 rfl) ?_
    refine lv_iload hx hb dL_law_1365 (lv_at hl 1 rfl) ?_
    refine lv_iconst (v := nI 2) hx hb dL_law_1367 (by decide) ?_
    refine gw_iadd hx hb dL_law_1368 ?_
    refine va_sld hx hb hX hbl hbA hG.S (gw_in (j := i + 2) (by omega) (by omega)) dL_law_1369 ?_
    refine gw_as (y := xs (i + 2)) (congrArg xs (nI_clamp (by omega))) ?_
    refine gw_as e2 ?_
    refine gw_calli (va_runV (As := [.int (nI rk), .int (nI rj)]) (rest := []) ⟨hx, hb, hml, hown, hts⟩ (m_vector l K M_569 mo ad _ _ _ _ _ _ _ _ rk rj hmd1 hrk hrj) (cwV 2 hts gL_law_X3_vector rfl rfl rfl (by decide +kernel) ⟨Nat.le_of_ble_eq_true rfl, Nat.le_of_ble_eq_true rfl⟩) (gw_preV hG hT hmd1.2.1 rfl) rfl rfl hl.1 rfl (lv_room (Nat.le_of_ble_eq_true rfl)) dL_law_1370 ⟨show 48 + 11 * t + 2 + 0 ≤ 601024 by omega, show 54728 + 662 * t + 12 + 0 ≤ 7293034 by omega⟩) hG (fun r_574 M_575 H locs hw hG => ?_)
    obtain ⟨hv2, hmd2, hf2⟩ := hw
    have heq9 : r0 = r_574 := (hv.trans ((hrel.1 rk h6).1 rj (by omega))).trans hv2.symm
    obtain ⟨hCS2, hao2⟩ := LJ_mod hCS1 hmd1 hao1 hLR1 hf2
    refine lv_istore (lv' := [(6, .int r_574), (5, .int (nI 0)), (4, .int (nI i)), (3, .ref ao), (2, .ref mo), (1, .ref x), (0, .ref b)]) hx hb dL_law_1373 hl (by decide) rfl (fun ls hl => ?_)
    refine lv_aload_n hx hb dL_law_1375 rfl (lv_at hl 4 rfl) ?_
    refine gw_calli (va_runV (As := []) (rest := []) ⟨hx, hb, hml, hown, hts⟩ (c_thrown l K M_575 mo ad _ _ _ _ _ _ _ _ hmd2) (cwV 0 hts gL_law_X3_thrown rfl rfl rfl (by decide +kernel) ⟨Nat.le_of_ble_eq_true rfl, Nat.le_of_ble_eq_true rfl⟩) (gw_preV hG hT hmd2.2.1 rfl) rfl rfl hl.1 rfl (lv_room (Nat.le_of_ble_eq_true rfl)) dL_law_1376 ⟨show 48 + 11 * t + 2 + 0 ≤ 601024 by omega, show 54728 + 662 * t + 12 + 0 ≤ 7293034 by omega⟩) hG (fun r_576 M_577 H locs hw hG => ?_)
    rw [hw.1] at hG
    refine gw_as hw.2 ?_
    refine lv_iload hx hb dL_law_1379 (lv_at hl 1 rfl) ?_
    refine lv_icmp_eq hx hb (tgt := 1386) dL_law_1381 (by decide) (fun hc => ?_) (fun hc => absurd rfl hc)
    refine lv_iload hx hb dL_law_1386 (lv_at hl 1 rfl) ?_
    refine lv_if_ne hx hb (tgt := 1403) dL_law_1388 (by decide) (fun hc => absurd rfl hc) (fun hc => ?_)
    refine lv_aload_n hx hb dL_law_1391 rfl (lv_at hl 3 rfl) ?_
    refine lv_iconst (v := nI 0) hx hb dL_law_1392 (by decide) ?_
    refine gw_lald_n hx hb hK hG hao2 1 rfl (by omega) (by omega) dL_law_1393 ?_
    refine gw_asl (y := r0.toInt64) (if_pos rfl) ?_
    refine lv_iload hx hb dL_law_1394 (lv_at hl 0 rfl) ?_
    refine lv_i2l hx hb dL_law_1396 rfl ?_
    refine W.lcmp hx hb dL_law_1397 ?_
    refine lv_if_eq hx hb (tgt := 1403) dL_law_1398 (by decide) (fun hc => ?_) (fun hc => absurd (lcmp_of (congrArg Int32.toInt64 heq9)) hc)
    refine lv_goto (tgt := 1549) hx hb dL_law_1403 (by decide) ?_
    refine W.widen (k := 48 + 11 * (t + 1)) (n := 54728 + 662 * (t + 1)) (by omega) (by omega) ?_
    exact kk S M_575 ro _ _ ls ⟨hCS2, ⟨_, _, _, _, _, _, hmd2, hrel⟩, ⟨_, hao2⟩, hLR1, (hInv).mono (Nat.le_succ t)⟩ hG (lv_sub hl [2, 3, 4, 5, 6] rfl)

set_option maxHeartbeats 4000000 in
set_option maxRecDepth 100000 in
theorem law_same {p : Program} {e : Env} {s : State} {m : MethodId} {below : List Frame} {meth : Method} {c : Code} (l : Launch) (hnt : l.stackTraces = false) {b L : Nat} {xs : Nat → Int32} (K : gw_C) (x mo ao : Nat) (ad : Nat → Nat) (S : gst) (t i : Nat) (M : gw_M) (ro : Nat → Nat) (C0 : LC p s m meth c b L xs K) (hi : i + 6 ≤ L) (ht : t ≤ 511) (hJ : LJ K x mo ao ad S t M ro) {H : Heap} {locs : List Loc} (hG : gw_B K M s.heap H locs) {ls : Array Slot} (hl : lv_has ls 7 [(4, .int (nI i)), (3, .ref ao), (2, .ref mo), (1, .ref x), (0, .ref b)]) (kk : LK p l e s m below meth c b K x mo ao ad t i) : W p l e room_1 s m #[Value.ref b] below meth c H locs (48 + 11 * t) (54728 + 662 * t) (lw_Z below #[Value.ref b] s) (F0 m 1406 ls []) := by
  obtain ⟨C1, hT, hA0, hL⟩ := C0
  obtain ⟨hx, hb, hr, hml, hown9, htsA, hX, hbl, hlocks, hgv⟩ := id C1
  have hown : s.vm.findClass RL = some m.cls := hown9
  have hts : ∀ w ∈ wsL_law, w.before #[Value.ref b] s = true := fun w h => htsA w (wsL_law_in w h)
  have hK := hT.K
  have hbA : ¬ gw_A K b := fun q => Nat.not_le.mpr hbl (by rw [← hA0]; exact q)
  obtain ⟨hCS, ⟨cd, tb, vb, sb, fm, tq, hmd, hrel⟩, ⟨o9, hao⟩, hLR, hInv⟩ := hJ
  have hn6 := hmd.1.1
  have hk100 := hmd.1.2
  refine lv_aload_n hx hb dL_law_1406 rfl (lv_at hl 3 rfl) ?_
  refine lv_aload_n hx hb dL_law_1407 rfl (lv_at hl 4 rfl) ?_
  refine lv_iload hx hb dL_law_1408 (lv_at hl 0 rfl) ?_
  refine lv_iconst (v := nI 1) hx hb dL_law_1410 (by decide) ?_
  refine gw_iadd hx hb dL_law_1411 ?_
  refine va_sld hx hb hX hbl hbA hG.S (gw_in (j := i + 1) (by omega) (by omega)) dL_law_1412 ?_
  refine gw_as (y := xs (i + 1)) (congrArg xs (nI_clamp (by omega))) ?_
  refine lv_aload_n hx hb dL_law_1413 rfl (lv_at hl 4 rfl) ?_
  refine lv_iload hx hb dL_law_1414 (lv_at hl 0 rfl) ?_
  refine lv_iconst (v := nI 2) hx hb dL_law_1416 (by decide) ?_
  refine gw_iadd hx hb dL_law_1417 ?_
  refine va_sld hx hb hX hbl hbA hG.S (gw_in (j := i + 2) (by omega) (by omega)) dL_law_1418 ?_
  refine gw_as (y := xs (i + 2)) (congrArg xs (nI_clamp (by omega))) ?_
  refine lv_aload_n hx hb dL_law_1419 rfl (lv_at hl 1 rfl) ?_
  refine gw_xcalli (vx_runSX (As := [.ref x, .int (xs (i + 1)), .int (xs (i + 2)), .ref ao]) (rest := []) ⟨hx, hb, hml, hown, hts⟩ (w_same l hnt K M x ro S (xs (i + 1)) (xs (i + 2)) ao o9 hCS hao hLR.2.2) (vx_cwSW 4 hts gL_law_L_same rfl rfl rfl (by decide +kernel) ⟨Nat.le_of_ble_eq_true rfl, Nat.le_of_ble_eq_true rfl⟩) (gw_preS hG hT) rfl rfl hl.1 rfl (lv_room (Nat.le_of_ble_eq_true rfl)) dL_law_1420 ⟨show 48 + 11 * t + 2 ≤ 601024 by omega, show 54728 + 662 * t + 12 ≤ 7293034 by omega⟩) hG (fun E9 ce9 qx9 M9 H9 locs9 hw hG h7 h8 h9 => hw.elim) (fun r_578 M_579 H locs hw hG => ?_)
  rcases hw with ⟨hr9, hM1, hC⟩ | ⟨hr9, r0, M0, hP, ha0, hM1⟩
  · rw [hM1] at hG
    refine gw_as hr9 ?_
    refine lv_istore (lv' := [(5, .int (nI 1)), (4, .int (nI i)), (3, .ref ao), (2, .ref mo), (1, .ref x), (0, .ref b)]) hx hb dL_law_1423 hl (by decide) rfl (fun ls hl => ?_)
    refine lv_aload_n hx hb dL_law_1425 rfl (lv_at hl 3 rfl) ?_
    refine lv_aload_n hx hb dL_law_1426 rfl (lv_at hl 5 rfl) ?_
    refine lv_iload hx hb dL_law_1427 (lv_at hl 1 rfl) ?_
    refine lv_iconst (v := nI 1) hx hb dL_law_1429 (by decide) ?_
    refine gw_iadd hx hb dL_law_1430 ?_
    refine va_sld hx hb hX hbl hbA hG.S (gw_in (j := i + 1) (by omega) (by omega)) dL_law_1431 ?_
    refine gw_as (y := xs (i + 1)) (congrArg xs (nI_clamp (by omega))) ?_
    refine lv_aload_n hx hb dL_law_1432 rfl (lv_at hl 5 rfl) ?_
    refine lv_iload hx hb dL_law_1433 (lv_at hl 1 rfl) ?_
    refine lv_iconst (v := nI 2) hx hb dL_law_1435 (by decide) ?_
    refine gw_iadd hx hb dL_law_1436 ?_
    refine va_sld hx hb hX hbl hbA hG.S (gw_in (j := i + 2) (by omega) (by omega)) dL_law_1437 ?_
    refine gw_as (y := xs (i + 2)) (congrArg xs (nI_clamp (by omega))) ?_
    refine gw_calli (va_runV (As := [.int (xs (i + 1)), .int (xs (i + 2))]) (rest := []) ⟨hx, hb, hml, hown, hts⟩ (m_same_no l K M mo ad _ _ _ _ _ _ _ _ (xs (i + 1)) (xs (i + 2)) hmd hC) (cwV 2 hts gL_law_X3_same rfl rfl rfl (by decide +kernel) ⟨Nat.le_of_ble_eq_true rfl, Nat.le_of_ble_eq_true rfl⟩) (gw_preV hG hT hmd.2.1 rfl) rfl rfl hl.1 rfl (lv_room (Nat.le_of_ble_eq_true rfl)) dL_law_1438 ⟨show 48 + 11 * t + 2 + 0 ≤ 601024 by omega, show 54728 + 662 * t + 12 + 0 ≤ 7293034 by omega⟩) hG (fun r_580 M_581 H locs hw hG => ?_)
    obtain ⟨hmd2, hf2⟩ := hw
    obtain ⟨hCS2, hao2⟩ := LJ_mod hCS hmd hao hLR hf2
    refine lv_istore (lv' := [(6, .int r_580), (5, .int (nI 1)), (4, .int (nI i)), (3, .ref ao), (2, .ref mo), (1, .ref x), (0, .ref b)]) hx hb dL_law_1441 hl (by decide) rfl (fun ls hl => ?_)
    refine lv_aload_n hx hb dL_law_1443 rfl (lv_at hl 4 rfl) ?_
    refine gw_calli (va_runV (As := []) (rest := []) ⟨hx, hb, hml, hown, hts⟩ (c_thrown l K M_581 mo ad _ _ _ _ _ _ _ _ hmd2) (cwV 0 hts gL_law_X3_thrown rfl rfl rfl (by decide +kernel) ⟨Nat.le_of_ble_eq_true rfl, Nat.le_of_ble_eq_true rfl⟩) (gw_preV hG hT hmd2.2.1 rfl) rfl rfl hl.1 rfl (lv_room (Nat.le_of_ble_eq_true rfl)) dL_law_1444 ⟨show 48 + 11 * t + 2 + 0 ≤ 601024 by omega, show 54728 + 662 * t + 12 + 0 ≤ 7293034 by omega⟩) hG (fun r_582 M_583 H locs hw hG => ?_)
    rw [hw.1] at hG
    refine gw_as hw.2 ?_
    refine lv_iload hx hb dL_law_1447 (lv_at hl 1 rfl) ?_
    refine lv_icmp_eq hx hb (tgt := 1454) dL_law_1449 (by decide) (fun hc => ?_) (fun hc => absurd rfl hc)
    refine lv_iload hx hb dL_law_1454 (lv_at hl 1 rfl) ?_
    refine lv_if_ne hx hb (tgt := 1478) dL_law_1456 (by decide) (fun hc => ?_) (fun hc => absurd hc (by decide))
    refine lv_goto (tgt := 1549) hx hb dL_law_1478 (by decide) ?_
    refine W.widen (k := 48 + 11 * (t + 1)) (n := 54728 + 662 * (t + 1)) (by omega) (by omega) ?_
    exact kk S M_581 ro _ _ ls ⟨hCS2, ⟨_, _, _, _, _, _, hmd2, hrel⟩, ⟨_, hao2⟩, hLR, (hInv).mono (Nat.le_succ t)⟩ hG (lv_sub hl [2, 3, 4, 5, 6] rfl)
  · refine gw_as hr9 ?_
    obtain ⟨hM0, rk, rj, ⟨hrk, e1⟩, ⟨hrj, e2⟩, hv⟩ := hP
    have h6 : rk < 6 := by omega
    have h6j : rj < 6 := by omega
    have hsi := same_iff hInv h6 h6j (hrel.1 rk h6) (hrel.1 rj h6j)
    obtain ⟨hCS1, hmd1, hao1, hLR1⟩ := LJ_out (e := .inl (K.2.1 1, 1, .inr (.inl (vp_updL o9 0 (if r0 = 0 then 0 else 1))))) (show CS K M0 ro x S by rw [hM0]; exact hCS) (show ofr 60 1000 M M0 ro ro by rw [hM0]; exact ofr.rf) hmd hao ha0 hLR
    rw [← hM1] at hCS1 hmd1 hao1
    refine lv_istore (lv' := [(5, .int (nI 0)), (4, .int (nI i)), (3, .ref ao), (2, .ref mo), (1, .ref x), (0, .ref b)]) hx hb dL_law_1423 hl (by decide) rfl (fun ls hl => ?_)
    refine lv_aload_n hx hb dL_law_1425 rfl (lv_at hl 3 rfl) ?_
    refine lv_aload_n hx hb dL_law_1426 rfl (lv_at hl 5 rfl) ?_
    refine lv_iload hx hb dL_law_1427 (lv_at hl 1 rfl) ?_
    refine lv_iconst (v := nI 1) hx hb dL_law_1429 (by decide) ?_
    refine gw_iadd hx hb dL_law_1430 ?_
    refine va_sld hx hb hX hbl hbA hG.S (gw_in (j := i + 1) (by omega) (by omega)) dL_law_1431 ?_
    refine gw_as (y := xs (i + 1)) (congrArg xs (nI_clamp (by omega))) ?_
    refine gw_as e1 ?_
    refine lv_aload_n hx hb dL_law_1432 rfl (lv_at hl 5 rfl) ?_
    refine lv_iload hx hb dL_law_1433 (lv_at hl 1 rfl) ?_
    refine lv_iconst (v := nI 2) hx hb dL_law_1435 (by decide) ?_
    refine gw_iadd hx hb dL_law_1436 ?_
    refine va_sld hx hb hX hbl hbA hG.S (gw_in (j := i + 2) (by omega) (by omega)) dL_law_1437 ?_
    refine gw_as (y := xs (i + 2)) (congrArg xs (nI_clamp (by omega))) ?_
    refine gw_as e2 ?_
    refine gw_calli (va_runV (As := [.int (nI rk), .int (nI rj)]) (rest := []) ⟨hx, hb, hml, hown, hts⟩ (m_same l K M_579 mo ad _ _ _ _ _ _ _ _ rk rj hmd1 hrk hrj) (cwV 2 hts gL_law_X3_same rfl rfl rfl (by decide +kernel) ⟨Nat.le_of_ble_eq_true rfl, Nat.le_of_ble_eq_true rfl⟩) (gw_preV hG hT hmd1.2.1 rfl) rfl rfl hl.1 rfl (lv_room (Nat.le_of_ble_eq_true rfl)) dL_law_1438 ⟨show 48 + 11 * t + 2 + 0 ≤ 601024 by omega, show 54728 + 662 * t + 12 + 0 ≤ 7293034 by omega⟩) hG (fun r_584 M_585 H locs hw hG => ?_)
    obtain ⟨hv2, hmd2, hf2⟩ := hw
    have heq9 : r0 = r_584 := hv.elim (fun z => z.1.trans (tst_y hv2 (hsi.mp z.2)).symm) (fun z => z.1.trans (tst_n hv2 (fun q => z.2 (hsi.mpr q))).symm)
    obtain ⟨hCS2, hao2⟩ := LJ_mod hCS1 hmd1 hao1 hLR1 hf2
    refine lv_istore (lv' := [(6, .int r_584), (5, .int (nI 0)), (4, .int (nI i)), (3, .ref ao), (2, .ref mo), (1, .ref x), (0, .ref b)]) hx hb dL_law_1441 hl (by decide) rfl (fun ls hl => ?_)
    refine lv_aload_n hx hb dL_law_1443 rfl (lv_at hl 4 rfl) ?_
    refine gw_calli (va_runV (As := []) (rest := []) ⟨hx, hb, hml, hown, hts⟩ (c_thrown l K M_585 mo ad _ _ _ _ _ _ _ _ hmd2) (cwV 0 hts gL_law_X3_thrown rfl rfl rfl (by decide +kernel) ⟨Nat.le_of_ble_eq_true rfl, Nat.le_of_ble_eq_true rfl⟩) (gw_preV hG hT hmd2.2.1 rfl) rfl rfl hl.1 rfl (lv_room (Nat.le_of_ble_eq_true rfl)) dL_law_1444 ⟨show 48 + 11 * t + 2 + 0 ≤ 601024 by omega, show 54728 + 662 * t + 12 + 0 ≤ 7293034 by omega⟩) hG (fun r_586 M_587 H locs hw hG => ?_)
    rw [hw.1] at hG
    refine gw_as hw.2 ?_
    refine lv_iload hx hb dL_law_1447 (lv_at hl 1 rfl) ?_
    refine lv_icmp_eq hx hb (tgt := 1454) dL_law_1449 (by decide) (fun hc => ?_) (fun hc => absurd rfl hc)
    refine lv_iload hx hb dL_law_1454 (lv_at hl 1 rfl) ?_
    refine lv_if_ne hx hb (tgt := 1478) dL_law_1456 (by decide) (fun hc => absurd rfl hc) (fun hc => ?_)
    refine lv_aload_n hx hb dL_law_1459 rfl (lv_at hl 3 rfl) ?_
    refine lv_iconst (v := nI 0) hx hb dL_law_1460 (by decide) ?_
    refine gw_lald_n hx hb hK hG hao2 1 rfl (by omega) (by omega) dL_law_1461 ?_
    refine gw_asl (y := (if r0 = 0 then 0 else 1)) (if_pos rfl) ?_
    refine lv_iload hx hb dL_law_1462 (lv_at hl 0 rfl) ?_
    refine lv_if_eq hx hb (tgt := 1471) dL_law_1464 (by decide) (fun hz => ?_) (fun hz => ?_)
    · refine lv_lconst (v := 0) hx hb dL_law_1471 (by decide) ?_
      refine W.lcmp hx hb dL_law_1472 ?_
      refine lv_if_eq hx hb (tgt := 1478) dL_law_1473 (by decide) (fun hc => ?_) (fun hc => absurd (lcmp_of (if_pos (heq9.trans hz))) hc)
      refine lv_goto (tgt := 1549) hx hb dL_law_1478 (by decide) ?_
      refine W.widen (k := 48 + 11 * (t + 1)) (n := 54728 + 662 * (t + 1)) (by omega) (by omega) ?_
      exact kk S M_585 ro _ _ ls ⟨hCS2, ⟨_, _, _, _, _, _, hmd2, hrel⟩, ⟨_, hao2⟩, hLR1, (hInv).mono (Nat.le_succ t)⟩ hG (lv_sub hl [2, 3, 4, 5, 6] rfl)
    · refine lv_lconst (v := 1) hx hb dL_law_1467 (by decide) ?_
      refine lv_goto (tgt := 1472) hx hb dL_law_1468 (by decide) ?_
      refine W.lcmp hx hb dL_law_1472 ?_
      refine lv_if_eq hx hb (tgt := 1478) dL_law_1473 (by decide) (fun hc => ?_) (fun hc => absurd (lcmp_of (if_neg (fun z9 => hz (heq9.symm.trans z9)))) hc)
      refine lv_goto (tgt := 1549) hx hb dL_law_1478 (by decide) ?_
      refine W.widen (k := 48 + 11 * (t + 1)) (n := 54728 + 662 * (t + 1)) (by omega) (by omega) ?_
      exact kk S M_585 ro _ _ ls ⟨hCS2, ⟨_, _, _, _, _, _, hmd2, hrel⟩, ⟨_, hao2⟩, hLR1, (hInv).mono (Nat.le_succ t)⟩ hG (lv_sub hl [2, 3, 4, 5, 6] rfl)

set_option maxHeartbeats 4000000 in
set_option maxRecDepth 100000 in
theorem law_message {p : Program} {e : Env} {s : State} {m : MethodId} {below : List Frame} {meth : Method} {c : Code} (l : Launch) (hnt : l.stackTraces = false) {b L : Nat} {xs : Nat → Int32} (K : gw_C) (x mo ao : Nat) (ad : Nat → Nat) (S : gst) (t i : Nat) (M : gw_M) (ro : Nat → Nat) (C0 : LC p s m meth c b L xs K) (hi : i + 6 ≤ L) (ht : t ≤ 511) (hJ : LJ K x mo ao ad S t M ro) {H : Heap} {locs : List Loc} (hG : gw_B K M s.heap H locs) {ls : Array Slot} (hl : lv_has ls 7 [(4, .int (nI i)), (3, .ref ao), (2, .ref mo), (1, .ref x), (0, .ref b)]) (kk : LK p l e s m below meth c b K x mo ao ad t i) : W p l e room_1 s m #[Value.ref b] below meth c H locs (48 + 11 * t) (54728 + 662 * t) (lw_Z below #[Value.ref b] s) (F0 m 1481 ls []) := by
  obtain ⟨C1, hT, hA0, hL⟩ := C0
  obtain ⟨hx, hb, hr, hml, hown9, htsA, hX, hbl, hlocks, hgv⟩ := id C1
  have hown : s.vm.findClass RL = some m.cls := hown9
  have hts : ∀ w ∈ wsL_law, w.before #[Value.ref b] s = true := fun w h => htsA w (wsL_law_in w h)
  have hK := hT.K
  have hbA : ¬ gw_A K b := fun q => Nat.not_le.mpr hbl (by rw [← hA0]; exact q)
  obtain ⟨hCS, ⟨cd, tb, vb, sb, fm, tq, hmd, hrel⟩, ⟨o9, hao⟩, hLR, hInv⟩ := hJ
  have hn6 := hmd.1.1
  have hk100 := hmd.1.2
  refine lv_aload_n hx hb dL_law_1481 rfl (lv_at hl 3 rfl) ?_
  refine lv_aload_n hx hb dL_law_1482 rfl (lv_at hl 4 rfl) ?_
  refine lv_iload hx hb dL_law_1483 (lv_at hl 0 rfl) ?_
  refine lv_iconst (v := nI 1) hx hb dL_law_1485 (by decide) ?_
  refine gw_iadd hx hb dL_law_1486 ?_
  refine va_sld hx hb hX hbl hbA hG.S (gw_in (j := i + 1) (by omega) (by omega)) dL_law_1487 ?_
  refine gw_as (y := xs (i + 1)) (congrArg xs (nI_clamp (by omega))) ?_
  refine lv_aload_n hx hb dL_law_1488 rfl (lv_at hl 4 rfl) ?_
  refine lv_iload hx hb dL_law_1489 (lv_at hl 0 rfl) ?_
  refine lv_iconst (v := nI 2) hx hb dL_law_1491 (by decide) ?_
  refine gw_iadd hx hb dL_law_1492 ?_
  refine va_sld hx hb hX hbl hbA hG.S (gw_in (j := i + 2) (by omega) (by omega)) dL_law_1493 ?_
  refine gw_as (y := xs (i + 2)) (congrArg xs (nI_clamp (by omega))) ?_
  refine lv_aload_n hx hb dL_law_1494 rfl (lv_at hl 1 rfl) ?_
  refine gw_xcalli (vx_runSX (As := [.ref x, .int (xs (i + 1)), .int (xs (i + 2)), .ref ao]) (rest := []) ⟨hx, hb, hml, hown, hts⟩ (w_message l hnt K M x ro S (xs (i + 1)) (xs (i + 2)) ao o9 hCS hao hLR.2.2) (vx_cwSW 4 hts gL_law_L_message rfl rfl rfl (by decide +kernel) ⟨Nat.le_of_ble_eq_true rfl, Nat.le_of_ble_eq_true rfl⟩) (gw_preS hG hT) rfl rfl hl.1 rfl (lv_room (Nat.le_of_ble_eq_true rfl)) dL_law_1495 ⟨show 48 + 11 * t + 2 ≤ 601024 by omega, show 54728 + 662 * t + 12 ≤ 7293034 by omega⟩) hG (fun E9 ce9 qx9 M9 H9 locs9 hw hG h7 h8 h9 => hw.elim) (fun r_588 M_589 H locs hw hG => ?_)
  rcases hw with ⟨hr9, hM1, hC⟩ | ⟨hr9, r0, M0, hP, ha0, hM1⟩
  · rw [hM1] at hG
    refine gw_as hr9 ?_
    refine lv_istore (lv' := [(5, .int (nI 1)), (4, .int (nI i)), (3, .ref ao), (2, .ref mo), (1, .ref x), (0, .ref b)]) hx hb dL_law_1498 hl (by decide) rfl (fun ls hl => ?_)
    refine lv_aload_n hx hb dL_law_1500 rfl (lv_at hl 3 rfl) ?_
    refine lv_aload_n hx hb dL_law_1501 rfl (lv_at hl 5 rfl) ?_
    refine lv_iload hx hb dL_law_1502 (lv_at hl 1 rfl) ?_
    refine lv_iconst (v := nI 1) hx hb dL_law_1504 (by decide) ?_
    refine gw_iadd hx hb dL_law_1505 ?_
    refine va_sld hx hb hX hbl hbA hG.S (gw_in (j := i + 1) (by omega) (by omega)) dL_law_1506 ?_
    refine gw_as (y := xs (i + 1)) (congrArg xs (nI_clamp (by omega))) ?_
    refine lv_aload_n hx hb dL_law_1507 rfl (lv_at hl 5 rfl) ?_
    refine lv_iload hx hb dL_law_1508 (lv_at hl 1 rfl) ?_
    refine lv_iconst (v := nI 2) hx hb dL_law_1510 (by decide) ?_
    refine gw_iadd hx hb dL_law_1511 ?_
    refine va_sld hx hb hX hbl hbA hG.S (gw_in (j := i + 2) (by omega) (by omega)) dL_law_1512 ?_
    refine gw_as (y := xs (i + 2)) (congrArg xs (nI_clamp (by omega))) ?_
    refine gw_calli (va_runV (As := [.int (xs (i + 1)), .int (xs (i + 2))]) (rest := []) ⟨hx, hb, hml, hown, hts⟩ (m_message_no l K M mo ad _ _ _ _ _ _ _ _ (xs (i + 1)) (xs (i + 2)) hmd hC.1 hC.2.1 hC.2.2) (cwV 2 hts gL_law_X3_message rfl rfl rfl (by decide +kernel) ⟨Nat.le_of_ble_eq_true rfl, Nat.le_of_ble_eq_true rfl⟩) (gw_preV hG hT hmd.2.1 rfl) rfl rfl hl.1 rfl (lv_room (Nat.le_of_ble_eq_true rfl)) dL_law_1513 ⟨show 48 + 11 * t + 2 + 0 ≤ 601024 by omega, show 54728 + 662 * t + 12 + 0 ≤ 7293034 by omega⟩) hG (fun r_590 M_591 H locs hw hG => ?_)
    obtain ⟨hmd2, hf2⟩ := hw
    obtain ⟨hCS2, hao2⟩ := LJ_mod hCS hmd hao hLR hf2
    refine lv_istore (lv' := [(6, .int r_590), (5, .int (nI 1)), (4, .int (nI i)), (3, .ref ao), (2, .ref mo), (1, .ref x), (0, .ref b)]) hx hb dL_law_1516 hl (by decide) rfl (fun ls hl => ?_)
    refine lv_aload_n hx hb dL_law_1518 rfl (lv_at hl 4 rfl) ?_
    refine gw_calli (va_runV (As := []) (rest := []) ⟨hx, hb, hml, hown, hts⟩ (c_thrown l K M_591 mo ad _ _ _ _ _ _ _ _ hmd2) (cwV 0 hts gL_law_X3_thrown rfl rfl rfl (by decide +kernel) ⟨Nat.le_of_ble_eq_true rfl, Nat.le_of_ble_eq_true rfl⟩) (gw_preV hG hT hmd2.2.1 rfl) rfl rfl hl.1 rfl (lv_room (Nat.le_of_ble_eq_true rfl)) dL_law_1519 ⟨show 48 + 11 * t + 2 + 0 ≤ 601024 by omega, show 54728 + 662 * t + 12 + 0 ≤ 7293034 by omega⟩) hG (fun r_592 M_593 H locs hw hG => ?_)
    rw [hw.1] at hG
    refine gw_as hw.2 ?_
    refine lv_iload hx hb dL_law_1522 (lv_at hl 1 rfl) ?_
    refine lv_icmp_eq hx hb (tgt := 1529) dL_law_1524 (by decide) (fun hc => ?_) (fun hc => absurd rfl hc)
    refine lv_iload hx hb dL_law_1529 (lv_at hl 1 rfl) ?_
    refine lv_if_ne hx hb (tgt := 1546) dL_law_1531 (by decide) (fun hc => ?_) (fun hc => absurd hc (by decide))
    refine lv_goto (tgt := 1549) hx hb dL_law_1546 (by decide) ?_
    refine W.widen (k := 48 + 11 * (t + 1)) (n := 54728 + 662 * (t + 1)) (by omega) (by omega) ?_
    exact kk S M_591 ro _ _ ls ⟨hCS2, ⟨_, _, _, _, _, _, hmd2, hrel⟩, ⟨_, hao2⟩, hLR, (hInv).mono (Nat.le_succ t)⟩ hG (lv_sub hl [2, 3, 4, 5, 6] rfl)
  · refine gw_as hr9 ?_
    obtain ⟨hM0, h5⟩ := hP
    rcases h5 with ⟨hq, hv⟩ | ⟨hq, hv⟩ | ⟨hq1, hq2, k, ⟨hk, e1⟩, ⟨qq, hqq, e2⟩, hv⟩
    · obtain ⟨hCS1, hmd1, hao1, hLR1⟩ := LJ_out (e := .inl (K.2.1 1, 1, .inr (.inl (vp_updL o9 0 r0.toInt64)))) (show CS K M0 ro x S by rw [hM0]; exact hCS) (show ofr 60 1000 M M0 ro ro by rw [hM0]; exact ofr.rf) hmd hao ha0 hLR
      rw [← hM1] at hCS1 hmd1 hao1
      refine lv_istore (lv' := [(5, .int (nI 0)), (4, .int (nI i)), (3, .ref ao), (2, .ref mo), (1, .ref x), (0, .ref b)]) hx hb dL_law_1498 hl (by decide) rfl (fun ls hl => ?_)
      refine lv_aload_n hx hb dL_law_1500 rfl (lv_at hl 3 rfl) ?_
      refine lv_aload_n hx hb dL_law_1501 rfl (lv_at hl 5 rfl) ?_
      refine lv_iload hx hb dL_law_1502 (lv_at hl 1 rfl) ?_
      refine lv_iconst (v := nI 1) hx hb dL_law_1504 (by decide) ?_
      refine gw_iadd hx hb dL_law_1505 ?_
      refine va_sld hx hb hX hbl hbA hG.S (gw_in (j := i + 1) (by omega) (by omega)) dL_law_1506 ?_
      refine gw_as (y := xs (i + 1)) (congrArg xs (nI_clamp (by omega))) ?_
      refine lv_aload_n hx hb dL_law_1507 rfl (lv_at hl 5 rfl) ?_
      refine lv_iload hx hb dL_law_1508 (lv_at hl 1 rfl) ?_
      refine lv_iconst (v := nI 2) hx hb dL_law_1510 (by decide) ?_
      refine gw_iadd hx hb dL_law_1511 ?_
      refine va_sld hx hb hX hbl hbA hG.S (gw_in (j := i + 2) (by omega) (by omega)) dL_law_1512 ?_
      refine gw_as (y := xs (i + 2)) (congrArg xs (nI_clamp (by omega))) ?_
      refine gw_as hq ?_
      refine gw_calli (va_runV (As := [.int (xs (i + 1)), .int ((-1))]) (rest := []) ⟨hx, hb, hml, hown, hts⟩ (m_messageN l K M_589 mo ad _ _ _ _ _ _ _ _ (xs (i + 1)) hmd1 ) (cwV 2 hts gL_law_X3_message rfl rfl rfl (by decide +kernel) ⟨Nat.le_of_ble_eq_true rfl, Nat.le_of_ble_eq_true rfl⟩) (gw_preV hG hT hmd1.2.1 rfl) rfl rfl hl.1 rfl (lv_room (Nat.le_of_ble_eq_true rfl)) dL_law_1513 ⟨show 48 + 11 * t + 2 + 0 ≤ 601024 by omega, show 54728 + 662 * t + 12 + 0 ≤ 7293034 by omega⟩) hG (fun r_594 M_595 H locs hw hG => ?_)
      obtain ⟨hv2, hmd2, hf2⟩ := hw
      have heq9 : r0 = r_594 := (hv).trans hv2.symm
      obtain ⟨hCS2, hao2⟩ := LJ_mod hCS1 hmd1 hao1 hLR1 hf2
      refine lv_istore (lv' := [(6, .int r_594), (5, .int (nI 0)), (4, .int (nI i)), (3, .ref ao), (2, .ref mo), (1, .ref x), (0, .ref b)]) hx hb dL_law_1516 hl (by decide) rfl (fun ls hl => ?_)
      refine lv_aload_n hx hb dL_law_1518 rfl (lv_at hl 4 rfl) ?_
      refine gw_calli (va_runV (As := []) (rest := []) ⟨hx, hb, hml, hown, hts⟩ (c_thrown l K M_595 mo ad _ _ _ _ _ _ _ _ hmd2) (cwV 0 hts gL_law_X3_thrown rfl rfl rfl (by decide +kernel) ⟨Nat.le_of_ble_eq_true rfl, Nat.le_of_ble_eq_true rfl⟩) (gw_preV hG hT hmd2.2.1 rfl) rfl rfl hl.1 rfl (lv_room (Nat.le_of_ble_eq_true rfl)) dL_law_1519 ⟨show 48 + 11 * t + 2 + 0 ≤ 601024 by omega, show 54728 + 662 * t + 12 + 0 ≤ 7293034 by omega⟩) hG (fun r_596 M_597 H locs hw hG => ?_)
      rw [hw.1] at hG
      refine gw_as hw.2 ?_
      refine lv_iload hx hb dL_law_1522 (lv_at hl 1 rfl) ?_
      refine lv_icmp_eq hx hb (tgt := 1529) dL_law_1524 (by decide) (fun hc => ?_) (fun hc => absurd rfl hc)
      refine lv_iload hx hb dL_law_1529 (lv_at hl 1 rfl) ?_
      refine lv_if_ne hx hb (tgt := 1546) dL_law_1531 (by decide) (fun hc => absurd rfl hc) (fun hc => ?_)
      refine lv_aload_n hx hb dL_law_1534 rfl (lv_at hl 3 rfl) ?_
      refine lv_iconst (v := nI 0) hx hb dL_law_1535 (by decide) ?_
      refine gw_lald_n hx hb hK hG hao2 1 rfl (by omega) (by omega) dL_law_1536 ?_
      refine gw_asl (y := r0.toInt64) (if_pos rfl) ?_
      refine lv_iload hx hb dL_law_1537 (lv_at hl 0 rfl) ?_
      refine lv_i2l hx hb dL_law_1539 rfl ?_
      refine W.lcmp hx hb dL_law_1540 ?_
      refine lv_if_eq hx hb (tgt := 1546) dL_law_1541 (by decide) (fun hc => ?_) (fun hc => absurd (lcmp_of (congrArg Int32.toInt64 heq9)) hc)
      refine lv_goto (tgt := 1549) hx hb dL_law_1546 (by decide) ?_
      refine W.widen (k := 48 + 11 * (t + 1)) (n := 54728 + 662 * (t + 1)) (by omega) (by omega) ?_
      exact kk S M_595 ro _ _ ls ⟨hCS2, ⟨_, _, _, _, _, _, hmd2, hrel⟩, ⟨_, hao2⟩, hLR1, (hInv).mono (Nat.le_succ t)⟩ hG (lv_sub hl [2, 3, 4, 5, 6] rfl)
    · obtain ⟨hCS1, hmd1, hao1, hLR1⟩ := LJ_out (e := .inl (K.2.1 1, 1, .inr (.inl (vp_updL o9 0 r0.toInt64)))) (show CS K M0 ro x S by rw [hM0]; exact hCS) (show ofr 60 1000 M M0 ro ro by rw [hM0]; exact ofr.rf) hmd hao ha0 hLR
      rw [← hM1] at hCS1 hmd1 hao1
      refine lv_istore (lv' := [(5, .int (nI 0)), (4, .int (nI i)), (3, .ref ao), (2, .ref mo), (1, .ref x), (0, .ref b)]) hx hb dL_law_1498 hl (by decide) rfl (fun ls hl => ?_)
      refine lv_aload_n hx hb dL_law_1500 rfl (lv_at hl 3 rfl) ?_
      refine lv_aload_n hx hb dL_law_1501 rfl (lv_at hl 5 rfl) ?_
      refine lv_iload hx hb dL_law_1502 (lv_at hl 1 rfl) ?_
      refine lv_iconst (v := nI 1) hx hb dL_law_1504 (by decide) ?_
      refine gw_iadd hx hb dL_law_1505 ?_
      refine va_sld hx hb hX hbl hbA hG.S (gw_in (j := i + 1) (by omega) (by omega)) dL_law_1506 ?_
      refine gw_as (y := xs (i + 1)) (congrArg xs (nI_clamp (by omega))) ?_
      refine lv_aload_n hx hb dL_law_1507 rfl (lv_at hl 5 rfl) ?_
      refine lv_iload hx hb dL_law_1508 (lv_at hl 1 rfl) ?_
      refine lv_iconst (v := nI 2) hx hb dL_law_1510 (by decide) ?_
      refine gw_iadd hx hb dL_law_1511 ?_
      refine va_sld hx hb hX hbl hbA hG.S (gw_in (j := i + 2) (by omega) (by omega)) dL_law_1512 ?_
      refine gw_as (y := xs (i + 2)) (congrArg xs (nI_clamp (by omega))) ?_
      refine gw_as hq ?_
      refine gw_calli (va_runV (As := [.int (xs (i + 1)), .int ((-2))]) (rest := []) ⟨hx, hb, hml, hown, hts⟩ (m_messageM l K M_589 mo ad _ _ _ _ _ _ _ _ (xs (i + 1)) hmd1 ) (cwV 2 hts gL_law_X3_message rfl rfl rfl (by decide +kernel) ⟨Nat.le_of_ble_eq_true rfl, Nat.le_of_ble_eq_true rfl⟩) (gw_preV hG hT hmd1.2.1 rfl) rfl rfl hl.1 rfl (lv_room (Nat.le_of_ble_eq_true rfl)) dL_law_1513 ⟨show 48 + 11 * t + 2 + 0 ≤ 601024 by omega, show 54728 + 662 * t + 12 + 0 ≤ 7293034 by omega⟩) hG (fun r_598 M_599 H locs hw hG => ?_)
      obtain ⟨hv2, hmd2, hf2⟩ := hw
      have heq9 : r0 = r_598 := (hv).trans hv2.symm
      obtain ⟨hCS2, hao2⟩ := LJ_mod hCS1 hmd1 hao1 hLR1 hf2
      refine lv_istore (lv' := [(6, .int r_598), (5, .int (nI 0)), (4, .int (nI i)), (3, .ref ao), (2, .ref mo), (1, .ref x), (0, .ref b)]) hx hb dL_law_1516 hl (by decide) rfl (fun ls hl => ?_)
      refine lv_aload_n hx hb dL_law_1518 rfl (lv_at hl 4 rfl) ?_
      refine gw_calli (va_runV (As := []) (rest := []) ⟨hx, hb, hml, hown, hts⟩ (c_thrown l K M_599 mo ad _ _ _ _ _ _ _ _ hmd2) (cwV 0 hts gL_law_X3_thrown rfl rfl rfl (by decide +kernel) ⟨Nat.le_of_ble_eq_true rfl, Nat.le_of_ble_eq_true rfl⟩) (gw_preV hG hT hmd2.2.1 rfl) rfl rfl hl.1 rfl (lv_room (Nat.le_of_ble_eq_true rfl)) dL_law_1519 ⟨show 48 + 11 * t + 2 + 0 ≤ 601024 by omega, show 54728 + 662 * t + 12 + 0 ≤ 7293034 by omega⟩) hG (fun r_600 M_601 H locs hw hG => ?_)
      rw [hw.1] at hG
      refine gw_as hw.2 ?_
      refine lv_iload hx hb dL_law_1522 (lv_at hl 1 rfl) ?_
      refine lv_icmp_eq hx hb (tgt := 1529) dL_law_1524 (by decide) (fun hc => ?_) (fun hc => absurd rfl hc)
      refine lv_iload hx hb dL_law_1529 (lv_at hl 1 rfl) ?_
      refine lv_if_ne hx hb (tgt := 1546) dL_law_1531 (by decide) (fun hc => absurd rfl hc) (fun hc => ?_)
      refine lv_aload_n hx hb dL_law_1534 rfl (lv_at hl 3 rfl) ?_
      refine lv_iconst (v := nI 0) hx hb dL_law_1535 (by decide) ?_
      refine gw_lald_n hx hb hK hG hao2 1 rfl (by omega) (by omega) dL_law_1536 ?_
      refine gw_asl (y := r0.toInt64) (if_pos rfl) ?_
      refine lv_iload hx hb dL_law_1537 (lv_at hl 0 rfl) ?_
      refine lv_i2l hx hb dL_law_1539 rfl ?_
      refine W.lcmp hx hb dL_law_1540 ?_
      refine lv_if_eq hx hb (tgt := 1546) dL_law_1541 (by decide) (fun hc => ?_) (fun hc => absurd (lcmp_of (congrArg Int32.toInt64 heq9)) hc)
      refine lv_goto (tgt := 1549) hx hb dL_law_1546 (by decide) ?_
      refine W.widen (k := 48 + 11 * (t + 1)) (n := 54728 + 662 * (t + 1)) (by omega) (by omega) ?_
      exact kk S M_599 ro _ _ ls ⟨hCS2, ⟨_, _, _, _, _, _, hmd2, hrel⟩, ⟨_, hao2⟩, hLR1, (hInv).mono (Nat.le_succ t)⟩ hG (lv_sub hl [2, 3, 4, 5, 6] rfl)
    · have h02 : 2 ≤ S.1 := by obtain ⟨_, _, _, _, _, _, _, _, _, _, _, _, hcs9, _⟩ := id hCS; exact hcs9.1.1
      rcases (show qq = 0 ∨ qq = 1 ∨ ∃ q, qq = q + 2 from if h0 : qq = 0 then Or.inl h0 else if h1 : qq = 1 then Or.inr (Or.inl h1) else Or.inr (Or.inr ⟨qq - 2, by omega⟩)) with hz | hz | ⟨q, hz⟩
      · rw [hz] at e2
        obtain ⟨hCS1, hmd1, hao1, hLR1⟩ := LJ_out (e := .inl (K.2.1 1, 1, .inr (.inl (vp_updL o9 0 r0.toInt64)))) (show CS K M0 ro x S by rw [hM0]; exact hCS) (show ofr 60 1000 M M0 ro ro by rw [hM0]; exact ofr.rf) hmd hao ha0 hLR
        rw [← hM1] at hCS1 hmd1 hao1
        refine lv_istore (lv' := [(5, .int (nI 0)), (4, .int (nI i)), (3, .ref ao), (2, .ref mo), (1, .ref x), (0, .ref b)]) hx hb dL_law_1498 hl (by decide) rfl (fun ls hl => ?_)
        refine lv_aload_n hx hb dL_law_1500 rfl (lv_at hl 3 rfl) ?_
        refine lv_aload_n hx hb dL_law_1501 rfl (lv_at hl 5 rfl) ?_
        refine lv_iload hx hb dL_law_1502 (lv_at hl 1 rfl) ?_
        refine lv_iconst (v := nI 1) hx hb dL_law_1504 (by decide) ?_
        refine gw_iadd hx hb dL_law_1505 ?_
        refine va_sld hx hb hX hbl hbA hG.S (gw_in (j := i + 1) (by omega) (by omega)) dL_law_1506 ?_
        refine gw_as (y := xs (i + 1)) (congrArg xs (nI_clamp (by omega))) ?_
        refine gw_as e1 ?_
        refine lv_aload_n hx hb dL_law_1507 rfl (lv_at hl 5 rfl) ?_
        refine lv_iload hx hb dL_law_1508 (lv_at hl 1 rfl) ?_
        refine lv_iconst (v := nI 2) hx hb dL_law_1510 (by decide) ?_
        refine gw_iadd hx hb dL_law_1511 ?_
        refine va_sld hx hb hX hbl hbA hG.S (gw_in (j := i + 2) (by omega) (by omega)) dL_law_1512 ?_
        refine gw_as (y := xs (i + 2)) (congrArg xs (nI_clamp (by omega))) ?_
        refine gw_as e2 ?_
        refine gw_calli (va_runV (As := [.int (nI k), .int (nI 0)]) (rest := []) ⟨hx, hb, hml, hown, hts⟩ (m_message0 l K M_589 mo ad _ _ _ _ _ _ _ _ k 0 hmd1 hk (by omega)) (cwV 2 hts gL_law_X3_message rfl rfl rfl (by decide +kernel) ⟨Nat.le_of_ble_eq_true rfl, Nat.le_of_ble_eq_true rfl⟩) (gw_preV hG hT hmd1.2.1 rfl) rfl rfl hl.1 rfl (lv_room (Nat.le_of_ble_eq_true rfl)) dL_law_1513 ⟨show 48 + 11 * t + 2 + 0 ≤ 601024 by omega, show 54728 + 662 * t + 12 + 0 ≤ 7293034 by omega⟩) hG (fun r_602 M_603 H locs hw hG => ?_)
        obtain ⟨hv2, hmd2, hf2⟩ := hw
        have heq9 : r0 = r_602 := ((hv.trans (if_pos (by rw [e2]; rfl))).trans (hrel.2 k hk).2.1.symm).trans hv2.symm
        obtain ⟨hCS2, hao2⟩ := LJ_mod hCS1 hmd1 hao1 hLR1 hf2
        refine lv_istore (lv' := [(6, .int r_602), (5, .int (nI 0)), (4, .int (nI i)), (3, .ref ao), (2, .ref mo), (1, .ref x), (0, .ref b)]) hx hb dL_law_1516 hl (by decide) rfl (fun ls hl => ?_)
        refine lv_aload_n hx hb dL_law_1518 rfl (lv_at hl 4 rfl) ?_
        refine gw_calli (va_runV (As := []) (rest := []) ⟨hx, hb, hml, hown, hts⟩ (c_thrown l K M_603 mo ad _ _ _ _ _ _ _ _ hmd2) (cwV 0 hts gL_law_X3_thrown rfl rfl rfl (by decide +kernel) ⟨Nat.le_of_ble_eq_true rfl, Nat.le_of_ble_eq_true rfl⟩) (gw_preV hG hT hmd2.2.1 rfl) rfl rfl hl.1 rfl (lv_room (Nat.le_of_ble_eq_true rfl)) dL_law_1519 ⟨show 48 + 11 * t + 2 + 0 ≤ 601024 by omega, show 54728 + 662 * t + 12 + 0 ≤ 7293034 by omega⟩) hG (fun r_604 M_605 H locs hw hG => ?_)
        rw [hw.1] at hG
        refine gw_as hw.2 ?_
        refine lv_iload hx hb dL_law_1522 (lv_at hl 1 rfl) ?_
        refine lv_icmp_eq hx hb (tgt := 1529) dL_law_1524 (by decide) (fun hc => ?_) (fun hc => absurd rfl hc)
        refine lv_iload hx hb dL_law_1529 (lv_at hl 1 rfl) ?_
        refine lv_if_ne hx hb (tgt := 1546) dL_law_1531 (by decide) (fun hc => absurd rfl hc) (fun hc => ?_)
        refine lv_aload_n hx hb dL_law_1534 rfl (lv_at hl 3 rfl) ?_
        refine lv_iconst (v := nI 0) hx hb dL_law_1535 (by decide) ?_
        refine gw_lald_n hx hb hK hG hao2 1 rfl (by omega) (by omega) dL_law_1536 ?_
        refine gw_asl (y := r0.toInt64) (if_pos rfl) ?_
        refine lv_iload hx hb dL_law_1537 (lv_at hl 0 rfl) ?_
        refine lv_i2l hx hb dL_law_1539 rfl ?_
        refine W.lcmp hx hb dL_law_1540 ?_
        refine lv_if_eq hx hb (tgt := 1546) dL_law_1541 (by decide) (fun hc => ?_) (fun hc => absurd (lcmp_of (congrArg Int32.toInt64 heq9)) hc)
        refine lv_goto (tgt := 1549) hx hb dL_law_1546 (by decide) ?_
        refine W.widen (k := 48 + 11 * (t + 1)) (n := 54728 + 662 * (t + 1)) (by omega) (by omega) ?_
        exact kk S M_603 ro _ _ ls ⟨hCS2, ⟨_, _, _, _, _, _, hmd2, hrel⟩, ⟨_, hao2⟩, hLR1, (hInv).mono (Nat.le_succ t)⟩ hG (lv_sub hl [2, 3, 4, 5, 6] rfl)
      · rw [hz] at e2
        obtain ⟨hCS1, hmd1, hao1, hLR1⟩ := LJ_out (e := .inl (K.2.1 1, 1, .inr (.inl (vp_updL o9 0 r0.toInt64)))) (show CS K M0 ro x S by rw [hM0]; exact hCS) (show ofr 60 1000 M M0 ro ro by rw [hM0]; exact ofr.rf) hmd hao ha0 hLR
        rw [← hM1] at hCS1 hmd1 hao1
        refine lv_istore (lv' := [(5, .int (nI 0)), (4, .int (nI i)), (3, .ref ao), (2, .ref mo), (1, .ref x), (0, .ref b)]) hx hb dL_law_1498 hl (by decide) rfl (fun ls hl => ?_)
        refine lv_aload_n hx hb dL_law_1500 rfl (lv_at hl 3 rfl) ?_
        refine lv_aload_n hx hb dL_law_1501 rfl (lv_at hl 5 rfl) ?_
        refine lv_iload hx hb dL_law_1502 (lv_at hl 1 rfl) ?_
        refine lv_iconst (v := nI 1) hx hb dL_law_1504 (by decide) ?_
        refine gw_iadd hx hb dL_law_1505 ?_
        refine va_sld hx hb hX hbl hbA hG.S (gw_in (j := i + 1) (by omega) (by omega)) dL_law_1506 ?_
        refine gw_as (y := xs (i + 1)) (congrArg xs (nI_clamp (by omega))) ?_
        refine gw_as e1 ?_
        refine lv_aload_n hx hb dL_law_1507 rfl (lv_at hl 5 rfl) ?_
        refine lv_iload hx hb dL_law_1508 (lv_at hl 1 rfl) ?_
        refine lv_iconst (v := nI 2) hx hb dL_law_1510 (by decide) ?_
        refine gw_iadd hx hb dL_law_1511 ?_
        refine va_sld hx hb hX hbl hbA hG.S (gw_in (j := i + 2) (by omega) (by omega)) dL_law_1512 ?_
        refine gw_as (y := xs (i + 2)) (congrArg xs (nI_clamp (by omega))) ?_
        refine gw_as e2 ?_
        refine gw_calli (va_runV (As := [.int (nI k), .int (nI 1)]) (rest := []) ⟨hx, hb, hml, hown, hts⟩ (m_message1 l K M_589 mo ad _ _ _ _ _ _ _ _ k 0 hmd1 hk (by omega)) (cwV 2 hts gL_law_X3_message rfl rfl rfl (by decide +kernel) ⟨Nat.le_of_ble_eq_true rfl, Nat.le_of_ble_eq_true rfl⟩) (gw_preV hG hT hmd1.2.1 rfl) rfl rfl hl.1 rfl (lv_room (Nat.le_of_ble_eq_true rfl)) dL_law_1513 ⟨show 48 + 11 * t + 2 + 0 ≤ 601024 by omega, show 54728 + 662 * t + 12 + 0 ≤ 7293034 by omega⟩) hG (fun r_606 M_607 H locs hw hG => ?_)
        obtain ⟨hv2, hmd2, hf2⟩ := hw
        have heq9 : r0 = r_606 := (((hv.trans (if_neg (by rw [e2]; decide))).trans (if_pos (by rw [e2]; rfl))).trans (hrel.2 k hk).2.2.symm).trans hv2.symm
        obtain ⟨hCS2, hao2⟩ := LJ_mod hCS1 hmd1 hao1 hLR1 hf2
        refine lv_istore (lv' := [(6, .int r_606), (5, .int (nI 0)), (4, .int (nI i)), (3, .ref ao), (2, .ref mo), (1, .ref x), (0, .ref b)]) hx hb dL_law_1516 hl (by decide) rfl (fun ls hl => ?_)
        refine lv_aload_n hx hb dL_law_1518 rfl (lv_at hl 4 rfl) ?_
        refine gw_calli (va_runV (As := []) (rest := []) ⟨hx, hb, hml, hown, hts⟩ (c_thrown l K M_607 mo ad _ _ _ _ _ _ _ _ hmd2) (cwV 0 hts gL_law_X3_thrown rfl rfl rfl (by decide +kernel) ⟨Nat.le_of_ble_eq_true rfl, Nat.le_of_ble_eq_true rfl⟩) (gw_preV hG hT hmd2.2.1 rfl) rfl rfl hl.1 rfl (lv_room (Nat.le_of_ble_eq_true rfl)) dL_law_1519 ⟨show 48 + 11 * t + 2 + 0 ≤ 601024 by omega, show 54728 + 662 * t + 12 + 0 ≤ 7293034 by omega⟩) hG (fun r_608 M_609 H locs hw hG => ?_)
        rw [hw.1] at hG
        refine gw_as hw.2 ?_
        refine lv_iload hx hb dL_law_1522 (lv_at hl 1 rfl) ?_
        refine lv_icmp_eq hx hb (tgt := 1529) dL_law_1524 (by decide) (fun hc => ?_) (fun hc => absurd rfl hc)
        refine lv_iload hx hb dL_law_1529 (lv_at hl 1 rfl) ?_
        refine lv_if_ne hx hb (tgt := 1546) dL_law_1531 (by decide) (fun hc => absurd rfl hc) (fun hc => ?_)
        refine lv_aload_n hx hb dL_law_1534 rfl (lv_at hl 3 rfl) ?_
        refine lv_iconst (v := nI 0) hx hb dL_law_1535 (by decide) ?_
        refine gw_lald_n hx hb hK hG hao2 1 rfl (by omega) (by omega) dL_law_1536 ?_
        refine gw_asl (y := r0.toInt64) (if_pos rfl) ?_
        refine lv_iload hx hb dL_law_1537 (lv_at hl 0 rfl) ?_
        refine lv_i2l hx hb dL_law_1539 rfl ?_
        refine W.lcmp hx hb dL_law_1540 ?_
        refine lv_if_eq hx hb (tgt := 1546) dL_law_1541 (by decide) (fun hc => ?_) (fun hc => absurd (lcmp_of (congrArg Int32.toInt64 heq9)) hc)
        refine lv_goto (tgt := 1549) hx hb dL_law_1546 (by decide) ?_
        refine W.widen (k := 48 + 11 * (t + 1)) (n := 54728 + 662 * (t + 1)) (by omega) (by omega) ?_
        exact kk S M_607 ro _ _ ls ⟨hCS2, ⟨_, _, _, _, _, _, hmd2, hrel⟩, ⟨_, hao2⟩, hLR1, (hInv).mono (Nat.le_succ t)⟩ hG (lv_sub hl [2, 3, 4, 5, 6] rfl)
      · rw [hz] at e2
        have hsb : (xs (i + 2) - nI 2).toNatClampNeg = q := by rw [e2, pk_sub (by omega), Nat.add_sub_cancel, nI_clamp (by omega)]
        obtain ⟨hCS1, hmd1, hao1, hLR1⟩ := LJ_out (e := .inl (K.2.1 1, 1, .inr (.inl (vp_updL o9 0 r0.toInt64)))) (show CS K M0 ro x S by rw [hM0]; exact hCS) (show ofr 60 1000 M M0 ro ro by rw [hM0]; exact ofr.rf) hmd hao ha0 hLR
        rw [← hM1] at hCS1 hmd1 hao1
        refine lv_istore (lv' := [(5, .int (nI 0)), (4, .int (nI i)), (3, .ref ao), (2, .ref mo), (1, .ref x), (0, .ref b)]) hx hb dL_law_1498 hl (by decide) rfl (fun ls hl => ?_)
        refine lv_aload_n hx hb dL_law_1500 rfl (lv_at hl 3 rfl) ?_
        refine lv_aload_n hx hb dL_law_1501 rfl (lv_at hl 5 rfl) ?_
        refine lv_iload hx hb dL_law_1502 (lv_at hl 1 rfl) ?_
        refine lv_iconst (v := nI 1) hx hb dL_law_1504 (by decide) ?_
        refine gw_iadd hx hb dL_law_1505 ?_
        refine va_sld hx hb hX hbl hbA hG.S (gw_in (j := i + 1) (by omega) (by omega)) dL_law_1506 ?_
        refine gw_as (y := xs (i + 1)) (congrArg xs (nI_clamp (by omega))) ?_
        refine gw_as e1 ?_
        refine lv_aload_n hx hb dL_law_1507 rfl (lv_at hl 5 rfl) ?_
        refine lv_iload hx hb dL_law_1508 (lv_at hl 1 rfl) ?_
        refine lv_iconst (v := nI 2) hx hb dL_law_1510 (by decide) ?_
        refine gw_iadd hx hb dL_law_1511 ?_
        refine va_sld hx hb hX hbl hbA hG.S (gw_in (j := i + 2) (by omega) (by omega)) dL_law_1512 ?_
        refine gw_as (y := xs (i + 2)) (congrArg xs (nI_clamp (by omega))) ?_
        refine gw_as e2 ?_
        refine gw_calli (va_runV (As := [.int (nI k), .int (nI (q + 2))]) (rest := []) ⟨hx, hb, hml, hown, hts⟩ (m_messageV l K M_589 mo ad _ _ _ _ _ _ _ _ k q hmd1 hk (by omega)) (cwV 2 hts gL_law_X3_message rfl rfl rfl (by decide +kernel) ⟨Nat.le_of_ble_eq_true rfl, Nat.le_of_ble_eq_true rfl⟩) (gw_preV hG hT hmd1.2.1 rfl) rfl rfl hl.1 rfl (lv_room (Nat.le_of_ble_eq_true rfl)) dL_law_1513 ⟨show 48 + 11 * t + 2 + 0 ≤ 601024 by omega, show 54728 + 662 * t + 12 + 0 ≤ 7293034 by omega⟩) hG (fun r_610 M_611 H locs hw hG => ?_)
        obtain ⟨hv2, hmd2, hf2⟩ := hw
        have heq9 : r0 = r_610 := (((hv.trans (if_neg (by rw [e2]; exact nI_ne0 (by omega) (by omega)))).trans (if_neg (by rw [e2]; exact fun z9 => absurd ((nI_eq (a := q + 2) (b := 1) (by omega) (by omega)).mp z9) (by omega)))).trans (by rw [hsb]; exact (hrel.2 k hk).1.1 q (by omega))).trans hv2.symm
        obtain ⟨hCS2, hao2⟩ := LJ_mod hCS1 hmd1 hao1 hLR1 hf2
        refine lv_istore (lv' := [(6, .int r_610), (5, .int (nI 0)), (4, .int (nI i)), (3, .ref ao), (2, .ref mo), (1, .ref x), (0, .ref b)]) hx hb dL_law_1516 hl (by decide) rfl (fun ls hl => ?_)
        refine lv_aload_n hx hb dL_law_1518 rfl (lv_at hl 4 rfl) ?_
        refine gw_calli (va_runV (As := []) (rest := []) ⟨hx, hb, hml, hown, hts⟩ (c_thrown l K M_611 mo ad _ _ _ _ _ _ _ _ hmd2) (cwV 0 hts gL_law_X3_thrown rfl rfl rfl (by decide +kernel) ⟨Nat.le_of_ble_eq_true rfl, Nat.le_of_ble_eq_true rfl⟩) (gw_preV hG hT hmd2.2.1 rfl) rfl rfl hl.1 rfl (lv_room (Nat.le_of_ble_eq_true rfl)) dL_law_1519 ⟨show 48 + 11 * t + 2 + 0 ≤ 601024 by omega, show 54728 + 662 * t + 12 + 0 ≤ 7293034 by omega⟩) hG (fun r_612 M_613 H locs hw hG => ?_)
        rw [hw.1] at hG
        refine gw_as hw.2 ?_
        refine lv_iload hx hb dL_law_1522 (lv_at hl 1 rfl) ?_
        refine lv_icmp_eq hx hb (tgt := 1529) dL_law_1524 (by decide) (fun hc => ?_) (fun hc => absurd rfl hc)
        refine lv_iload hx hb dL_law_1529 (lv_at hl 1 rfl) ?_
        refine lv_if_ne hx hb (tgt := 1546) dL_law_1531 (by decide) (fun hc => absurd rfl hc) (fun hc => ?_)
        refine lv_aload_n hx hb dL_law_1534 rfl (lv_at hl 3 rfl) ?_
        refine lv_iconst (v := nI 0) hx hb dL_law_1535 (by decide) ?_
        refine gw_lald_n hx hb hK hG hao2 1 rfl (by omega) (by omega) dL_law_1536 ?_
        refine gw_asl (y := r0.toInt64) (if_pos rfl) ?_
        refine lv_iload hx hb dL_law_1537 (lv_at hl 0 rfl) ?_
        refine lv_i2l hx hb dL_law_1539 rfl ?_
        refine W.lcmp hx hb dL_law_1540 ?_
        refine lv_if_eq hx hb (tgt := 1546) dL_law_1541 (by decide) (fun hc => ?_) (fun hc => absurd (lcmp_of (congrArg Int32.toInt64 heq9)) hc)
        refine lv_goto (tgt := 1549) hx hb dL_law_1546 (by decide) ?_
        refine W.widen (k := 48 + 11 * (t + 1)) (n := 54728 + 662 * (t + 1)) (by omega) (by omega) ?_
        exact kk S M_611 ro _ _ ls ⟨hCS2, ⟨_, _, _, _, _, _, hmd2, hrel⟩, ⟨_, hao2⟩, hLR1, (hInv).mono (Nat.le_succ t)⟩ hG (lv_sub hl [2, 3, 4, 5, 6] rfl)
