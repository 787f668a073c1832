theorem dot_eq {r : Int32} {f g : Nat → Int32} {ii : Int32} {pl b : Nat} (hr : r = if mko f pl ii 6 = -1 then -1 else f (pl * 6 + (mko f pl ii 6).toNatClampNeg)) (he : mko f pl ii 6 = mgo g b ii 6) (hn : ∀ j, j < 6 → f (pl * 6 + j) = g (b + j)) : r = if mgo g b ii 6 = -1 then -1 else g (b + (mgo g b ii 6).toNatClampNeg) := by
  rw [hr, he]
  rcases mgo_form g b ii 6 with hA | ⟨mk, hmk, hA⟩
  · rw [if_pos hA, if_pos hA]
  · have h1 : mgo g b ii 6 ≠ -1 := by rw [hA]; exact nI_ne1 (by omega)
    rw [if_neg h1, if_neg h1, hA, nI_clamp (by omega)]
    exact hn mk hmk
theorem val_eq {r : Int32} {f g w u : Nat → Int32} {ii : Int32} {pl b kb ub : Nat} (hr : r = if mko f pl ii 6 = -1 then 0 else w (kb + (mko f pl ii 6).toNatClampNeg)) (he : mko f pl ii 6 = mgo g b ii 6) (hn : ∀ j, j < 6 → w (kb + j) = u (ub + j)) : r = if mgo g b ii 6 = -1 then 0 else u (ub + (mgo g b ii 6).toNatClampNeg) := by
  rw [hr, he]
  rcases mgo_form g b ii 6 with hA | ⟨mk, hmk, hA⟩
  · rw [if_pos hA, if_pos hA]
  · have h1 : mgo g b ii 6 ≠ -1 := by rw [hA]; exact nI_ne1 (by omega)
    rw [if_neg h1, if_neg h1, hA, nI_clamp (by omega)]
    exact hn mk hmk
set_option maxHeartbeats 4000000 in
set_option maxRecDepth 100000 in
theorem law_open {p : Program} {e : Env} {s : State} {m : MethodId} {below : List Frame} {meth : Method} {c : Code} (l : Launch) (hnt : l.stackTraces = false) {b L : Nat} {xs : Nat → Int32} (K : gw_C) (x mo ao : Nat) (ad : Nat → Nat) (S : gst) (t i : Nat) (M : gw_M) (ro : Nat → Nat) (C0 : LC p s m meth c b L xs K) (hi : i + 6 ≤ L) (ht : t ≤ 511) (hJ : LJ K x mo ao ad S t M ro) {H : Heap} {locs : List Loc} (hG : gw_B K M s.heap H locs) {ls : Array Slot} (hl : lv_has ls 7 [(4, .int (nI i)), (3, .ref ao), (2, .ref mo), (1, .ref x), (0, .ref b)]) (kk : LK p l e s m below meth c b K x mo ao ad t i) : W p l e room_1 s m #[Value.ref b] below meth c H locs (48 + 11 * t) (54728 + 662 * t) (lw_Z below #[Value.ref b] s) (F0 m 136 ls []) := by
  obtain ⟨C1, hT, hA0, hL⟩ := C0
  obtain ⟨hx, hb, hr, hml, hown9, htsA, hX, hbl, hlocks, hgv⟩ := id C1
  have hown : s.vm.findClass RL = some m.cls := hown9
  have hts : ∀ w ∈ wsL_law, w.before #[Value.ref b] s = true := fun w h => htsA w (wsL_law_in w h)
  have hK := hT.K
  have hbA : ¬ gw_A K b := fun q => Nat.not_le.mpr hbl (by rw [← hA0]; exact q)
  obtain ⟨hCS, ⟨cd, tb, vb, sb, fm, tq, hmd, hrel⟩, ⟨o9, hao⟩, hLR, hInv⟩ := hJ
  have hn6 := hmd.1.1
  have hk100 := hmd.1.2
  refine lv_aload_n hx hb dL_law_136 rfl (lv_at hl 3 rfl) ?_
  refine lv_aload_n hx hb dL_law_137 rfl (lv_at hl 4 rfl) ?_
  refine lv_iload hx hb dL_law_138 (lv_at hl 0 rfl) ?_
  refine lv_iconst (v := nI 1) hx hb dL_law_140 (by decide) ?_
  refine gw_iadd hx hb dL_law_141 ?_
  refine va_sld hx hb hX hbl hbA hG.S (gw_in (j := i + 1) (by omega) (by omega)) dL_law_142 ?_
  refine gw_as (y := xs (i + 1)) (congrArg xs (nI_clamp (by omega))) ?_
  refine gw_xcalli (vx_runSX (As := [.ref x, .int (xs (i + 1))]) (rest := []) ⟨hx, hb, hml, hown, hts⟩ (w_open l hnt K M x ro S (xs (i + 1)) hCS) (vx_cwSW 2 hts gL_law_L_open rfl rfl rfl (by decide +kernel) ⟨Nat.le_of_ble_eq_true rfl, Nat.le_of_ble_eq_true rfl⟩) (gw_preS hG hT) rfl rfl hl.1 rfl (lv_room (Nat.le_of_ble_eq_true rfl)) dL_law_143 ⟨show 48 + 11 * t + 1 ≤ 601024 by omega, show 54728 + 662 * t + 6 ≤ 7293034 by omega⟩) hG (fun E9 ce9 qx9 M9 H9 locs9 hw hG h7 h8 h9 => hw.elim) (fun r_378 M_379 H locs hw hG => ?_)
  rcases hw with ⟨hr9, hM1, hC⟩ | ⟨hr9, hP⟩
  · rw [hM1] at hG
    refine gw_as hr9 ?_
    refine lv_istore (lv' := [(5, .int (nI 1)), (4, .int (nI i)), (3, .ref ao), (2, .ref mo), (1, .ref x), (0, .ref b)]) hx hb dL_law_146 hl (by decide) rfl (fun ls hl => ?_)
    refine lv_aload_n hx hb dL_law_148 rfl (lv_at hl 3 rfl) ?_
    refine lv_aload_n hx hb dL_law_149 rfl (lv_at hl 5 rfl) ?_
    refine lv_iload hx hb dL_law_150 (lv_at hl 1 rfl) ?_
    refine lv_iconst (v := nI 1) hx hb dL_law_152 (by decide) ?_
    refine gw_iadd hx hb dL_law_153 ?_
    refine va_sld hx hb hX hbl hbA hG.S (gw_in (j := i + 1) (by omega) (by omega)) dL_law_154 ?_
    refine gw_as (y := xs (i + 1)) (congrArg xs (nI_clamp (by omega))) ?_
    refine gw_callv (va_runV (As := [.int (xs (i + 1))]) (rest := []) ⟨hx, hb, hml, hown, hts⟩ (m_open_no l K M mo ad _ _ _ _ _ _ _ _ (xs (i + 1)) hmd hC) (cwV 1 hts gL_law_X3_open rfl rfl rfl (by decide +kernel) ⟨Nat.le_of_ble_eq_true rfl, Nat.le_of_ble_eq_true rfl⟩) (gw_preV hG hT hmd.2.1 rfl) rfl rfl hl.1 rfl (lv_room (Nat.le_of_ble_eq_true rfl)) dL_law_155 ⟨show 48 + 11 * t + 1 + 0 ≤ 601024 by omega, show 54728 + 662 * t + 6 + 0 ≤ 7293034 by omega⟩) hG (fun M_381 H locs hw hG => ?_)
    obtain ⟨hmd2, hf2⟩ := hw
    obtain ⟨hCS2, hao2⟩ := LJ_mod hCS hmd hao hLR hf2
    refine lv_aload_n hx hb dL_law_158 rfl (lv_at hl 3 rfl) ?_
    refine gw_calli (va_runV (As := []) (rest := []) ⟨hx, hb, hml, hown, hts⟩ (c_thrown l K M_381 mo ad _ _ _ _ _ _ _ _ hmd2) (cwV 0 hts gL_law_X3_thrown rfl rfl rfl (by decide +kernel) ⟨Nat.le_of_ble_eq_true rfl, Nat.le_of_ble_eq_true rfl⟩) (gw_preV hG hT hmd2.2.1 rfl) rfl rfl hl.1 rfl (lv_room (Nat.le_of_ble_eq_true rfl)) dL_law_159 ⟨show 48 + 11 * t + 1 + 0 ≤ 601024 by omega, show 54728 + 662 * t + 6 + 0 ≤ 7293034 by omega⟩) hG (fun r_382 M_383 H locs hw hG => ?_)
    rw [hw.1] at hG
    refine gw_as hw.2 ?_
    refine lv_iload hx hb dL_law_162 (lv_at hl 0 rfl) ?_
    refine lv_icmp_eq hx hb (tgt := 169) dL_law_164 (by decide) (fun hc => ?_) (fun hc => absurd rfl hc)
    refine lv_goto (tgt := 1549) hx hb dL_law_169 (by decide) ?_
    refine W.widen (k := 48 + 11 * (t + 1)) (n := 54728 + 662 * (t + 1)) (by omega) (by omega) ?_
    exact kk S M_381 ro _ _ ls ⟨hCS2, ⟨_, _, _, _, _, _, hmd2, hrel⟩, ⟨_, hao2⟩, hLR, (hInv).mono (Nat.le_succ t)⟩ hG (lv_sub hl [1, 2, 3, 4, 5] rfl)
  · refine gw_as hr9 ?_
    obtain ⟨k9, hk9, e1, ro1, hC9, hof⟩ := hP
    obtain ⟨hmd1, hao1, hLR1⟩ := LJ_void hof hmd hao hLR
    have hCS1 := hC9
    refine lv_istore (lv' := [(5, .int (nI 0)), (4, .int (nI i)), (3, .ref ao), (2, .ref mo), (1, .ref x), (0, .ref b)]) hx hb dL_law_146 hl (by decide) rfl (fun ls hl => ?_)
    refine lv_aload_n hx hb dL_law_148 rfl (lv_at hl 3 rfl) ?_
    refine lv_aload_n hx hb dL_law_149 rfl (lv_at hl 5 rfl) ?_
    refine lv_iload hx hb dL_law_150 (lv_at hl 1 rfl) ?_
    refine lv_iconst (v := nI 1) hx hb dL_law_152 (by decide) ?_
    refine gw_iadd hx hb dL_law_153 ?_
    refine va_sld hx hb hX hbl hbA hG.S (gw_in (j := i + 1) (by omega) (by omega)) dL_law_154 ?_
    refine gw_as (y := xs (i + 1)) (congrArg xs (nI_clamp (by omega))) ?_
    refine gw_as e1 ?_
    refine gw_callv (va_runV (As := [.int (nI k9)]) (rest := []) ⟨hx, hb, hml, hown, hts⟩ (m_open l K M_379 mo ad _ _ _ _ _ _ _ _ k9 hmd1 hk9) (cwV 1 hts gL_law_X3_open rfl rfl rfl (by decide +kernel) ⟨Nat.le_of_ble_eq_true rfl, Nat.le_of_ble_eq_true rfl⟩) (gw_preV hG hT hmd1.2.1 rfl) rfl rfl hl.1 rfl (lv_room (Nat.le_of_ble_eq_true rfl)) dL_law_155 ⟨show 48 + 11 * t + 1 + 0 ≤ 601024 by omega, show 54728 + 662 * t + 6 + 0 ≤ 7293034 by omega⟩) hG (fun M_385 H locs hw hG => ?_)
    obtain ⟨hmd2, hf2⟩ := hw
    obtain ⟨hCS2, hao2⟩ := LJ_mod hCS1 hmd1 hao1 hLR1 hf2
    refine lv_aload_n hx hb dL_law_158 rfl (lv_at hl 3 rfl) ?_
    refine gw_calli (va_runV (As := []) (rest := []) ⟨hx, hb, hml, hown, hts⟩ (c_thrown l K M_385 mo ad _ _ _ _ _ _ _ _ hmd2) (cwV 0 hts gL_law_X3_thrown rfl rfl rfl (by decide +kernel) ⟨Nat.le_of_ble_eq_true rfl, Nat.le_of_ble_eq_true rfl⟩) (gw_preV hG hT hmd2.2.1 rfl) rfl rfl hl.1 rfl (lv_room (Nat.le_of_ble_eq_true rfl)) dL_law_159 ⟨show 48 + 11 * t + 1 + 0 ≤ 601024 by omega, show 54728 + 662 * t + 6 + 0 ≤ 7293034 by omega⟩) hG (fun r_386 M_387 H locs hw hG => ?_)
    rw [hw.1] at hG
    refine gw_as hw.2 ?_
    refine lv_iload hx hb dL_law_162 (lv_at hl 0 rfl) ?_
    refine lv_icmp_eq hx hb (tgt := 169) dL_law_164 (by decide) (fun hc => ?_) (fun hc => absurd rfl hc)
    refine lv_goto (tgt := 1549) hx hb dL_law_169 (by decide) ?_
    refine W.widen (k := 48 + 11 * (t + 1)) (n := 54728 + 662 * (t + 1)) (by omega) (by omega) ?_
    exact kk (sopen S k9) M_385 ro1 _ _ ls ⟨hCS2, ⟨_, _, _, _, _, _, hmd2, rel_open⟩, ⟨_, hao2⟩, hLR1, Inv_open⟩ hG (lv_sub hl [1, 2, 3, 4, 5] rfl)

set_option maxHeartbeats 4000000 in
set_option maxRecDepth 100000 in
theorem law_add {p : Program} {e : Env} {s : State} {m : MethodId} {below : List Frame} {meth : Method} {c : Code} (l : Launch) (hnt : l.stackTraces = false) {b L : Nat} {xs : Nat → Int32} (K : gw_C) (x mo ao : Nat) (ad : Nat → Nat) (S : gst) (t i : Nat) (M : gw_M) (ro : Nat → Nat) (C0 : LC p s m meth c b L xs K) (hi : i + 6 ≤ L) (ht : t ≤ 511) (hJ : LJ K x mo ao ad S t M ro) {H : Heap} {locs : List Loc} (hG : gw_B K M s.heap H locs) {ls : Array Slot} (hl : lv_has ls 7 [(4, .int (nI i)), (3, .ref ao), (2, .ref mo), (1, .ref x), (0, .ref b)]) (kk : LK p l e s m below meth c b K x mo ao ad t i) : W p l e room_1 s m #[Value.ref b] below meth c H locs (48 + 11 * t) (54728 + 662 * t) (lw_Z below #[Value.ref b] s) (F0 m 172 ls []) := by
  obtain ⟨C1, hT, hA0, hL⟩ := C0
  obtain ⟨hx, hb, hr, hml, hown9, htsA, hX, hbl, hlocks, hgv⟩ := id C1
  have hown : s.vm.findClass RL = some m.cls := hown9
  have hts : ∀ w ∈ wsL_law, w.before #[Value.ref b] s = true := fun w h => htsA w (wsL_law_in w h)
  have hK := hT.K
  have hbA : ¬ gw_A K b := fun q => Nat.not_le.mpr hbl (by rw [← hA0]; exact q)
  obtain ⟨hCS, ⟨cd, tb, vb, sb, fm, tq, hmd, hrel⟩, ⟨o9, hao⟩, hLR, hInv⟩ := hJ
  have hn6 := hmd.1.1
  have hk100 := hmd.1.2
  refine lv_aload_n hx hb dL_law_172 rfl (lv_at hl 3 rfl) ?_
  refine lv_aload_n hx hb dL_law_173 rfl (lv_at hl 4 rfl) ?_
  refine lv_iload hx hb dL_law_174 (lv_at hl 0 rfl) ?_
  refine lv_iconst (v := nI 1) hx hb dL_law_176 (by decide) ?_
  refine gw_iadd hx hb dL_law_177 ?_
  refine va_sld hx hb hX hbl hbA hG.S (gw_in (j := i + 1) (by omega) (by omega)) dL_law_178 ?_
  refine gw_as (y := xs (i + 1)) (congrArg xs (nI_clamp (by omega))) ?_
  refine lv_aload_n hx hb dL_law_179 rfl (lv_at hl 4 rfl) ?_
  refine lv_iload hx hb dL_law_180 (lv_at hl 0 rfl) ?_
  refine lv_iconst (v := nI 2) hx hb dL_law_182 (by decide) ?_
  refine gw_iadd hx hb dL_law_183 ?_
  refine va_sld hx hb hX hbl hbA hG.S (gw_in (j := i + 2) (by omega) (by omega)) dL_law_184 ?_
  refine gw_as (y := xs (i + 2)) (congrArg xs (nI_clamp (by omega))) ?_
  refine lv_aload_n hx hb dL_law_185 rfl (lv_at hl 4 rfl) ?_
  refine lv_iload hx hb dL_law_186 (lv_at hl 0 rfl) ?_
  refine lv_iconst (v := nI 3) hx hb dL_law_188 (by decide) ?_
  refine gw_iadd hx hb dL_law_189 ?_
  refine va_sld hx hb hX hbl hbA hG.S (gw_in (j := i + 3) (by omega) (by omega)) dL_law_190 ?_
  refine gw_as (y := xs (i + 3)) (congrArg xs (nI_clamp (by omega))) ?_
  refine lv_aload_n hx hb dL_law_191 rfl (lv_at hl 1 rfl) ?_
  refine gw_xcalli (vx_runSX (As := [.ref x, .int (xs (i + 1)), .int (xs (i + 2)), .int (xs (i + 3)), .ref ao]) (rest := []) ⟨hx, hb, hml, hown, hts⟩ (w_add l hnt K M x ro S (xs (i + 1)) (xs (i + 2)) (xs (i + 3)) ao o9 hCS hao hLR.2.2) (vx_cwSW 5 hts gL_law_L_add rfl rfl rfl (by decide +kernel) ⟨Nat.le_of_ble_eq_true rfl, Nat.le_of_ble_eq_true rfl⟩) (gw_preS hG hT) rfl rfl hl.1 rfl (lv_room (Nat.le_of_ble_eq_true rfl)) dL_law_192 ⟨show 48 + 11 * t + 3 ≤ 601024 by omega, show 54728 + 662 * t + 18 ≤ 7293034 by omega⟩) hG (fun E9 ce9 qx9 M9 H9 locs9 hw hG h7 h8 h9 => hw.elim) (fun r_388 M_389 H locs hw hG => ?_)
  rcases hw with ⟨hr9, hM1, hC⟩ | ⟨hr9, r0, M0, hP, ha0, hM1⟩
  · rw [hM1] at hG
    refine gw_as hr9 ?_
    refine lv_istore (lv' := [(5, .int (nI 1)), (4, .int (nI i)), (3, .ref ao), (2, .ref mo), (1, .ref x), (0, .ref b)]) hx hb dL_law_195 hl (by decide) rfl (fun ls hl => ?_)
    refine lv_aload_n hx hb dL_law_197 rfl (lv_at hl 3 rfl) ?_
    refine lv_aload_n hx hb dL_law_198 rfl (lv_at hl 5 rfl) ?_
    refine lv_iload hx hb dL_law_199 (lv_at hl 1 rfl) ?_
    refine lv_iconst (v := nI 1) hx hb dL_law_201 (by decide) ?_
    refine gw_iadd hx hb dL_law_202 ?_
    refine va_sld hx hb hX hbl hbA hG.S (gw_in (j := i + 1) (by omega) (by omega)) dL_law_203 ?_
    refine gw_as (y := xs (i + 1)) (congrArg xs (nI_clamp (by omega))) ?_
    refine lv_aload_n hx hb dL_law_204 rfl (lv_at hl 5 rfl) ?_
    refine lv_iload hx hb dL_law_205 (lv_at hl 1 rfl) ?_
    refine lv_iconst (v := nI 2) hx hb dL_law_207 (by decide) ?_
    refine gw_iadd hx hb dL_law_208 ?_
    refine va_sld hx hb hX hbl hbA hG.S (gw_in (j := i + 2) (by omega) (by omega)) dL_law_209 ?_
    refine gw_as (y := xs (i + 2)) (congrArg xs (nI_clamp (by omega))) ?_
    refine lv_aload_n hx hb dL_law_210 rfl (lv_at hl 5 rfl) ?_
    refine lv_iload hx hb dL_law_211 (lv_at hl 1 rfl) ?_
    refine lv_iconst (v := nI 3) hx hb dL_law_213 (by decide) ?_
    refine gw_iadd hx hb dL_law_214 ?_
    refine va_sld hx hb hX hbl hbA hG.S (gw_in (j := i + 3) (by omega) (by omega)) dL_law_215 ?_
    refine gw_as (y := xs (i + 3)) (congrArg xs (nI_clamp (by omega))) ?_
    refine gw_calli (va_runV (As := [.int (xs (i + 1)), .int (xs (i + 2)), .int (xs (i + 3))]) (rest := []) ⟨hx, hb, hml, hown, hts⟩ (m_add_no l K M mo ad _ _ _ _ _ _ _ _ (xs (i + 1)) (xs (i + 2)) (xs (i + 3)) hmd hC) (cwV 3 hts gL_law_X3_add rfl rfl rfl (by decide +kernel) ⟨Nat.le_of_ble_eq_true rfl, Nat.le_of_ble_eq_true rfl⟩) (gw_preV hG hT hmd.2.1 rfl) rfl rfl hl.1 rfl (lv_room (Nat.le_of_ble_eq_true rfl)) dL_law_216 ⟨show 48 + 11 * t + 3 + 0 ≤ 601024 by omega, show 54728 + 662 * t + 18 + 0 ≤ 7293034 by omega⟩) hG (fun r_390 M_391 H locs hw hG => ?_)
    obtain ⟨hmd2, hf2⟩ := hw
    obtain ⟨hCS2, hao2⟩ := LJ_mod hCS hmd hao hLR hf2
    refine lv_istore (lv' := [(6, .int r_390), (5, .int (nI 1)), (4, .int (nI i)), (3, .ref ao), (2, .ref mo), (1, .ref x), (0, .ref b)]) hx hb dL_law_219 hl (by decide) rfl (fun ls hl => ?_)
    refine lv_aload_n hx hb dL_law_221 rfl (lv_at hl 4 rfl) ?_
    refine gw_calli (va_runV (As := []) (rest := []) ⟨hx, hb, hml, hown, hts⟩ (c_thrown l K M_391 mo ad _ _ _ _ _ _ _ _ hmd2) (cwV 0 hts gL_law_X3_thrown rfl rfl rfl (by decide +kernel) ⟨Nat.le_of_ble_eq_true rfl, Nat.le_of_ble_eq_true rfl⟩) (gw_preV hG hT hmd2.2.1 rfl) rfl rfl hl.1 rfl (lv_room (Nat.le_of_ble_eq_true rfl)) dL_law_222 ⟨show 48 + 11 * t + 3 + 0 ≤ 601024 by omega, show 54728 + 662 * t + 18 + 0 ≤ 7293034 by omega⟩) hG (fun r_392 M_393 H locs hw hG => ?_)
    rw [hw.1] at hG
    refine gw_as hw.2 ?_
    refine lv_iload hx hb dL_law_225 (lv_at hl 1 rfl) ?_
    refine lv_icmp_eq hx hb (tgt := 232) dL_law_227 (by decide) (fun hc => ?_) (fun hc => absurd rfl hc)
    refine lv_iload hx hb dL_law_232 (lv_at hl 1 rfl) ?_
    refine lv_if_ne hx hb (tgt := 249) dL_law_234 (by decide) (fun hc => ?_) (fun hc => absurd hc (by decide))
    refine lv_goto (tgt := 1549) hx hb dL_law_249 (by decide) ?_
    refine W.widen (k := 48 + 11 * (t + 1)) (n := 54728 + 662 * (t + 1)) (by omega) (by omega) ?_
    exact kk S M_391 ro _ _ ls ⟨hCS2, ⟨_, _, _, _, _, _, hmd2, hrel⟩, ⟨_, hao2⟩, hLR, (hInv).mono (Nat.le_succ t)⟩ hG (lv_sub hl [2, 3, 4, 5, 6] rfl)
  · refine gw_as hr9 ?_
    obtain ⟨rk, ks, ke, ⟨hrk, e1⟩, ⟨hks, e2⟩, ⟨hke, e3⟩, hv, hC9, hof⟩ := hP
    have h6 : rk < 6 := by omega
    obtain ⟨hCS1, hmd1, hao1, hLR1⟩ := LJ_out (e := .inl (K.2.1 1, 1, .inr (.inl (vp_updL o9 0 r0.toInt64)))) hC9 hof hmd hao ha0 hLR
    rw [← hM1] at hCS1 hmd1 hao1
    refine lv_istore (lv' := [(5, .int (nI 0)), (4, .int (nI i)), (3, .ref ao), (2, .ref mo), (1, .ref x), (0, .ref b)]) hx hb dL_law_195 hl (by decide) rfl (fun ls hl => ?_)
    refine lv_aload_n hx hb dL_law_197 rfl (lv_at hl 3 rfl) ?_
    refine lv_aload_n hx hb dL_law_198 rfl (lv_at hl 5 rfl) ?_
    refine lv_iload hx hb dL_law_199 (lv_at hl 1 rfl) ?_
    refine lv_iconst (v := nI 1) hx hb dL_law_201 (by decide) ?_
    refine gw_iadd hx hb dL_law_202 ?_
    refine va_sld hx hb hX hbl hbA hG.S (gw_in (j := i + 1) (by omega) (by omega)) dL_law_203 ?_
    refine gw_as (y := xs (i + 1)) (congrArg xs (nI_clamp (by omega))) ?_
    refine gw_as e1 ?_
    refine lv_aload_n hx hb dL_law_204 rfl (lv_at hl 5 rfl) ?_
    refine lv_iload hx hb dL_law_205 (lv_at hl 1 rfl) ?_
    refine lv_iconst (v := nI 2) hx hb dL_law_207 (by decide) ?_
    refine gw_iadd hx hb dL_law_208 ?_
    refine va_sld hx hb hX hbl hbA hG.S (gw_in (j := i + 2) (by omega) (by omega)) dL_law_209 ?_
    refine gw_as (y := xs (i + 2)) (congrArg xs (nI_clamp (by omega))) ?_
    refine gw_as e2 ?_
    refine lv_aload_n hx hb dL_law_210 rfl (lv_at hl 5 rfl) ?_
    refine lv_iload hx hb dL_law_211 (lv_at hl 1 rfl) ?_
    refine lv_iconst (v := nI 3) hx hb dL_law_213 (by decide) ?_
    refine gw_iadd hx hb dL_law_214 ?_
    refine va_sld hx hb hX hbl hbA hG.S (gw_in (j := i + 3) (by omega) (by omega)) dL_law_215 ?_
    refine gw_as (y := xs (i + 3)) (congrArg xs (nI_clamp (by omega))) ?_
    refine gw_as e3 ?_
    refine gw_calli (va_runV (As := [.int (nI rk), .int (nI ks), .int (nI ke)]) (rest := []) ⟨hx, hb, hml, hown, hts⟩ (m_add l K M_389 mo ad _ _ _ _ _ _ _ _ rk ks ke hmd1 hrk hks hke) (cwV 3 hts gL_law_X3_add rfl rfl rfl (by decide +kernel) ⟨Nat.le_of_ble_eq_true rfl, Nat.le_of_ble_eq_true rfl⟩) (gw_preV hG hT hmd1.2.1 rfl) rfl rfl hl.1 rfl (lv_room (Nat.le_of_ble_eq_true rfl)) dL_law_216 ⟨show 48 + 11 * t + 3 + 0 ≤ 601024 by omega, show 54728 + 662 * t + 18 + 0 ≤ 7293034 by omega⟩) hG (fun r_394 M_395 H locs hw hG => ?_)
    obtain ⟨hv2, hmd2, hf2⟩ := hw
    have heq9 : r0 = r_394 := (hv.trans (congrArg (· + nI 1) ((hrel.1 rk h6).1 rk h6))).trans hv2.symm
    obtain ⟨hCS2, hao2⟩ := LJ_mod hCS1 hmd1 hao1 hLR1 hf2
    refine lv_istore (lv' := [(6, .int r_394), (5, .int (nI 0)), (4, .int (nI i)), (3, .ref ao), (2, .ref mo), (1, .ref x), (0, .ref b)]) hx hb dL_law_219 hl (by decide) rfl (fun ls hl => ?_)
    refine lv_aload_n hx hb dL_law_221 rfl (lv_at hl 4 rfl) ?_
    refine gw_calli (va_runV (As := []) (rest := []) ⟨hx, hb, hml, hown, hts⟩ (c_thrown l K M_395 mo ad _ _ _ _ _ _ _ _ hmd2) (cwV 0 hts gL_law_X3_thrown rfl rfl rfl (by decide +kernel) ⟨Nat.le_of_ble_eq_true rfl, Nat.le_of_ble_eq_true rfl⟩) (gw_preV hG hT hmd2.2.1 rfl) rfl rfl hl.1 rfl (lv_room (Nat.le_of_ble_eq_true rfl)) dL_law_222 ⟨show 48 + 11 * t + 3 + 0 ≤ 601024 by omega, show 54728 + 662 * t + 18 + 0 ≤ 7293034 by omega⟩) hG (fun r_396 M_397 H locs hw hG => ?_)
    rw [hw.1] at hG
    refine gw_as hw.2 ?_
    refine lv_iload hx hb dL_law_225 (lv_at hl 1 rfl) ?_
    refine lv_icmp_eq hx hb (tgt := 232) dL_law_227 (by decide) (fun hc => ?_) (fun hc => absurd rfl hc)
    refine lv_iload hx hb dL_law_232 (lv_at hl 1 rfl) ?_
    refine lv_if_ne hx hb (tgt := 249) dL_law_234 (by decide) (fun hc => absurd rfl hc) (fun hc => ?_)
    refine lv_aload_n hx hb dL_law_237 rfl (lv_at hl 3 rfl) ?_
    refine lv_iconst (v := nI 0) hx hb dL_law_238 (by decide) ?_
    refine gw_lald_n hx hb hK hG hao2 1 rfl (by omega) (by omega) dL_law_239 ?_
    refine gw_asl (y := r0.toInt64) (if_pos rfl) ?_
    refine lv_iload hx hb dL_law_240 (lv_at hl 0 rfl) ?_
    refine lv_i2l hx hb dL_law_242 rfl ?_
    refine W.lcmp hx hb dL_law_243 ?_
    refine lv_if_eq hx hb (tgt := 249) dL_law_244 (by decide) (fun hc => ?_) (fun hc => absurd (lcmp_of (congrArg Int32.toInt64 heq9)) hc)
    refine lv_goto (tgt := 1549) hx hb dL_law_249 (by decide) ?_
    refine W.widen (k := 48 + 11 * (t + 1)) (n := 54728 + 662 * (t + 1)) (by omega) (by omega) ?_
    exact kk (shold S rk (vadd (S.2.1 rk) rk (ks * 16 + ke))) M_395 ro _ _ ls ⟨hCS2, ⟨_, _, _, _, _, _, hmd2, rel_hold hrel h6 (lc_new h6 (by omega)) (lc.rf _ _ _) (lc.rf _ _ _) (veq_add (hrel.1 rk h6) h6 (by omega) (by omega))⟩, ⟨_, hao2⟩, hLR1, Inv_add hInv h6 (by omega) (by omega)⟩ hG (lv_sub hl [2, 3, 4, 5, 6] rfl)

set_option maxHeartbeats 4000000 in
set_option maxRecDepth 100000 in
theorem law_remove {p : Program} {e : Env} {s : State} {m : MethodId} {below : List Frame} {meth : Method} {c : Code} (l : Launch) (hnt : l.stackTraces = false) {b L : Nat} {xs : Nat → Int32} (K : gw_C) (x mo ao : Nat) (ad : Nat → Nat) (S : gst) (t i : Nat) (M : gw_M) (ro : Nat → Nat) (C0 : LC p s m meth c b L xs K) (hi : i + 6 ≤ L) (ht : t ≤ 511) (hJ : LJ K x mo ao ad S t M ro) {H : Heap} {locs : List Loc} (hG : gw_B K M s.heap H locs) {ls : Array Slot} (hl : lv_has ls 7 [(4, .int (nI i)), (3, .ref ao), (2, .ref mo), (1, .ref x), (0, .ref b)]) (kk : LK p l e s m below meth c b K x mo ao ad t i) : W p l e room_1 s m #[Value.ref b] below meth c H locs (48 + 11 * t) (54728 + 662 * t) (lw_Z below #[Value.ref b] s) (F0 m 252 ls []) := by
  obtain ⟨C1, hT, hA0, hL⟩ := C0
  obtain ⟨hx, hb, hr, hml, hown9, htsA, hX, hbl, hlocks, hgv⟩ := id C1
  have hown : s.vm.findClass RL = some m.cls := hown9
  have hts : ∀ w ∈ wsL_law, w.before #[Value.ref b] s = true := fun w h => htsA w (wsL_law_in w h)
  have hK := hT.K
  have hbA : ¬ gw_A K b := fun q => Nat.not_le.mpr hbl (by rw [← hA0]; exact q)
  obtain ⟨hCS, ⟨cd, tb, vb, sb, fm, tq, hmd, hrel⟩, ⟨o9, hao⟩, hLR, hInv⟩ := hJ
  have hn6 := hmd.1.1
  have hk100 := hmd.1.2
  refine lv_aload_n hx hb dL_law_252 rfl (lv_at hl 3 rfl) ?_
  refine lv_aload_n hx hb dL_law_253 rfl (lv_at hl 4 rfl) ?_
  refine lv_iload hx hb dL_law_254 (lv_at hl 0 rfl) ?_
  refine lv_iconst (v := nI 1) hx hb dL_law_256 (by decide) ?_
  refine gw_iadd hx hb dL_law_257 ?_
  refine va_sld hx hb hX hbl hbA hG.S (gw_in (j := i + 1) (by omega) (by omega)) dL_law_258 ?_
  refine gw_as (y := xs (i + 1)) (congrArg xs (nI_clamp (by omega))) ?_
  refine lv_aload_n hx hb dL_law_259 rfl (lv_at hl 4 rfl) ?_
  refine lv_iload hx hb dL_law_260 (lv_at hl 0 rfl) ?_
  refine lv_iconst (v := nI 2) hx hb dL_law_262 (by decide) ?_
  refine gw_iadd hx hb dL_law_263 ?_
  refine va_sld hx hb hX hbl hbA hG.S (gw_in (j := i + 2) (by omega) (by omega)) dL_law_264 ?_
  refine gw_as (y := xs (i + 2)) (congrArg xs (nI_clamp (by omega))) ?_
  refine lv_aload_n hx hb dL_law_265 rfl (lv_at hl 4 rfl) ?_
  refine lv_iload hx hb dL_law_266 (lv_at hl 0 rfl) ?_
  refine lv_iconst (v := nI 3) hx hb dL_law_268 (by decide) ?_
  refine gw_iadd hx hb dL_law_269 ?_
  refine va_sld hx hb hX hbl hbA hG.S (gw_in (j := i + 3) (by omega) (by omega)) dL_law_270 ?_
  refine gw_as (y := xs (i + 3)) (congrArg xs (nI_clamp (by omega))) ?_
  refine lv_aload_n hx hb dL_law_271 rfl (lv_at hl 1 rfl) ?_
  refine gw_xcalli (vx_runSX (As := [.ref x, .int (xs (i + 1)), .int (xs (i + 2)), .int (xs (i + 3)), .ref ao]) (rest := []) ⟨hx, hb, hml, hown, hts⟩ (w_remove l hnt K M x ro S (xs (i + 1)) (xs (i + 2)) (xs (i + 3)) ao o9 hCS hao hLR.2.2) (vx_cwSW 5 hts gL_law_L_remove rfl rfl rfl (by decide +kernel) ⟨Nat.le_of_ble_eq_true rfl, Nat.le_of_ble_eq_true rfl⟩) (gw_preS hG hT) rfl rfl hl.1 rfl (lv_room (Nat.le_of_ble_eq_true rfl)) dL_law_272 ⟨show 48 + 11 * t + 3 ≤ 601024 by omega, show 54728 + 662 * t + 18 ≤ 7293034 by omega⟩) hG (fun E9 ce9 qx9 M9 H9 locs9 hw hG h7 h8 h9 => hw.elim) (fun r_398 M_399 H locs hw hG => ?_)
  rcases hw with ⟨hr9, hM1, hC⟩ | ⟨hr9, r0, M0, hP, ha0, hM1⟩
  · rw [hM1] at hG
    refine gw_as hr9 ?_
    refine lv_istore (lv' := [(5, .int (nI 1)), (4, .int (nI i)), (3, .ref ao), (2, .ref mo), (1, .ref x), (0, .ref b)]) hx hb dL_law_275 hl (by decide) rfl (fun ls hl => ?_)
    refine lv_aload_n hx hb dL_law_277 rfl (lv_at hl 3 rfl) ?_
    refine lv_aload_n hx hb dL_law_278 rfl (lv_at hl 5 rfl) ?_
    refine lv_iload hx hb dL_law_279 (lv_at hl 1 rfl) ?_
    refine lv_iconst (v := nI 1) hx hb dL_law_281 (by decide) ?_
    refine gw_iadd hx hb dL_law_282 ?_
    refine va_sld hx hb hX hbl hbA hG.S (gw_in (j := i + 1) (by omega) (by omega)) dL_law_283 ?_
    refine gw_as (y := xs (i + 1)) (congrArg xs (nI_clamp (by omega))) ?_
    refine lv_aload_n hx hb dL_law_284 rfl (lv_at hl 5 rfl) ?_
    refine lv_iload hx hb dL_law_285 (lv_at hl 1 rfl) ?_
    refine lv_iconst (v := nI 2) hx hb dL_law_287 (by decide) ?_
    refine gw_iadd hx hb dL_law_288 ?_
    refine va_sld hx hb hX hbl hbA hG.S (gw_in (j := i + 2) (by omega) (by omega)) dL_law_289 ?_
    refine gw_as (y := xs (i + 2)) (congrArg xs (nI_clamp (by omega))) ?_
    refine lv_aload_n hx hb dL_law_290 rfl (lv_at hl 5 rfl) ?_
    refine lv_iload hx hb dL_law_291 (lv_at hl 1 rfl) ?_
    refine lv_iconst (v := nI 3) hx hb dL_law_293 (by decide) ?_
    refine gw_iadd hx hb dL_law_294 ?_
    refine va_sld hx hb hX hbl hbA hG.S (gw_in (j := i + 3) (by omega) (by omega)) dL_law_295 ?_
    refine gw_as (y := xs (i + 3)) (congrArg xs (nI_clamp (by omega))) ?_
    refine gw_calli (va_runV (As := [.int (xs (i + 1)), .int (xs (i + 2)), .int (xs (i + 3))]) (rest := []) ⟨hx, hb, hml, hown, hts⟩ (m_remove_no l K M mo ad _ _ _ _ _ _ _ _ (xs (i + 1)) (xs (i + 2)) (xs (i + 3)) hmd hC) (cwV 3 hts gL_law_X3_remove rfl rfl rfl (by decide +kernel) ⟨Nat.le_of_ble_eq_true rfl, Nat.le_of_ble_eq_true rfl⟩) (gw_preV hG hT hmd.2.1 rfl) rfl rfl hl.1 rfl (lv_room (Nat.le_of_ble_eq_true rfl)) dL_law_296 ⟨show 48 + 11 * t + 3 + 0 ≤ 601024 by omega, show 54728 + 662 * t + 18 + 0 ≤ 7293034 by omega⟩) hG (fun r_400 M_401 H locs hw hG => ?_)
    obtain ⟨hmd2, hf2⟩ := hw
    obtain ⟨hCS2, hao2⟩ := LJ_mod hCS hmd hao hLR hf2
    refine lv_istore (lv' := [(6, .int r_400), (5, .int (nI 1)), (4, .int (nI i)), (3, .ref ao), (2, .ref mo), (1, .ref x), (0, .ref b)]) hx hb dL_law_299 hl (by decide) rfl (fun ls hl => ?_)
    refine lv_aload_n hx hb dL_law_301 rfl (lv_at hl 4 rfl) ?_
    refine gw_calli (va_runV (As := []) (rest := []) ⟨hx, hb, hml, hown, hts⟩ (c_thrown l K M_401 mo ad _ _ _ _ _ _ _ _ hmd2) (cwV 0 hts gL_law_X3_thrown rfl rfl rfl (by decide +kernel) ⟨Nat.le_of_ble_eq_true rfl, Nat.le_of_ble_eq_true rfl⟩) (gw_preV hG hT hmd2.2.1 rfl) rfl rfl hl.1 rfl (lv_room (Nat.le_of_ble_eq_true rfl)) dL_law_302 ⟨show 48 + 11 * t + 3 + 0 ≤ 601024 by omega, show 54728 + 662 * t + 18 + 0 ≤ 7293034 by omega⟩) hG (fun r_402 M_403 H locs hw hG => ?_)
    rw [hw.1] at hG
    refine gw_as hw.2 ?_
    refine lv_iload hx hb dL_law_305 (lv_at hl 1 rfl) ?_
    refine lv_icmp_eq hx hb (tgt := 312) dL_law_307 (by decide) (fun hc => ?_) (fun hc => absurd rfl hc)
    refine lv_iload hx hb dL_law_312 (lv_at hl 1 rfl) ?_
    refine lv_if_ne hx hb (tgt := 329) dL_law_314 (by decide) (fun hc => ?_) (fun hc => absurd hc (by decide))
    refine lv_goto (tgt := 1549) hx hb dL_law_329 (by decide) ?_
    refine W.widen (k := 48 + 11 * (t + 1)) (n := 54728 + 662 * (t + 1)) (by omega) (by omega) ?_
    exact kk S M_401 ro _ _ ls ⟨hCS2, ⟨_, _, _, _, _, _, hmd2, hrel⟩, ⟨_, hao2⟩, hLR, (hInv).mono (Nat.le_succ t)⟩ hG (lv_sub hl [2, 3, 4, 5, 6] rfl)
  · refine gw_as hr9 ?_
    obtain ⟨rk, ks, ke, ⟨hrk, e1⟩, ⟨hks, e2⟩, ⟨hke, e3⟩, hv, hC9, hof⟩ := hP
    have h6 : rk < 6 := by omega
    obtain ⟨hCS1, hmd1, hao1, hLR1⟩ := LJ_out (e := .inl (K.2.1 1, 1, .inr (.inl (vp_updL o9 0 r0.toInt64)))) hC9 hof hmd hao ha0 hLR
    rw [← hM1] at hCS1 hmd1 hao1
    refine lv_istore (lv' := [(5, .int (nI 0)), (4, .int (nI i)), (3, .ref ao), (2, .ref mo), (1, .ref x), (0, .ref b)]) hx hb dL_law_275 hl (by decide) rfl (fun ls hl => ?_)
    refine lv_aload_n hx hb dL_law_277 rfl (lv_at hl 3 rfl) ?_
    refine lv_aload_n hx hb dL_law_278 rfl (lv_at hl 5 rfl) ?_
    refine lv_iload hx hb dL_law_279 (lv_at hl 1 rfl) ?_
    refine lv_iconst (v := nI 1) hx hb dL_law_281 (by decide) ?_
    refine gw_iadd hx hb dL_law_282 ?_
    refine va_sld hx hb hX hbl hbA hG.S (gw_in (j := i + 1) (by omega) (by omega)) dL_law_283 ?_
    refine gw_as (y := xs (i + 1)) (congrArg xs (nI_clamp (by omega))) ?_
    refine gw_as e1 ?_
    refine lv_aload_n hx hb dL_law_284 rfl (lv_at hl 5 rfl) ?_
    refine lv_iload hx hb dL_law_285 (lv_at hl 1 rfl) ?_
    refine lv_iconst (v := nI 2) hx hb dL_law_287 (by decide) ?_
    refine gw_iadd hx hb dL_law_288 ?_
    refine va_sld hx hb hX hbl hbA hG.S (gw_in (j := i + 2) (by omega) (by omega)) dL_law_289 ?_
    refine gw_as (y := xs (i + 2)) (congrArg xs (nI_clamp (by omega))) ?_
    refine gw_as e2 ?_
    refine lv_aload_n hx hb dL_law_290 rfl (lv_at hl 5 rfl) ?_
    refine lv_iload hx hb dL_law_291 (lv_at hl 1 rfl) ?_
    refine lv_iconst (v := nI 3) hx hb dL_law_293 (by decide) ?_
    refine gw_iadd hx hb dL_law_294 ?_
    refine va_sld hx hb hX hbl hbA hG.S (gw_in (j := i + 3) (by omega) (by omega)) dL_law_295 ?_
    refine gw_as (y := xs (i + 3)) (congrArg xs (nI_clamp (by omega))) ?_
    refine gw_as e3 ?_
    refine gw_calli (va_runV (As := [.int (nI rk), .int (nI ks), .int (nI ke)]) (rest := []) ⟨hx, hb, hml, hown, hts⟩ (m_remove l K M_399 mo ad _ _ _ _ _ _ _ _ rk ks ke hmd1 hrk hks hke) (cwV 3 hts gL_law_X3_remove rfl rfl rfl (by decide +kernel) ⟨Nat.le_of_ble_eq_true rfl, Nat.le_of_ble_eq_true rfl⟩) (gw_preV hG hT hmd1.2.1 rfl) rfl rfl hl.1 rfl (lv_room (Nat.le_of_ble_eq_true rfl)) dL_law_296 ⟨show 48 + 11 * t + 3 + 0 ≤ 601024 by omega, show 54728 + 662 * t + 18 + 0 ≤ 7293034 by omega⟩) hG (fun r_404 M_405 H locs hw hG => ?_)
    obtain ⟨hv2, hmd2, hf2⟩ := hw
    have heq9 : r0 = r_404 := (hv.trans (congrArg nI (veq_dcnt (hrel.1 rk h6) (hInv.nng (vin_h h6)) (by omega) (by omega)))).trans hv2.symm
    obtain ⟨hCS2, hao2⟩ := LJ_mod hCS1 hmd1 hao1 hLR1 hf2
    refine lv_istore (lv' := [(6, .int r_404), (5, .int (nI 0)), (4, .int (nI i)), (3, .ref ao), (2, .ref mo), (1, .ref x), (0, .ref b)]) hx hb dL_law_299 hl (by decide) rfl (fun ls hl => ?_)
    refine lv_aload_n hx hb dL_law_301 rfl (lv_at hl 4 rfl) ?_
    refine gw_calli (va_runV (As := []) (rest := []) ⟨hx, hb, hml, hown, hts⟩ (c_thrown l K M_405 mo ad _ _ _ _ _ _ _ _ hmd2) (cwV 0 hts gL_law_X3_thrown rfl rfl rfl (by decide +kernel) ⟨Nat.le_of_ble_eq_true rfl, Nat.le_of_ble_eq_true rfl⟩) (gw_preV hG hT hmd2.2.1 rfl) rfl rfl hl.1 rfl (lv_room (Nat.le_of_ble_eq_true rfl)) dL_law_302 ⟨show 48 + 11 * t + 3 + 0 ≤ 601024 by omega, show 54728 + 662 * t + 18 + 0 ≤ 7293034 by omega⟩) hG (fun r_406 M_407 H locs hw hG => ?_)
    rw [hw.1] at hG
    refine gw_as hw.2 ?_
    refine lv_iload hx hb dL_law_305 (lv_at hl 1 rfl) ?_
    refine lv_icmp_eq hx hb (tgt := 312) dL_law_307 (by decide) (fun hc => ?_) (fun hc => absurd rfl hc)
    refine lv_iload hx hb dL_law_312 (lv_at hl 1 rfl) ?_
    refine lv_if_ne hx hb (tgt := 329) dL_law_314 (by decide) (fun hc => absurd rfl hc) (fun hc => ?_)
    refine lv_aload_n hx hb dL_law_317 rfl (lv_at hl 3 rfl) ?_
    refine lv_iconst (v := nI 0) hx hb dL_law_318 (by decide) ?_
    refine gw_lald_n hx hb hK hG hao2 1 rfl (by omega) (by omega) dL_law_319 ?_
    refine gw_asl (y := r0.toInt64) (if_pos rfl) ?_
    refine lv_iload hx hb dL_law_320 (lv_at hl 0 rfl) ?_
    refine lv_i2l hx hb dL_law_322 rfl ?_
    refine W.lcmp hx hb dL_law_323 ?_
    refine lv_if_eq hx hb (tgt := 329) dL_law_324 (by decide) (fun hc => ?_) (fun hc => absurd (lcmp_of (congrArg Int32.toInt64 heq9)) hc)
    refine lv_goto (tgt := 1549) hx hb dL_law_329 (by decide) ?_
    refine W.widen (k := 48 + 11 * (t + 1)) (n := 54728 + 662 * (t + 1)) (by omega) (by omega) ?_
    exact kk (shold S rk (vrem (S.2.1 rk) (ks * 16 + ke))) M_405 ro _ _ ls ⟨hCS2, ⟨_, _, _, _, _, _, hmd2, rel_hold hrel h6 (lc_clr (row := 16 * ks + ke) (by omega) rfl) (lc.rf _ _ _) (lc.rf _ _ _) (veq_rem (hrel.1 rk h6) (by omega) (by omega))⟩, ⟨_, hao2⟩, hLR1, (Inv_shr hInv h6 (shr_rem _ _)).mono (Nat.le_succ t)⟩ hG (lv_sub hl [2, 3, 4, 5, 6] rfl)

set_option maxHeartbeats 4000000 in
set_option maxRecDepth 100000 in
theorem law_clear {p : Program} {e : Env} {s : State} {m : MethodId} {below : List Frame} {meth : Method} {c : Code} (l : Launch) (hnt : l.stackTraces = false) {b L : Nat} {xs : Nat → Int32} (K : gw_C) (x mo ao : Nat) (ad : Nat → Nat) (S : gst) (t i : Nat) (M : gw_M) (ro : Nat → Nat) (C0 : LC p s m meth c b L xs K) (hi : i + 6 ≤ L) (ht : t ≤ 511) (hJ : LJ K x mo ao ad S t M ro) {H : Heap} {locs : List Loc} (hG : gw_B K M s.heap H locs) {ls : Array Slot} (hl : lv_has ls 7 [(4, .int (nI i)), (3, .ref ao), (2, .ref mo), (1, .ref x), (0, .ref b)]) (kk : LK p l e s m below meth c b K x mo ao ad t i) : W p l e room_1 s m #[Value.ref b] below meth c H locs (48 + 11 * t) (54728 + 662 * t) (lw_Z below #[Value.ref b] s) (F0 m 332 ls []) := by
  obtain ⟨C1, hT, hA0, hL⟩ := C0
  obtain ⟨hx, hb, hr, hml, hown9, htsA, hX, hbl, hlocks, hgv⟩ := id C1
  have hown : s.vm.findClass RL = some m.cls := hown9
  have hts : ∀ w ∈ wsL_law, w.before #[Value.ref b] s = true := fun w h => htsA w (wsL_law_in w h)
  have hK := hT.K
  have hbA : ¬ gw_A K b := fun q => Nat.not_le.mpr hbl (by rw [← hA0]; exact q)
  obtain ⟨hCS, ⟨cd, tb, vb, sb, fm, tq, hmd, hrel⟩, ⟨o9, hao⟩, hLR, hInv⟩ := hJ
  have hn6 := hmd.1.1
  have hk100 := hmd.1.2
  refine lv_aload_n hx hb dL_law_332 rfl (lv_at hl 3 rfl) ?_
  refine lv_aload_n hx hb dL_law_333 rfl (lv_at hl 4 rfl) ?_
  refine lv_iload hx hb dL_law_334 (lv_at hl 0 rfl) ?_
  refine lv_iconst (v := nI 1) hx hb dL_law_336 (by decide) ?_
  refine gw_iadd hx hb dL_law_337 ?_
  refine va_sld hx hb hX hbl hbA hG.S (gw_in (j := i + 1) (by omega) (by omega)) dL_law_338 ?_
  refine gw_as (y := xs (i + 1)) (congrArg xs (nI_clamp (by omega))) ?_
  refine lv_aload_n hx hb dL_law_339 rfl (lv_at hl 4 rfl) ?_
  refine lv_iload hx hb dL_law_340 (lv_at hl 0 rfl) ?_
  refine lv_iconst (v := nI 2) hx hb dL_law_342 (by decide) ?_
  refine gw_iadd hx hb dL_law_343 ?_
  refine va_sld hx hb hX hbl hbA hG.S (gw_in (j := i + 2) (by omega) (by omega)) dL_law_344 ?_
  refine gw_as (y := xs (i + 2)) (congrArg xs (nI_clamp (by omega))) ?_
  refine lv_aload_n hx hb dL_law_345 rfl (lv_at hl 1 rfl) ?_
  refine gw_xcalli (vx_runSX (As := [.ref x, .int (xs (i + 1)), .int (xs (i + 2)), .ref ao]) (rest := []) ⟨hx, hb, hml, hown, hts⟩ (w_clear l hnt K M x ro S (xs (i + 1)) (xs (i + 2)) ao o9 hCS hao hLR.2.2) (vx_cwSW 4 hts gL_law_L_clear rfl rfl rfl (by decide +kernel) ⟨Nat.le_of_ble_eq_true rfl, Nat.le_of_ble_eq_true rfl⟩) (gw_preS hG hT) rfl rfl hl.1 rfl (lv_room (Nat.le_of_ble_eq_true rfl)) dL_law_346 ⟨show 48 + 11 * t + 2 ≤ 601024 by omega, show 54728 + 662 * t + 12 ≤ 7293034 by omega⟩) hG (fun E9 ce9 qx9 M9 H9 locs9 hw hG h7 h8 h9 => hw.elim) (fun r_408 M_409 H locs hw hG => ?_)
  rcases hw with ⟨hr9, hM1, hC⟩ | ⟨hr9, r0, M0, hP, ha0, hM1⟩
  · rw [hM1] at hG
    refine gw_as hr9 ?_
    refine lv_istore (lv' := [(5, .int (nI 1)), (4, .int (nI i)), (3, .ref ao), (2, .ref mo), (1, .ref x), (0, .ref b)]) hx hb dL_law_349 hl (by decide) rfl (fun ls hl => ?_)
    refine lv_aload_n hx hb dL_law_351 rfl (lv_at hl 3 rfl) ?_
    refine lv_aload_n hx hb dL_law_352 rfl (lv_at hl 5 rfl) ?_
    refine lv_iload hx hb dL_law_353 (lv_at hl 1 rfl) ?_
    refine lv_iconst (v := nI 1) hx hb dL_law_355 (by decide) ?_
    refine gw_iadd hx hb dL_law_356 ?_
    refine va_sld hx hb hX hbl hbA hG.S (gw_in (j := i + 1) (by omega) (by omega)) dL_law_357 ?_
    refine gw_as (y := xs (i + 1)) (congrArg xs (nI_clamp (by omega))) ?_
    refine lv_aload_n hx hb dL_law_358 rfl (lv_at hl 5 rfl) ?_
    refine lv_iload hx hb dL_law_359 (lv_at hl 1 rfl) ?_
    refine lv_iconst (v := nI 2) hx hb dL_law_361 (by decide) ?_
    refine gw_iadd hx hb dL_law_362 ?_
    refine va_sld hx hb hX hbl hbA hG.S (gw_in (j := i + 2) (by omega) (by omega)) dL_law_363 ?_
    refine gw_as (y := xs (i + 2)) (congrArg xs (nI_clamp (by omega))) ?_
    refine gw_calli (va_runV (As := [.int (xs (i + 1)), .int (xs (i + 2))]) (rest := []) ⟨hx, hb, hml, hown, hts⟩ (m_clear_no l K M mo ad _ _ _ _ _ _ _ _ (xs (i + 1)) (xs (i + 2)) hmd hC) (cwV 2 hts gL_law_X3_clear rfl rfl rfl (by decide +kernel) ⟨Nat.le_of_ble_eq_true rfl, Nat.le_of_ble_eq_true rfl⟩) (gw_preV hG hT hmd.2.1 rfl) rfl rfl hl.1 rfl (lv_room (Nat.le_of_ble_eq_true rfl)) dL_law_364 ⟨show 48 + 11 * t + 2 + 0 ≤ 601024 by omega, show 54728 + 662 * t + 12 + 0 ≤ 7293034 by omega⟩) hG (fun r_410 M_411 H locs hw hG => ?_)
    obtain ⟨hmd2, hf2⟩ := hw
    obtain ⟨hCS2, hao2⟩ := LJ_mod hCS hmd hao hLR hf2
    refine lv_istore (lv' := [(6, .int r_410), (5, .int (nI 1)), (4, .int (nI i)), (3, .ref ao), (2, .ref mo), (1, .ref x), (0, .ref b)]) hx hb dL_law_367 hl (by decide) rfl (fun ls hl => ?_)
    refine lv_aload_n hx hb dL_law_369 rfl (lv_at hl 4 rfl) ?_
    refine gw_calli (va_runV (As := []) (rest := []) ⟨hx, hb, hml, hown, hts⟩ (c_thrown l K M_411 mo ad _ _ _ _ _ _ _ _ hmd2) (cwV 0 hts gL_law_X3_thrown rfl rfl rfl (by decide +kernel) ⟨Nat.le_of_ble_eq_true rfl, Nat.le_of_ble_eq_true rfl⟩) (gw_preV hG hT hmd2.2.1 rfl) rfl rfl hl.1 rfl (lv_room (Nat.le_of_ble_eq_true rfl)) dL_law_370 ⟨show 48 + 11 * t + 2 + 0 ≤ 601024 by omega, show 54728 + 662 * t + 12 + 0 ≤ 7293034 by omega⟩) hG (fun r_412 M_413 H locs hw hG => ?_)
    rw [hw.1] at hG
    refine gw_as hw.2 ?_
    refine lv_iload hx hb dL_law_373 (lv_at hl 1 rfl) ?_
    refine lv_icmp_eq hx hb (tgt := 380) dL_law_375 (by decide) (fun hc => ?_) (fun hc => absurd rfl hc)
    refine lv_iload hx hb dL_law_380 (lv_at hl 1 rfl) ?_
    refine lv_if_ne hx hb (tgt := 397) dL_law_382 (by decide) (fun hc => ?_) (fun hc => absurd hc (by decide))
    refine lv_goto (tgt := 1549) hx hb dL_law_397 (by decide) ?_
    refine W.widen (k := 48 + 11 * (t + 1)) (n := 54728 + 662 * (t + 1)) (by omega) (by omega) ?_
    exact kk S M_411 ro _ _ ls ⟨hCS2, ⟨_, _, _, _, _, _, hmd2, hrel⟩, ⟨_, hao2⟩, hLR, (hInv).mono (Nat.le_succ t)⟩ hG (lv_sub hl [2, 3, 4, 5, 6] rfl)
  · refine gw_as hr9 ?_
    obtain ⟨rk, ks, ⟨hrk, e1⟩, ⟨hks, e2⟩, hv, hC9, hof⟩ := hP
    have h6 : rk < 6 := by omega
    have hcl := veq_cl (hrel.1 rk h6) (hInv.nng (vin_h h6)) hks 16 (Nat.le_refl 16)
    obtain ⟨hCS1, hmd1, hao1, hLR1⟩ := LJ_out (e := .inl (K.2.1 1, 1, .inr (.inl (vp_updL o9 0 r0.toInt64)))) hC9 hof hmd hao ha0 hLR
    rw [← hM1] at hCS1 hmd1 hao1
    refine lv_istore (lv' := [(5, .int (nI 0)), (4, .int (nI i)), (3, .ref ao), (2, .ref mo), (1, .ref x), (0, .ref b)]) hx hb dL_law_349 hl (by decide) rfl (fun ls hl => ?_)
    refine lv_aload_n hx hb dL_law_351 rfl (lv_at hl 3 rfl) ?_
    refine lv_aload_n hx hb dL_law_352 rfl (lv_at hl 5 rfl) ?_
    refine lv_iload hx hb dL_law_353 (lv_at hl 1 rfl) ?_
    refine lv_iconst (v := nI 1) hx hb dL_law_355 (by decide) ?_
    refine gw_iadd hx hb dL_law_356 ?_
    refine va_sld hx hb hX hbl hbA hG.S (gw_in (j := i + 1) (by omega) (by omega)) dL_law_357 ?_
    refine gw_as (y := xs (i + 1)) (congrArg xs (nI_clamp (by omega))) ?_
    refine gw_as e1 ?_
    refine lv_aload_n hx hb dL_law_358 rfl (lv_at hl 5 rfl) ?_
    refine lv_iload hx hb dL_law_359 (lv_at hl 1 rfl) ?_
    refine lv_iconst (v := nI 2) hx hb dL_law_361 (by decide) ?_
    refine gw_iadd hx hb dL_law_362 ?_
    refine va_sld hx hb hX hbl hbA hG.S (gw_in (j := i + 2) (by omega) (by omega)) dL_law_363 ?_
    refine gw_as (y := xs (i + 2)) (congrArg xs (nI_clamp (by omega))) ?_
    refine gw_as e2 ?_
    refine gw_calli (va_runV (As := [.int (nI rk), .int (nI ks)]) (rest := []) ⟨hx, hb, hml, hown, hts⟩ (m_clear l K M_409 mo ad _ _ _ _ _ _ _ _ rk ks hmd1 hrk hks) (cwV 2 hts gL_law_X3_clear rfl rfl rfl (by decide +kernel) ⟨Nat.le_of_ble_eq_true rfl, Nat.le_of_ble_eq_true rfl⟩) (gw_preV hG hT hmd1.2.1 rfl) rfl rfl hl.1 rfl (lv_room (Nat.le_of_ble_eq_true rfl)) dL_law_364 ⟨show 48 + 11 * t + 2 + 0 ≤ 601024 by omega, show 54728 + 662 * t + 12 + 0 ≤ 7293034 by omega⟩) hG (fun r_414 M_415 H locs hw hG => ?_)
    obtain ⟨hv2, hmd2, hf2⟩ := hw
    have heq9 : r0 = r_414 := (hv.trans (congrArg nI hcl.2.1)).trans hv2.symm
    obtain ⟨hCS2, hao2⟩ := LJ_mod hCS1 hmd1 hao1 hLR1 hf2
    refine lv_istore (lv' := [(6, .int r_414), (5, .int (nI 0)), (4, .int (nI i)), (3, .ref ao), (2, .ref mo), (1, .ref x), (0, .ref b)]) hx hb dL_law_367 hl (by decide) rfl (fun ls hl => ?_)
    refine lv_aload_n hx hb dL_law_369 rfl (lv_at hl 4 rfl) ?_
    refine gw_calli (va_runV (As := []) (rest := []) ⟨hx, hb, hml, hown, hts⟩ (c_thrown l K M_415 mo ad _ _ _ _ _ _ _ _ hmd2) (cwV 0 hts gL_law_X3_thrown rfl rfl rfl (by decide +kernel) ⟨Nat.le_of_ble_eq_true rfl, Nat.le_of_ble_eq_true rfl⟩) (gw_preV hG hT hmd2.2.1 rfl) rfl rfl hl.1 rfl (lv_room (Nat.le_of_ble_eq_true rfl)) dL_law_370 ⟨show 48 + 11 * t + 2 + 0 ≤ 601024 by omega, show 54728 + 662 * t + 12 + 0 ≤ 7293034 by omega⟩) hG (fun r_416 M_417 H locs hw hG => ?_)
    rw [hw.1] at hG
    refine gw_as hw.2 ?_
    refine lv_iload hx hb dL_law_373 (lv_at hl 1 rfl) ?_
    refine lv_icmp_eq hx hb (tgt := 380) dL_law_375 (by decide) (fun hc => ?_) (fun hc => absurd rfl hc)
    refine lv_iload hx hb dL_law_380 (lv_at hl 1 rfl) ?_
    refine lv_if_ne hx hb (tgt := 397) dL_law_382 (by decide) (fun hc => absurd rfl hc) (fun hc => ?_)
    refine lv_aload_n hx hb dL_law_385 rfl (lv_at hl 3 rfl) ?_
    refine lv_iconst (v := nI 0) hx hb dL_law_386 (by decide) ?_
    refine gw_lald_n hx hb hK hG hao2 1 rfl (by omega) (by omega) dL_law_387 ?_
    refine gw_asl (y := r0.toInt64) (if_pos rfl) ?_
    refine lv_iload hx hb dL_law_388 (lv_at hl 0 rfl) ?_
    refine lv_i2l hx hb dL_law_390 rfl ?_
    refine W.lcmp hx hb dL_law_391 ?_
    refine lv_if_eq hx hb (tgt := 397) dL_law_392 (by decide) (fun hc => ?_) (fun hc => absurd (lcmp_of (congrArg Int32.toInt64 heq9)) hc)
    refine lv_goto (tgt := 1549) hx hb dL_law_397 (by decide) ?_
    refine W.widen (k := 48 + 11 * (t + 1)) (n := 54728 + 662 * (t + 1)) (by omega) (by omega) ?_
    exact kk (shold S rk (vcl (S.2.1 rk) ks 16).1) M_415 ro _ _ ls ⟨hCS2, ⟨_, _, _, _, _, _, hmd2, rel_hold hrel h6 hcl.2.2.2 (lc.rf _ _ _) (lc.rf _ _ _) hcl.1⟩, ⟨_, hao2⟩, hLR1, (Inv_shr hInv h6 (shr_cl _ _ _)).mono (Nat.le_succ t)⟩ hG (lv_sub hl [2, 3, 4, 5, 6] rfl)

set_option maxHeartbeats 4000000 in
set_option maxRecDepth 100000 in
theorem law_write {p : Program} {e : Env} {s : State} {m : MethodId} {below : List Frame} {meth : Method} {c : Code} (l : Launch) (hnt : l.stackTraces = false) {b L : Nat} {xs : Nat → Int32} (K : gw_C) (x mo ao : Nat) (ad : Nat → Nat) (S : gst) (t i : Nat) (M : gw_M) (ro : Nat → Nat) (C0 : LC p s m meth c b L xs K) (hi : i + 6 ≤ L) (ht : t ≤ 511) (hJ : LJ K x mo ao ad S t M ro) {H : Heap} {locs : List Loc} (hG : gw_B K M s.heap H locs) {ls : Array Slot} (hl : lv_has ls 7 [(4, .int (nI i)), (3, .ref ao), (2, .ref mo), (1, .ref x), (0, .ref b)]) (kk : LK p l e s m below meth c b K x mo ao ad t i) : W p l e room_1 s m #[Value.ref b] below meth c H locs (48 + 11 * t) (54728 + 662 * t) (lw_Z below #[Value.ref b] s) (F0 m 400 ls []) := by
  obtain ⟨C1, hT, hA0, hL⟩ := C0
  obtain ⟨hx, hb, hr, hml, hown9, htsA, hX, hbl, hlocks, hgv⟩ := id C1
  have hown : s.vm.findClass RL = some m.cls := hown9
  have hts : ∀ w ∈ wsL_law, w.before #[Value.ref b] s = true := fun w h => htsA w (wsL_law_in w h)
  have hK := hT.K
  have hbA : ¬ gw_A K b := fun q => Nat.not_le.mpr hbl (by rw [← hA0]; exact q)
  obtain ⟨hCS, ⟨cd, tb, vb, sb, fm, tq, hmd, hrel⟩, ⟨o9, hao⟩, hLR, hInv⟩ := hJ
  have hn6 := hmd.1.1
  have hk100 := hmd.1.2
  refine lv_aload_n hx hb dL_law_400 rfl (lv_at hl 3 rfl) ?_
  refine lv_aload_n hx hb dL_law_401 rfl (lv_at hl 4 rfl) ?_
  refine lv_iload hx hb dL_law_402 (lv_at hl 0 rfl) ?_
  refine lv_iconst (v := nI 1) hx hb dL_law_404 (by decide) ?_
  refine gw_iadd hx hb dL_law_405 ?_
  refine va_sld hx hb hX hbl hbA hG.S (gw_in (j := i + 1) (by omega) (by omega)) dL_law_406 ?_
  refine gw_as (y := xs (i + 1)) (congrArg xs (nI_clamp (by omega))) ?_
  refine lv_aload_n hx hb dL_law_407 rfl (lv_at hl 4 rfl) ?_
  refine lv_iload hx hb dL_law_408 (lv_at hl 0 rfl) ?_
  refine lv_iconst (v := nI 2) hx hb dL_law_410 (by decide) ?_
  refine gw_iadd hx hb dL_law_411 ?_
  refine va_sld hx hb hX hbl hbA hG.S (gw_in (j := i + 2) (by omega) (by omega)) dL_law_412 ?_
  refine gw_as (y := xs (i + 2)) (congrArg xs (nI_clamp (by omega))) ?_
  refine lv_aload_n hx hb dL_law_413 rfl (lv_at hl 4 rfl) ?_
  refine lv_iload hx hb dL_law_414 (lv_at hl 0 rfl) ?_
  refine lv_iconst (v := nI 3) hx hb dL_law_416 (by decide) ?_
  refine gw_iadd hx hb dL_law_417 ?_
  refine va_sld hx hb hX hbl hbA hG.S (gw_in (j := i + 3) (by omega) (by omega)) dL_law_418 ?_
  refine gw_as (y := xs (i + 3)) (congrArg xs (nI_clamp (by omega))) ?_
  refine lv_aload_n hx hb dL_law_419 rfl (lv_at hl 1 rfl) ?_
  refine gw_xcalli (vx_runSX (As := [.ref x, .int (xs (i + 1)), .int (xs (i + 2)), .int (xs (i + 3)), .ref ao]) (rest := []) ⟨hx, hb, hml, hown, hts⟩ (w_write l hnt K M x ro S (xs (i + 1)) (xs (i + 2)) (xs (i + 3)) ao o9 hCS hao hLR.2.2) (vx_cwSW 5 hts gL_law_L_write rfl rfl rfl (by decide +kernel) ⟨Nat.le_of_ble_eq_true rfl, Nat.le_of_ble_eq_true rfl⟩) (gw_preS hG hT) rfl rfl hl.1 rfl (lv_room (Nat.le_of_ble_eq_true rfl)) dL_law_420 ⟨show 48 + 11 * t + 2 ≤ 601024 by omega, show 54728 + 662 * t + 12 ≤ 7293034 by omega⟩) hG (fun E9 ce9 qx9 M9 H9 locs9 hw hG h7 h8 h9 => hw.elim) (fun r_418 M_419 H locs hw hG => ?_)
  rcases hw with ⟨hr9, hM1, hC⟩ | ⟨hr9, r0, M0, hP, ha0, hM1⟩
  · rw [hM1] at hG
    refine gw_as hr9 ?_
    refine lv_istore (lv' := [(5, .int (nI 1)), (4, .int (nI i)), (3, .ref ao), (2, .ref mo), (1, .ref x), (0, .ref b)]) hx hb dL_law_423 hl (by decide) rfl (fun ls hl => ?_)
    refine lv_aload_n hx hb dL_law_425 rfl (lv_at hl 3 rfl) ?_
    refine lv_aload_n hx hb dL_law_426 rfl (lv_at hl 5 rfl) ?_
    refine lv_iload hx hb dL_law_427 (lv_at hl 1 rfl) ?_
    refine lv_iconst (v := nI 1) hx hb dL_law_429 (by decide) ?_
    refine gw_iadd hx hb dL_law_430 ?_
    refine va_sld hx hb hX hbl hbA hG.S (gw_in (j := i + 1) (by omega) (by omega)) dL_law_431 ?_
    refine gw_as (y := xs (i + 1)) (congrArg xs (nI_clamp (by omega))) ?_
    refine lv_aload_n hx hb dL_law_432 rfl (lv_at hl 5 rfl) ?_
    refine lv_iload hx hb dL_law_433 (lv_at hl 1 rfl) ?_
    refine lv_iconst (v := nI 2) hx hb dL_law_435 (by decide) ?_
    refine gw_iadd hx hb dL_law_436 ?_
    refine va_sld hx hb hX hbl hbA hG.S (gw_in (j := i + 2) (by omega) (by omega)) dL_law_437 ?_
    refine gw_as (y := xs (i + 2)) (congrArg xs (nI_clamp (by omega))) ?_
    refine lv_aload_n hx hb dL_law_438 rfl (lv_at hl 5 rfl) ?_
    refine lv_iload hx hb dL_law_439 (lv_at hl 1 rfl) ?_
    refine lv_iconst (v := nI 3) hx hb dL_law_441 (by decide) ?_
    refine gw_iadd hx hb dL_law_442 ?_
    refine va_sld hx hb hX hbl hbA hG.S (gw_in (j := i + 3) (by omega) (by omega)) dL_law_443 ?_
    refine gw_as (y := xs (i + 3)) (congrArg xs (nI_clamp (by omega))) ?_
    refine gw_calli (va_runV (As := [.int (xs (i + 1)), .int (xs (i + 2)), .int (xs (i + 3))]) (rest := []) ⟨hx, hb, hml, hown, hts⟩ (m_write_no l K M mo ad _ _ _ _ _ _ _ _ (xs (i + 1)) (xs (i + 2)) (xs (i + 3)) hmd hC) (cwV 3 hts gL_law_X3_write rfl rfl rfl (by decide +kernel) ⟨Nat.le_of_ble_eq_true rfl, Nat.le_of_ble_eq_true rfl⟩) (gw_preV hG hT hmd.2.1 rfl) rfl rfl hl.1 rfl (lv_room (Nat.le_of_ble_eq_true rfl)) dL_law_444 ⟨show 48 + 11 * t + 2 + 0 ≤ 601024 by omega, show 54728 + 662 * t + 12 + 0 ≤ 7293034 by omega⟩) hG (fun r_420 M_421 H locs hw hG => ?_)
    obtain ⟨hmd2, hf2⟩ := hw
    obtain ⟨hCS2, hao2⟩ := LJ_mod hCS hmd hao hLR hf2
    refine lv_istore (lv' := [(6, .int r_420), (5, .int (nI 1)), (4, .int (nI i)), (3, .ref ao), (2, .ref mo), (1, .ref x), (0, .ref b)]) hx hb dL_law_447 hl (by decide) rfl (fun ls hl => ?_)
    refine lv_aload_n hx hb dL_law_449 rfl (lv_at hl 4 rfl) ?_
    refine gw_calli (va_runV (As := []) (rest := []) ⟨hx, hb, hml, hown, hts⟩ (c_thrown l K M_421 mo ad _ _ _ _ _ _ _ _ hmd2) (cwV 0 hts gL_law_X3_thrown rfl rfl rfl (by decide +kernel) ⟨Nat.le_of_ble_eq_true rfl, Nat.le_of_ble_eq_true rfl⟩) (gw_preV hG hT hmd2.2.1 rfl) rfl rfl hl.1 rfl (lv_room (Nat.le_of_ble_eq_true rfl)) dL_law_450 ⟨show 48 + 11 * t + 2 + 0 ≤ 601024 by omega, show 54728 + 662 * t + 12 + 0 ≤ 7293034 by omega⟩) hG (fun r_422 M_423 H locs hw hG => ?_)
    rw [hw.1] at hG
    refine gw_as hw.2 ?_
    refine lv_iload hx hb dL_law_453 (lv_at hl 1 rfl) ?_
    refine lv_icmp_eq hx hb (tgt := 460) dL_law_455 (by decide) (fun hc => ?_) (fun hc => absurd rfl hc)
    refine lv_iload hx hb dL_law_460 (lv_at hl 1 rfl) ?_
    refine lv_if_ne hx hb (tgt := 477) dL_law_462 (by decide) (fun hc => ?_) (fun hc => absurd hc (by decide))
    refine lv_goto (tgt := 1549) hx hb dL_law_477 (by decide) ?_
    refine W.widen (k := 48 + 11 * (t + 1)) (n := 54728 + 662 * (t + 1)) (by omega) (by omega) ?_
    exact kk S M_421 ro _ _ ls ⟨hCS2, ⟨_, _, _, _, _, _, hmd2, hrel⟩, ⟨_, hao2⟩, hLR, (hInv).mono (Nat.le_succ t)⟩ hG (lv_sub hl [2, 3, 4, 5, 6] rfl)
  · refine gw_as hr9 ?_
    obtain ⟨rk, ks, ⟨hrk, e1⟩, ⟨hks, e2⟩, hv, hC9, hof⟩ := hP
    have h6 : rk < 6 := by omega
    obtain ⟨hCS1, hmd1, hao1, hLR1⟩ := LJ_out (e := .inl (K.2.1 1, 1, .inr (.inl (vp_updL o9 0 r0.toInt64)))) hC9 hof hmd hao ha0 hLR
    rw [← hM1] at hCS1 hmd1 hao1
    refine lv_istore (lv' := [(5, .int (nI 0)), (4, .int (nI i)), (3, .ref ao), (2, .ref mo), (1, .ref x), (0, .ref b)]) hx hb dL_law_423 hl (by decide) rfl (fun ls hl => ?_)
    refine lv_aload_n hx hb dL_law_425 rfl (lv_at hl 3 rfl) ?_
    refine lv_aload_n hx hb dL_law_426 rfl (lv_at hl 5 rfl) ?_
    refine lv_iload hx hb dL_law_427 (lv_at hl 1 rfl) ?_
    refine lv_iconst (v := nI 1) hx hb dL_law_429 (by decide) ?_
    refine gw_iadd hx hb dL_law_430 ?_
    refine va_sld hx hb hX hbl hbA hG.S (gw_in (j := i + 1) (by omega) (by omega)) dL_law_431 ?_
    refine gw_as (y := xs (i + 1)) (congrArg xs (nI_clamp (by omega))) ?_
    refine gw_as e1 ?_
    refine lv_aload_n hx hb dL_law_432 rfl (lv_at hl 5 rfl) ?_
    refine lv_iload hx hb dL_law_433 (lv_at hl 1 rfl) ?_
    refine lv_iconst (v := nI 2) hx hb dL_law_435 (by decide) ?_
    refine gw_iadd hx hb dL_law_436 ?_
    refine va_sld hx hb hX hbl hbA hG.S (gw_in (j := i + 2) (by omega) (by omega)) dL_law_437 ?_
    refine gw_as (y := xs (i + 2)) (congrArg xs (nI_clamp (by omega))) ?_
    refine gw_as e2 ?_
    refine lv_aload_n hx hb dL_law_438 rfl (lv_at hl 5 rfl) ?_
    refine lv_iload hx hb dL_law_439 (lv_at hl 1 rfl) ?_
    refine lv_iconst (v := nI 3) hx hb dL_law_441 (by decide) ?_
    refine gw_iadd hx hb dL_law_442 ?_
    refine va_sld hx hb hX hbl hbA hG.S (gw_in (j := i + 3) (by omega) (by omega)) dL_law_443 ?_
    refine gw_as (y := xs (i + 3)) (congrArg xs (nI_clamp (by omega))) ?_
    refine gw_calli (va_runV (As := [.int (nI rk), .int (nI ks), .int (xs (i + 3))]) (rest := []) ⟨hx, hb, hml, hown, hts⟩ (m_write l K M_419 mo ad _ _ _ _ _ _ _ _ rk ks (xs (i + 3)) hmd1 hrk hks) (cwV 3 hts gL_law_X3_write rfl rfl rfl (by decide +kernel) ⟨Nat.le_of_ble_eq_true rfl, Nat.le_of_ble_eq_true rfl⟩) (gw_preV hG hT hmd1.2.1 rfl) rfl rfl hl.1 rfl (lv_room (Nat.le_of_ble_eq_true rfl)) dL_law_444 ⟨show 48 + 11 * t + 2 + 0 ≤ 601024 by omega, show 54728 + 662 * t + 12 + 0 ≤ 7293034 by omega⟩) hG (fun r_424 M_425 H locs hw hG => ?_)
    obtain ⟨hv2, hmd2, hf2⟩ := hw
    have heq9 : r0 = r_424 := (hv.trans (congrArg nI (veq_dcnt (hrel.1 rk h6) (hInv.nng (vin_h h6)) (by omega) (by omega)))).trans hv2.symm
    obtain ⟨hCS2, hao2⟩ := LJ_mod hCS1 hmd1 hao1 hLR1 hf2
    refine lv_istore (lv' := [(6, .int r_424), (5, .int (nI 0)), (4, .int (nI i)), (3, .ref ao), (2, .ref mo), (1, .ref x), (0, .ref b)]) hx hb dL_law_447 hl (by decide) rfl (fun ls hl => ?_)
    refine lv_aload_n hx hb dL_law_449 rfl (lv_at hl 4 rfl) ?_
    refine gw_calli (va_runV (As := []) (rest := []) ⟨hx, hb, hml, hown, hts⟩ (c_thrown l K M_425 mo ad _ _ _ _ _ _ _ _ hmd2) (cwV 0 hts gL_law_X3_thrown rfl rfl rfl (by decide +kernel) ⟨Nat.le_of_ble_eq_true rfl, Nat.le_of_ble_eq_true rfl⟩) (gw_preV hG hT hmd2.2.1 rfl) rfl rfl hl.1 rfl (lv_room (Nat.le_of_ble_eq_true rfl)) dL_law_450 ⟨show 48 + 11 * t + 2 + 0 ≤ 601024 by omega, show 54728 + 662 * t + 12 + 0 ≤ 7293034 by omega⟩) hG (fun r_426 M_427 H locs hw hG => ?_)
    rw [hw.1] at hG
    refine gw_as hw.2 ?_
    refine lv_iload hx hb dL_law_453 (lv_at hl 1 rfl) ?_
    refine lv_icmp_eq hx hb (tgt := 460) dL_law_455 (by decide) (fun hc => ?_) (fun hc => absurd rfl hc)
    refine lv_iload hx hb dL_law_460 (lv_at hl 1 rfl) ?_
    refine lv_if_ne hx hb (tgt := 477) dL_law_462 (by decide) (fun hc => absurd rfl hc) (fun hc => ?_)
    refine lv_aload_n hx hb dL_law_465 rfl (lv_at hl 3 rfl) ?_
    refine lv_iconst (v := nI 0) hx hb dL_law_466 (by decide) ?_
    refine gw_lald_n hx hb hK hG hao2 1 rfl (by omega) (by omega) dL_law_467 ?_
    refine gw_asl (y := r0.toInt64) (if_pos rfl) ?_
    refine lv_iload hx hb dL_law_468 (lv_at hl 0 rfl) ?_
    refine lv_i2l hx hb dL_law_470 rfl ?_
    refine W.lcmp hx hb dL_law_471 ?_
    refine lv_if_eq hx hb (tgt := 477) dL_law_472 (by decide) (fun hc => ?_) (fun hc => absurd (lcmp_of (congrArg Int32.toInt64 heq9)) hc)
    refine lv_goto (tgt := 1549) hx hb dL_law_477 (by decide) ?_
    refine W.widen (k := 48 + 11 * (t + 1)) (n := 54728 + 662 * (t + 1)) (by omega) (by omega) ?_
    exact kk (shold S rk (vwr (S.2.1 rk) rk ks (xs (i + 3)))) M_425 ro _ _ ls ⟨hCS2, ⟨_, _, _, _, _, _, hmd2, rel_hold hrel h6 (lc_new h6 (by omega)) (lc_wr h6 hks) (lc.rf _ _ _) (veq_wr (hrel.1 rk h6) h6 hks)⟩, ⟨_, hao2⟩, hLR1, Inv_wr hInv h6 (by omega) hks⟩ hG (lv_sub hl [2, 3, 4, 5, 6] rfl)

set_option maxHeartbeats 4000000 in
set_option maxRecDepth 100000 in
theorem law_count {p : Program} {e : Env} {s : State} {m : MethodId} {below : List Frame} {meth : Method} {c : Code} (l : Launch) (hnt : l.stackTraces = false) {b L : Nat} {xs : Nat → Int32} (K : gw_C) (x mo ao : Nat) (ad : Nat → Nat) (S : gst) (t i : Nat) (M : gw_M) (ro : Nat → Nat) (C0 : LC p s m meth c b L xs K) (hi : i + 6 ≤ L) (ht : t ≤ 511) (hJ : LJ K x mo ao ad S t M ro) {H : Heap} {locs : List Loc} (hG : gw_B K M s.heap H locs) {ls : Array Slot} (hl : lv_has ls 7 [(4, .int (nI i)), (3, .ref ao), (2, .ref mo), (1, .ref x), (0, .ref b)]) (kk : LK p l e s m below meth c b K x mo ao ad t i) : W p l e room_1 s m #[Value.ref b] below meth c H locs (48 + 11 * t) (54728 + 662 * t) (lw_Z below #[Value.ref b] s) (F0 m 480 ls []) := by
  obtain ⟨C1, hT, hA0, hL⟩ := C0
  obtain ⟨hx, hb, hr, hml, hown9, htsA, hX, hbl, hlocks, hgv⟩ := id C1
  have hown : s.vm.findClass RL = some m.cls := hown9
  have hts : ∀ w ∈ wsL_law, w.before #[Value.ref b] s = true := fun w h => htsA w (wsL_law_in w h)
  have hK := hT.K
  have hbA : ¬ gw_A K b := fun q => Nat.not_le.mpr hbl (by rw [← hA0]; exact q)
  obtain ⟨hCS, ⟨cd, tb, vb, sb, fm, tq, hmd, hrel⟩, ⟨o9, hao⟩, hLR, hInv⟩ := hJ
  have hn6 := hmd.1.1
  have hk100 := hmd.1.2
  refine lv_aload_n hx hb dL_law_480 rfl (lv_at hl 3 rfl) ?_
  refine lv_aload_n hx hb dL_law_481 rfl (lv_at hl 4 rfl) ?_
  refine lv_iload hx hb dL_law_482 (lv_at hl 0 rfl) ?_
  refine lv_iconst (v := nI 1) hx hb dL_law_484 (by decide) ?_
  refine gw_iadd hx hb dL_law_485 ?_
  refine va_sld hx hb hX hbl hbA hG.S (gw_in (j := i + 1) (by omega) (by omega)) dL_law_486 ?_
  refine gw_as (y := xs (i + 1)) (congrArg xs (nI_clamp (by omega))) ?_
  refine lv_aload_n hx hb dL_law_487 rfl (lv_at hl 4 rfl) ?_
  refine lv_iload hx hb dL_law_488 (lv_at hl 0 rfl) ?_
  refine lv_iconst (v := nI 2) hx hb dL_law_490 (by decide) ?_
  refine gw_iadd hx hb dL_law_491 ?_
  refine va_sld hx hb hX hbl hbA hG.S (gw_in (j := i + 2) (by omega) (by omega)) dL_law_492 ?_
  refine gw_as (y := xs (i + 2)) (congrArg xs (nI_clamp (by omega))) ?_
  refine lv_aload_n hx hb dL_law_493 rfl (lv_at hl 4 rfl) ?_
  refine lv_iload hx hb dL_law_494 (lv_at hl 0 rfl) ?_
  refine lv_iconst (v := nI 3) hx hb dL_law_496 (by decide) ?_
  refine gw_iadd hx hb dL_law_497 ?_
  refine va_sld hx hb hX hbl hbA hG.S (gw_in (j := i + 3) (by omega) (by omega)) dL_law_498 ?_
  refine gw_as (y := xs (i + 3)) (congrArg xs (nI_clamp (by omega))) ?_
  refine lv_aload_n hx hb dL_law_499 rfl (lv_at hl 1 rfl) ?_
  refine gw_xcalli (vx_runSX (As := [.ref x, .int (xs (i + 1)), .int (xs (i + 2)), .int (xs (i + 3)), .ref ao]) (rest := []) ⟨hx, hb, hml, hown, hts⟩ (w_count l hnt K M x ro S (xs (i + 1)) (xs (i + 2)) (xs (i + 3)) ao o9 hCS hao hLR.2.2) (vx_cwSW 5 hts gL_law_L_count rfl rfl rfl (by decide +kernel) ⟨Nat.le_of_ble_eq_true rfl, Nat.le_of_ble_eq_true rfl⟩) (gw_preS hG hT) rfl rfl hl.1 rfl (lv_room (Nat.le_of_ble_eq_true rfl)) dL_law_500 ⟨show 48 + 11 * t + 2 ≤ 601024 by omega, show 54728 + 662 * t + 12 ≤ 7293034 by omega⟩) hG (fun E9 ce9 qx9 M9 H9 locs9 hw hG h7 h8 h9 => hw.elim) (fun r_428 M_429 H locs hw hG => ?_)
  rcases hw with ⟨hr9, hM1, hC⟩ | ⟨hr9, r0, M0, hP, ha0, hM1⟩
  · rw [hM1] at hG
    refine gw_as hr9 ?_
    refine lv_istore (lv' := [(5, .int (nI 1)), (4, .int (nI i)), (3, .ref ao), (2, .ref mo), (1, .ref x), (0, .ref b)]) hx hb dL_law_503 hl (by decide) rfl (fun ls hl => ?_)
    refine lv_aload_n hx hb dL_law_505 rfl (lv_at hl 3 rfl) ?_
    refine lv_aload_n hx hb dL_law_506 rfl (lv_at hl 5 rfl) ?_
    refine lv_iload hx hb dL_law_507 (lv_at hl 1 rfl) ?_
    refine lv_iconst (v := nI 1) hx hb dL_law_509 (by decide) ?_
    refine gw_iadd hx hb dL_law_510 ?_
    refine va_sld hx hb hX hbl hbA hG.S (gw_in (j := i + 1) (by omega) (by omega)) dL_law_511 ?_
    refine gw_as (y := xs (i + 1)) (congrArg xs (nI_clamp (by omega))) ?_
    refine lv_aload_n hx hb dL_law_512 rfl (lv_at hl 5 rfl) ?_
    refine lv_iload hx hb dL_law_513 (lv_at hl 1 rfl) ?_
    refine lv_iconst (v := nI 2) hx hb dL_law_515 (by decide) ?_
    refine gw_iadd hx hb dL_law_516 ?_
    refine va_sld hx hb hX hbl hbA hG.S (gw_in (j := i + 2) (by omega) (by omega)) dL_law_517 ?_
    refine gw_as (y := xs (i + 2)) (congrArg xs (nI_clamp (by omega))) ?_
    refine lv_aload_n hx hb dL_law_518 rfl (lv_at hl 5 rfl) ?_
    refine lv_iload hx hb dL_law_519 (lv_at hl 1 rfl) ?_
    refine lv_iconst (v := nI 3) hx hb dL_law_521 (by decide) ?_
    refine gw_iadd hx hb dL_law_522 ?_
    refine va_sld hx hb hX hbl hbA hG.S (gw_in (j := i + 3) (by omega) (by omega)) dL_law_523 ?_
    refine gw_as (y := xs (i + 3)) (congrArg xs (nI_clamp (by omega))) ?_
    refine gw_calli (va_runV (As := [.int (xs (i + 1)), .int (xs (i + 2)), .int (xs (i + 3))]) (rest := []) ⟨hx, hb, hml, hown, hts⟩ (m_count_no l K M mo ad _ _ _ _ _ _ _ _ (xs (i + 1)) (xs (i + 2)) (xs (i + 3)) hmd hC) (cwV 3 hts gL_law_X3_count rfl rfl rfl (by decide +kernel) ⟨Nat.le_of_ble_eq_true rfl, Nat.le_of_ble_eq_true rfl⟩) (gw_preV hG hT hmd.2.1 rfl) rfl rfl hl.1 rfl (lv_room (Nat.le_of_ble_eq_true rfl)) dL_law_524 ⟨show 48 + 11 * t + 2 + 0 ≤ 601024 by omega, show 54728 + 662 * t + 12 + 0 ≤ 7293034 by omega⟩) hG (fun r_430 M_431 H locs hw hG => ?_)
    obtain ⟨hmd2, hf2⟩ := hw
    obtain ⟨hCS2, hao2⟩ := LJ_mod hCS hmd hao hLR hf2
    refine lv_istore (lv' := [(6, .int r_430), (5, .int (nI 1)), (4, .int (nI i)), (3, .ref ao), (2, .ref mo), (1, .ref x), (0, .ref b)]) hx hb dL_law_527 hl (by decide) rfl (fun ls hl => ?_)
    refine lv_aload_n hx hb dL_law_529 rfl (lv_at hl 4 rfl) ?_
    refine gw_calli (va_runV (As := []) (rest := []) ⟨hx, hb, hml, hown, hts⟩ (c_thrown l K M_431 mo ad _ _ _ _ _ _ _ _ hmd2) (cwV 0 hts gL_law_X3_thrown rfl rfl rfl (by decide +kernel) ⟨Nat.le_of_ble_eq_true rfl, Nat.le_of_ble_eq_true rfl⟩) (gw_preV hG hT hmd2.2.1 rfl) rfl rfl hl.1 rfl (lv_room (Nat.le_of_ble_eq_true rfl)) dL_law_530 ⟨show 48 + 11 * t + 2 + 0 ≤ 601024 by omega, show 54728 + 662 * t + 12 + 0 ≤ 7293034 by omega⟩) hG (fun r_432 M_433 H locs hw hG => ?_)
    rw [hw.1] at hG
    refine gw_as hw.2 ?_
    refine lv_iload hx hb dL_law_533 (lv_at hl 1 rfl) ?_
    refine lv_icmp_eq hx hb (tgt := 540) dL_law_535 (by decide) (fun hc => ?_) (fun hc => absurd rfl hc)
    refine lv_iload hx hb dL_law_540 (lv_at hl 1 rfl) ?_
    refine lv_if_ne hx hb (tgt := 557) dL_law_542 (by decide) (fun hc => ?_) (fun hc => absurd hc (by decide))
    refine lv_goto (tgt := 1549) hx hb dL_law_557 (by decide) ?_
    refine W.widen (k := 48 + 11 * (t + 1)) (n := 54728 + 662 * (t + 1)) (by omega) (by omega) ?_
    exact kk S M_431 ro _ _ ls ⟨hCS2, ⟨_, _, _, _, _, _, hmd2, hrel⟩, ⟨_, hao2⟩, hLR, (hInv).mono (Nat.le_succ t)⟩ hG (lv_sub hl [2, 3, 4, 5, 6] rfl)
  · refine gw_as hr9 ?_
    obtain ⟨rk, ks, ⟨hrk, e1⟩, ⟨hks, e2⟩, hv, hC9, hof⟩ := hP
    have h6 : rk < 6 := by omega
    have hvq := veq_cnt (b := xs (i + 3)) (hrel.1 rk h6) h6 hks
    obtain ⟨hCS1, hmd1, hao1, hLR1⟩ := LJ_out (e := .inl (K.2.1 1, 1, .inr (.inl (vp_updL o9 0 r0.toInt64)))) hC9 hof hmd hao ha0 hLR
    rw [← hM1] at hCS1 hmd1 hao1
    refine lv_istore (lv' := [(5, .int (nI 0)), (4, .int (nI i)), (3, .ref ao), (2, .ref mo), (1, .ref x), (0, .ref b)]) hx hb dL_law_503 hl (by decide) rfl (fun ls hl => ?_)
    refine lv_aload_n hx hb dL_law_505 rfl (lv_at hl 3 rfl) ?_
    refine lv_aload_n hx hb dL_law_506 rfl (lv_at hl 5 rfl) ?_
    refine lv_iload hx hb dL_law_507 (lv_at hl 1 rfl) ?_
    refine lv_iconst (v := nI 1) hx hb dL_law_509 (by decide) ?_
    refine gw_iadd hx hb dL_law_510 ?_
    refine va_sld hx hb hX hbl hbA hG.S (gw_in (j := i + 1) (by omega) (by omega)) dL_law_511 ?_
    refine gw_as (y := xs (i + 1)) (congrArg xs (nI_clamp (by omega))) ?_
    refine gw_as e1 ?_
    refine lv_aload_n hx hb dL_law_512 rfl (lv_at hl 5 rfl) ?_
    refine lv_iload hx hb dL_law_513 (lv_at hl 1 rfl) ?_
    refine lv_iconst (v := nI 2) hx hb dL_law_515 (by decide) ?_
    refine gw_iadd hx hb dL_law_516 ?_
    refine va_sld hx hb hX hbl hbA hG.S (gw_in (j := i + 2) (by omega) (by omega)) dL_law_517 ?_
    refine gw_as (y := xs (i + 2)) (congrArg xs (nI_clamp (by omega))) ?_
    refine gw_as e2 ?_
    refine lv_aload_n hx hb dL_law_518 rfl (lv_at hl 5 rfl) ?_
    refine lv_iload hx hb dL_law_519 (lv_at hl 1 rfl) ?_
    refine lv_iconst (v := nI 3) hx hb dL_law_521 (by decide) ?_
    refine gw_iadd hx hb dL_law_522 ?_
    refine va_sld hx hb hX hbl hbA hG.S (gw_in (j := i + 3) (by omega) (by omega)) dL_law_523 ?_
    refine gw_as (y := xs (i + 3)) (congrArg xs (nI_clamp (by omega))) ?_
    refine gw_calli (va_runV (As := [.int (nI rk), .int (nI ks), .int (xs (i + 3))]) (rest := []) ⟨hx, hb, hml, hown, hts⟩ (m_count l K M_429 mo ad _ _ _ _ _ _ _ _ rk ks (xs (i + 3)) hmd1 hrk hks) (cwV 3 hts gL_law_X3_count rfl rfl rfl (by decide +kernel) ⟨Nat.le_of_ble_eq_true rfl, Nat.le_of_ble_eq_true rfl⟩) (gw_preV hG hT hmd1.2.1 rfl) rfl rfl hl.1 rfl (lv_room (Nat.le_of_ble_eq_true rfl)) dL_law_524 ⟨show 48 + 11 * t + 2 + 0 ≤ 601024 by omega, show 54728 + 662 * t + 12 + 0 ≤ 7293034 by omega⟩) hG (fun r_434 M_435 H locs hw hG => ?_)
    obtain ⟨hv2, hmd2, hf2⟩ := hw
    have heq9 : r0 = r_434 := (hv.trans (congrArg Int64.toInt32 (veq_wsum hvq hks))).trans hv2.symm
    obtain ⟨hCS2, hao2⟩ := LJ_mod hCS1 hmd1 hao1 hLR1 hf2
    refine lv_istore (lv' := [(6, .int r_434), (5, .int (nI 0)), (4, .int (nI i)), (3, .ref ao), (2, .ref mo), (1, .ref x), (0, .ref b)]) hx hb dL_law_527 hl (by decide) rfl (fun ls hl => ?_)
    refine lv_aload_n hx hb dL_law_529 rfl (lv_at hl 4 rfl) ?_
    refine gw_calli (va_runV (As := []) (rest := []) ⟨hx, hb, hml, hown, hts⟩ (c_thrown l K M_435 mo ad _ _ _ _ _ _ _ _ hmd2) (cwV 0 hts gL_law_X3_thrown rfl rfl rfl (by decide +kernel) ⟨Nat.le_of_ble_eq_true rfl, Nat.le_of_ble_eq_true rfl⟩) (gw_preV hG hT hmd2.2.1 rfl) rfl rfl hl.1 rfl (lv_room (Nat.le_of_ble_eq_true rfl)) dL_law_530 ⟨show 48 + 11 * t + 2 + 0 ≤ 601024 by omega, show 54728 + 662 * t + 12 + 0 ≤ 7293034 by omega⟩) hG (fun r_436 M_437 H locs hw hG => ?_)
    rw [hw.1] at hG
    refine gw_as hw.2 ?_
    refine lv_iload hx hb dL_law_533 (lv_at hl 1 rfl) ?_
    refine lv_icmp_eq hx hb (tgt := 540) dL_law_535 (by decide) (fun hc => ?_) (fun hc => absurd rfl hc)
    refine lv_iload hx hb dL_law_540 (lv_at hl 1 rfl) ?_
    refine lv_if_ne hx hb (tgt := 557) dL_law_542 (by decide) (fun hc => absurd rfl hc) (fun hc => ?_)
    refine lv_aload_n hx hb dL_law_545 rfl (lv_at hl 3 rfl) ?_
    refine lv_iconst (v := nI 0) hx hb dL_law_546 (by decide) ?_
    refine gw_lald_n hx hb hK hG hao2 1 rfl (by omega) (by omega) dL_law_547 ?_
    refine gw_asl (y := r0.toInt64) (if_pos rfl) ?_
    refine lv_iload hx hb dL_law_548 (lv_at hl 0 rfl) ?_
    refine lv_i2l hx hb dL_law_550 rfl ?_
    refine W.lcmp hx hb dL_law_551 ?_
    refine lv_if_eq hx hb (tgt := 557) dL_law_552 (by decide) (fun hc => ?_) (fun hc => absurd (lcmp_of (congrArg Int32.toInt64 heq9)) hc)
    refine lv_goto (tgt := 1549) hx hb dL_law_557 (by decide) ?_
    refine W.widen (k := 48 + 11 * (t + 1)) (n := 54728 + 662 * (t + 1)) (by omega) (by omega) ?_
    exact kk (shold S rk (vcnt (S.2.1 rk) rk ks (xs (i + 3)))) M_435 ro _ _ ls ⟨hCS2, ⟨_, _, _, _, _, _, hmd2, rel_hold hrel h6 (lc.rf _ _ _) (lc.rf _ _ _) (lc_cnt h6 hks) hvq⟩, ⟨_, hao2⟩, hLR1, (Inv_shr hInv h6 (shr_cnt _ _ _ _)).mono (Nat.le_succ t)⟩ hG (lv_sub hl [2, 3, 4, 5, 6] rfl)

set_option maxHeartbeats 4000000 in
set_option maxRecDepth 100000 in
theorem law_gossip {p : Program} {e : Env} {s : State} {m : MethodId} {below : List Frame} {meth : Method} {c : Code} (l : Launch) (hnt : l.stackTraces = false) {b L : Nat} {xs : Nat → Int32} (K : gw_C) (x mo ao : Nat) (ad : Nat → Nat) (S : gst) (t i : Nat) (M : gw_M) (ro : Nat → Nat) (C0 : LC p s m meth c b L xs K) (hi : i + 6 ≤ L) (ht : t ≤ 511) (hJ : LJ K x mo ao ad S t M ro) {H : Heap} {locs : List Loc} (hG : gw_B K M s.heap H locs) {ls : Array Slot} (hl : lv_has ls 7 [(4, .int (nI i)), (3, .ref ao), (2, .ref mo), (1, .ref x), (0, .ref b)]) (kk : LK p l e s m below meth c b K x mo ao ad t i) : W p l e room_1 s m #[Value.ref b] below meth c H locs (48 + 11 * t) (54728 + 662 * t) (lw_Z below #[Value.ref b] s) (F0 m 560 ls []) := by
  obtain ⟨C1, hT, hA0, hL⟩ := C0
  obtain ⟨hx, hb, hr, hml, hown9, htsA, hX, hbl, hlocks, hgv⟩ := id C1
  have hown : s.vm.findClass RL = some m.cls := hown9
  have hts : ∀ w ∈ wsL_law, w.before #[Value.ref b] s = true := fun w h => htsA w (wsL_law_in w h)
  have hK := hT.K
  have hbA : ¬ gw_A K b := fun q => Nat.not_le.mpr hbl (by rw [← hA0]; exact q)
  obtain ⟨hCS, ⟨cd, tb, vb, sb, fm, tq, hmd, hrel⟩, ⟨o9, hao⟩, hLR, hInv⟩ := hJ
  have hn6 := hmd.1.1
  have hk100 := hmd.1.2
  refine lv_aload_n hx hb dL_law_560 rfl (lv_at hl 3 rfl) ?_
  refine lv_aload_n hx hb dL_law_561 rfl (lv_at hl 4 rfl) ?_
  refine lv_iload hx hb dL_law_562 (lv_at hl 0 rfl) ?_
  refine lv_iconst (v := nI 1) hx hb dL_law_564 (by decide) ?_
  refine gw_iadd hx hb dL_law_565 ?_
  refine va_sld hx hb hX hbl hbA hG.S (gw_in (j := i + 1) (by omega) (by omega)) dL_law_566 ?_
  refine gw_as (y := xs (i + 1)) (congrArg xs (nI_clamp (by omega))) ?_
  refine lv_aload_n hx hb dL_law_567 rfl (lv_at hl 4 rfl) ?_
  refine lv_iload hx hb dL_law_568 (lv_at hl 0 rfl) ?_
  refine lv_iconst (v := nI 2) hx hb dL_law_570 (by decide) ?_
  refine gw_iadd hx hb dL_law_571 ?_
  refine va_sld hx hb hX hbl hbA hG.S (gw_in (j := i + 2) (by omega) (by omega)) dL_law_572 ?_
  refine gw_as (y := xs (i + 2)) (congrArg xs (nI_clamp (by omega))) ?_
  refine lv_aload_n hx hb dL_law_573 rfl (lv_at hl 1 rfl) ?_
  refine gw_xcalli (vx_runSX (As := [.ref x, .int (xs (i + 1)), .int (xs (i + 2)), .ref ao]) (rest := []) ⟨hx, hb, hml, hown, hts⟩ (w_gossip l hnt K M x ro S (xs (i + 1)) (xs (i + 2)) ao o9 hCS hao hLR.2.2) (vx_cwSW 4 hts gL_law_L_gossip rfl rfl rfl (by decide +kernel) ⟨Nat.le_of_ble_eq_true rfl, Nat.le_of_ble_eq_true rfl⟩) (gw_preS hG hT) rfl rfl hl.1 rfl (lv_room (Nat.le_of_ble_eq_true rfl)) dL_law_574 ⟨show 48 + 11 * t + 11 ≤ 601024 by omega, show 54728 + 662 * t + 662 ≤ 7293034 by omega⟩) hG (fun E9 ce9 qx9 M9 H9 locs9 hw hG h7 h8 h9 => hw.elim) (fun r_438 M_439 H locs hw hG => ?_)
  rcases hw with ⟨hr9, hM1, hC⟩ | ⟨hr9, hM1, ⟨⟨ra, hra, e1⟩, ⟨rb, hrb, e2⟩, hne9⟩, hfull⟩ | ⟨hr9, r0, M0, hP, ha0, hM1⟩
  · rw [hM1] at hG
    refine gw_as hr9 ?_
    refine lv_istore (lv' := [(5, .int (nI 1)), (4, .int (nI i)), (3, .ref ao), (2, .ref mo), (1, .ref x), (0, .ref b)]) hx hb dL_law_577 hl (by decide) rfl (fun ls hl => ?_)
    refine lv_aload_n hx hb dL_law_579 rfl (lv_at hl 3 rfl) ?_
    refine lv_aload_n hx hb dL_law_580 rfl (lv_at hl 5 rfl) ?_
    refine lv_iload hx hb dL_law_581 (lv_at hl 1 rfl) ?_
    refine lv_iconst (v := nI 1) hx hb dL_law_583 (by decide) ?_
    refine gw_iadd hx hb dL_law_584 ?_
    refine va_sld hx hb hX hbl hbA hG.S (gw_in (j := i + 1) (by omega) (by omega)) dL_law_585 ?_
    refine gw_as (y := xs (i + 1)) (congrArg xs (nI_clamp (by omega))) ?_
    refine lv_aload_n hx hb dL_law_586 rfl (lv_at hl 5 rfl) ?_
    refine lv_iload hx hb dL_law_587 (lv_at hl 1 rfl) ?_
    refine lv_iconst (v := nI 2) hx hb dL_law_589 (by decide) ?_
    refine gw_iadd hx hb dL_law_590 ?_
    refine va_sld hx hb hX hbl hbA hG.S (gw_in (j := i + 2) (by omega) (by omega)) dL_law_591 ?_
    refine gw_as (y := xs (i + 2)) (congrArg xs (nI_clamp (by omega))) ?_
    refine gw_calli (va_runV (As := [.int (xs (i + 1)), .int (xs (i + 2))]) (rest := []) ⟨hx, hb, hml, hown, hts⟩ (m_gossip_no l K M mo ad _ _ _ _ _ _ _ _ (xs (i + 1)) (xs (i + 2)) hmd hC) (cwV 2 hts gL_law_X3_gossip rfl rfl rfl (by decide +kernel) ⟨Nat.le_of_ble_eq_true rfl, Nat.le_of_ble_eq_true rfl⟩) (gw_preV hG hT hmd.2.1 rfl) rfl rfl hl.1 rfl (lv_room (Nat.le_of_ble_eq_true rfl)) dL_law_592 ⟨show 48 + 11 * t + 11 + 0 ≤ 601024 by omega, show 54728 + 662 * t + 662 + 0 ≤ 7293034 by omega⟩) hG (fun r_440 M_441 H locs hw hG => ?_)
    obtain ⟨hmd2, hf2⟩ := hw
    obtain ⟨hCS2, hao2⟩ := LJ_mod hCS hmd hao hLR hf2
    refine lv_istore (lv' := [(6, .int r_440), (5, .int (nI 1)), (4, .int (nI i)), (3, .ref ao), (2, .ref mo), (1, .ref x), (0, .ref b)]) hx hb dL_law_595 hl (by decide) rfl (fun ls hl => ?_)
    refine lv_aload_n hx hb dL_law_597 rfl (lv_at hl 4 rfl) ?_
    refine gw_calli (va_runV (As := []) (rest := []) ⟨hx, hb, hml, hown, hts⟩ (c_thrown l K M_441 mo ad _ _ _ _ _ _ _ _ hmd2) (cwV 0 hts gL_law_X3_thrown rfl rfl rfl (by decide +kernel) ⟨Nat.le_of_ble_eq_true rfl, Nat.le_of_ble_eq_true rfl⟩) (gw_preV hG hT hmd2.2.1 rfl) rfl rfl hl.1 rfl (lv_room (Nat.le_of_ble_eq_true rfl)) dL_law_598 ⟨show 48 + 11 * t + 11 + 0 ≤ 601024 by omega, show 54728 + 662 * t + 662 + 0 ≤ 7293034 by omega⟩) hG (fun r_442 M_443 H locs hw hG => ?_)
    rw [hw.1] at hG
    refine gw_as hw.2 ?_
    refine lv_iload hx hb dL_law_601 (lv_at hl 1 rfl) ?_
    refine lv_icmp_eq hx hb (tgt := 608) dL_law_603 (by decide) (fun hc => ?_) (fun hc => absurd rfl hc)
    refine lv_iload hx hb dL_law_608 (lv_at hl 1 rfl) ?_
    refine lv_if_ne hx hb (tgt := 625) dL_law_610 (by decide) (fun hc => ?_) (fun hc => absurd hc (by decide))
    refine lv_goto (tgt := 1549) hx hb dL_law_625 (by decide) ?_
    refine W.widen (k := 48 + 11 * (t + 1)) (n := 54728 + 662 * (t + 1)) (by omega) (by omega) ?_
    exact kk S M_441 ro _ _ ls ⟨hCS2, ⟨_, _, _, _, _, _, hmd2, hrel⟩, ⟨_, hao2⟩, hLR, (hInv).mono (Nat.le_succ t)⟩ hG (lv_sub hl [2, 3, 4, 5, 6] rfl)
  · rw [hM1] at hG
    refine gw_as hr9 ?_
    refine lv_istore (lv' := [(5, .int (nI 2)), (4, .int (nI i)), (3, .ref ao), (2, .ref mo), (1, .ref x), (0, .ref b)]) hx hb dL_law_577 hl (by decide) rfl (fun ls hl => ?_)
    refine lv_aload_n hx hb dL_law_579 rfl (lv_at hl 3 rfl) ?_
    refine lv_aload_n hx hb dL_law_580 rfl (lv_at hl 5 rfl) ?_
    refine lv_iload hx hb dL_law_581 (lv_at hl 1 rfl) ?_
    refine lv_iconst (v := nI 1) hx hb dL_law_583 (by decide) ?_
    refine gw_iadd hx hb dL_law_584 ?_
    refine va_sld hx hb hX hbl hbA hG.S (gw_in (j := i + 1) (by omega) (by omega)) dL_law_585 ?_
    refine gw_as (y := xs (i + 1)) (congrArg xs (nI_clamp (by omega))) ?_
    refine gw_as e1 ?_
    refine lv_aload_n hx hb dL_law_586 rfl (lv_at hl 5 rfl) ?_
    refine lv_iload hx hb dL_law_587 (lv_at hl 1 rfl) ?_
    refine lv_iconst (v := nI 2) hx hb dL_law_589 (by decide) ?_
    refine gw_iadd hx hb dL_law_590 ?_
    refine va_sld hx hb hX hbl hbA hG.S (gw_in (j := i + 2) (by omega) (by omega)) dL_law_591 ?_
    refine gw_as (y := xs (i + 2)) (congrArg xs (nI_clamp (by omega))) ?_
    refine gw_as e2 ?_
    refine gw_calli (va_runV (As := [.int (nI ra), .int (nI rb)]) (rest := []) ⟨hx, hb, hml, hown, hts⟩ (m_gossip_full l K M mo ad _ _ _ _ _ _ _ _ ra rb hmd hra hrb (fun z => hne9 (by rw [e1, e2, z])) hfull) (cwV 2 hts gL_law_X3_gossip rfl rfl rfl (by decide +kernel) ⟨Nat.le_of_ble_eq_true rfl, Nat.le_of_ble_eq_true rfl⟩) (gw_preV hG hT hmd.2.1 rfl) rfl rfl hl.1 rfl (lv_room (Nat.le_of_ble_eq_true rfl)) dL_law_592 ⟨show 48 + 11 * t + 11 + 0 ≤ 601024 by omega, show 54728 + 662 * t + 662 + 0 ≤ 7293034 by omega⟩) hG (fun r_444 M_445 H locs hw hG => ?_)
    obtain ⟨hmd2, hf2⟩ := hw
    obtain ⟨hCS2, hao2⟩ := LJ_mod hCS hmd hao hLR hf2
    refine lv_istore (lv' := [(6, .int r_444), (5, .int (nI 2)), (4, .int (nI i)), (3, .ref ao), (2, .ref mo), (1, .ref x), (0, .ref b)]) hx hb dL_law_595 hl (by decide) rfl (fun ls hl => ?_)
    refine lv_aload_n hx hb dL_law_597 rfl (lv_at hl 4 rfl) ?_
    refine gw_calli (va_runV (As := []) (rest := []) ⟨hx, hb, hml, hown, hts⟩ (c_thrown l K M_445 mo ad _ _ _ _ _ _ _ _ hmd2) (cwV 0 hts gL_law_X3_thrown rfl rfl rfl (by decide +kernel) ⟨Nat.le_of_ble_eq_true rfl, Nat.le_of_ble_eq_true rfl⟩) (gw_preV hG hT hmd2.2.1 rfl) rfl rfl hl.1 rfl (lv_room (Nat.le_of_ble_eq_true rfl)) dL_law_598 ⟨show 48 + 11 * t + 11 + 0 ≤ 601024 by omega, show 54728 + 662 * t + 662 + 0 ≤ 7293034 by omega⟩) hG (fun r_446 M_447 H locs hw hG => ?_)
    rw [hw.1] at hG
    refine gw_as hw.2 ?_
    refine lv_iload hx hb dL_law_601 (lv_at hl 1 rfl) ?_
    refine lv_icmp_eq hx hb (tgt := 608) dL_law_603 (by decide) (fun hc => ?_) (fun hc => absurd rfl hc)
    refine lv_iload hx hb dL_law_608 (lv_at hl 1 rfl) ?_
    refine lv_if_ne hx hb (tgt := 625) dL_law_610 (by decide) (fun hc => ?_) (fun hc => absurd hc (by decide))
    refine lv_goto (tgt := 1549) hx hb dL_law_625 (by decide) ?_
    refine W.widen (k := 48 + 11 * (t + 1)) (n := 54728 + 662 * (t + 1)) (by omega) (by omega) ?_
    exact kk S M_445 ro _ _ ls ⟨hCS2, ⟨_, _, _, _, _, _, hmd2, hrel⟩, ⟨_, hao2⟩, hLR, (hInv).mono (Nat.le_succ t)⟩ hG (lv_sub hl [2, 3, 4, 5, 6] rfl)
  · refine gw_as hr9 ?_
    obtain ⟨rk, rj, ⟨hrk, e1⟩, ⟨hrj, e2⟩, hne9, hlt, hv, ro1, hC9, hof⟩ := hP
    have h6 : rk < 6 := by omega
    obtain ⟨hCS1, hmd1, hao1, hLR1⟩ := LJ_out (e := .inl (K.2.1 1, 1, .inr (.inl (vp_updL o9 0 r0.toInt64)))) hC9 hof hmd hao ha0 hLR
    rw [← hM1] at hCS1 hmd1 hao1
    refine lv_istore (lv' := [(5, .int (nI 0)), (4, .int (nI i)), (3, .ref ao), (2, .ref mo), (1, .ref x), (0, .ref b)]) hx hb dL_law_577 hl (by decide) rfl (fun ls hl => ?_)
    refine lv_aload_n hx hb dL_law_579 rfl (lv_at hl 3 rfl) ?_
    refine lv_aload_n hx hb dL_law_580 rfl (lv_at hl 5 rfl) ?_
    refine lv_iload hx hb dL_law_581 (lv_at hl 1 rfl) ?_
    refine lv_iconst (v := nI 1) hx hb dL_law_583 (by decide) ?_
    refine gw_iadd hx hb dL_law_584 ?_
    refine va_sld hx hb hX hbl hbA hG.S (gw_in (j := i + 1) (by omega) (by omega)) dL_law_585 ?_
    refine gw_as (y := xs (i + 1)) (congrArg xs (nI_clamp (by omega))) ?_
    refine gw_as e1 ?_
    refine lv_aload_n hx hb dL_law_586 rfl (lv_at hl 5 rfl) ?_
    refine lv_iload hx hb dL_law_587 (lv_at hl 1 rfl) ?_
    refine lv_iconst (v := nI 2) hx hb dL_law_589 (by decide) ?_
    refine gw_iadd hx hb dL_law_590 ?_
    refine va_sld hx hb hX hbl hbA hG.S (gw_in (j := i + 2) (by omega) (by omega)) dL_law_591 ?_
    refine gw_as (y := xs (i + 2)) (congrArg xs (nI_clamp (by omega))) ?_
    refine gw_as e2 ?_
    refine gw_calli (va_runV (As := [.int (nI rk), .int (nI rj)]) (rest := []) ⟨hx, hb, hml, hown, hts⟩ (m_gossip l K M_439 mo ad _ _ _ _ _ _ _ _ rk rj hmd1 hrk hrj hne9 hlt) (cwV 2 hts gL_law_X3_gossip rfl rfl rfl (by decide +kernel) ⟨Nat.le_of_ble_eq_true rfl, Nat.le_of_ble_eq_true rfl⟩) (gw_preV hG hT hmd1.2.1 rfl) rfl rfl hl.1 rfl (lv_room (Nat.le_of_ble_eq_true rfl)) dL_law_592 ⟨show 48 + 11 * t + 11 + 0 ≤ 601024 by omega, show 54728 + 662 * t + 662 + 0 ≤ 7293034 by omega⟩) hG (fun r_448 M_449 H locs hw hG => ?_)
    obtain ⟨hv2, hmd2, hf2⟩ := hw
    have heq9 : r0 = r_448 := (hv).trans hv2.symm
    obtain ⟨hCS2, hao2⟩ := LJ_mod hCS1 hmd1 hao1 hLR1 hf2
    refine lv_istore (lv' := [(6, .int r_448), (5, .int (nI 0)), (4, .int (nI i)), (3, .ref ao), (2, .ref mo), (1, .ref x), (0, .ref b)]) hx hb dL_law_595 hl (by decide) rfl (fun ls hl => ?_)
    refine lv_aload_n hx hb dL_law_597 rfl (lv_at hl 4 rfl) ?_
    refine gw_calli (va_runV (As := []) (rest := []) ⟨hx, hb, hml, hown, hts⟩ (c_thrown l K M_449 mo ad _ _ _ _ _ _ _ _ hmd2) (cwV 0 hts gL_law_X3_thrown rfl rfl rfl (by decide +kernel) ⟨Nat.le_of_ble_eq_true rfl, Nat.le_of_ble_eq_true rfl⟩) (gw_preV hG hT hmd2.2.1 rfl) rfl rfl hl.1 rfl (lv_room (Nat.le_of_ble_eq_true rfl)) dL_law_598 ⟨show 48 + 11 * t + 11 + 0 ≤ 601024 by omega, show 54728 + 662 * t + 662 + 0 ≤ 7293034 by omega⟩) hG (fun r_450 M_451 H locs hw hG => ?_)
    rw [hw.1] at hG
    refine gw_as hw.2 ?_
    refine lv_iload hx hb dL_law_601 (lv_at hl 1 rfl) ?_
    refine lv_icmp_eq hx hb (tgt := 608) dL_law_603 (by decide) (fun hc => ?_) (fun hc => absurd rfl hc)
    refine lv_iload hx hb dL_law_608 (lv_at hl 1 rfl) ?_
    refine lv_if_ne hx hb (tgt := 625) dL_law_610 (by decide) (fun hc => absurd rfl hc) (fun hc => ?_)
    refine lv_aload_n hx hb dL_law_613 rfl (lv_at hl 3 rfl) ?_
    refine lv_iconst (v := nI 0) hx hb dL_law_614 (by decide) ?_
    refine gw_lald_n hx hb hK hG hao2 1 rfl (by omega) (by omega) dL_law_615 ?_
    refine gw_asl (y := r0.toInt64) (if_pos rfl) ?_
    refine lv_iload hx hb dL_law_616 (lv_at hl 0 rfl) ?_
    refine lv_i2l hx hb dL_law_618 rfl ?_
    refine W.lcmp hx hb dL_law_619 ?_
    refine lv_if_eq hx hb (tgt := 625) dL_law_620 (by decide) (fun hc => ?_) (fun hc => absurd (lcmp_of (congrArg Int32.toInt64 heq9)) hc)
    refine lv_goto (tgt := 1549) hx hb dL_law_625 (by decide) ?_
    refine W.widen (k := 48 + 11 * (t + 1)) (n := 54728 + 662 * (t + 1)) (by omega) (by omega) ?_
    exact kk (smsg S rk rj (vsn (S.2.1 rk))) M_449 ro1 _ _ ls ⟨hCS2, ⟨_, _, _, _, _, _, hmd2, rel_msg hrel lc_cp lc_cp lc_cp ((veq_sn _).tr (veq_cp (hrel.1 rk h6)))⟩, ⟨_, hao2⟩, hLR1, (Inv_msg hInv (vin_h h6) (veq_sn _)).mono (Nat.le_succ t)⟩ hG (lv_sub hl [2, 3, 4, 5, 6] rfl)
