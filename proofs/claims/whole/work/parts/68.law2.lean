set_option maxHeartbeats 4000000 in
set_option maxRecDepth 100000 in
theorem law_deliver {p : Program} {e : Env} {s : State} {m : MethodId} {below : List Frame} {meth : Method} {c : Code} (l : Launch) (hnt : l.stackTraces = false) {b L : Nat} {xs : Nat → Int32} (K : gw_C) (x mo ao : Nat) (ad : Nat → Nat) (S : gst) (t i : Nat) (M : gw_M) (ro : Nat → Nat) (C0 : LC p s m meth c b L xs K) (hi : i + 6 ≤ L) (ht : t ≤ 511) (hJ : LJ K x mo ao ad S t M ro) {H : Heap} {locs : List Loc} (hG : gw_B K M s.heap H locs) {ls : Array Slot} (hl : lv_has ls 7 [(4, .int (nI i)), (3, .ref ao), (2, .ref mo), (1, .ref x), (0, .ref b)]) (kk : LK p l e s m below meth c b K x mo ao ad t i) : W p l e room_1 s m #[Value.ref b] below meth c H locs (48 + 11 * t) (54728 + 662 * t) (lw_Z below #[Value.ref b] s) (F0 m 628 ls []) := by
  obtain ⟨C1, hT, hA0, hL⟩ := C0
  obtain ⟨hx, hb, hr, hml, hown9, htsA, hX, hbl, hlocks, hgv⟩ := id C1
  have hown : s.vm.findClass RL = some m.cls := hown9
  have hts : ∀ w ∈ wsL_law, w.before #[Value.ref b] s = true := fun w h => htsA w (wsL_law_in w h)
  have hK := hT.K
  have hbA : ¬ gw_A K b := fun q => Nat.not_le.mpr hbl (by rw [← hA0]; exact q)
  obtain ⟨hCS, ⟨cd, tb, vb, sb, fm, tq, hmd, hrel⟩, ⟨o9, hao⟩, hLR, hInv⟩ := hJ
  have hn6 := hmd.1.1
  have hk100 := hmd.1.2
  refine lv_aload_n hx hb dL_law_628 rfl (lv_at hl 3 rfl) ?_
  refine lv_aload_n hx hb dL_law_629 rfl (lv_at hl 4 rfl) ?_
  refine lv_iload hx hb dL_law_630 (lv_at hl 0 rfl) ?_
  refine lv_iconst (v := nI 1) hx hb dL_law_632 (by decide) ?_
  refine gw_iadd hx hb dL_law_633 ?_
  refine va_sld hx hb hX hbl hbA hG.S (gw_in (j := i + 1) (by omega) (by omega)) dL_law_634 ?_
  refine gw_as (y := xs (i + 1)) (congrArg xs (nI_clamp (by omega))) ?_
  refine lv_aload_n hx hb dL_law_635 rfl (lv_at hl 1 rfl) ?_
  refine gw_xcalli (vx_runSX (As := [.ref x, .int (xs (i + 1)), .ref ao]) (rest := []) ⟨hx, hb, hml, hown, hts⟩ (w_deliver l hnt K M x ro S (xs (i + 1)) ao o9 hCS hao hLR.2.2) (vx_cwSW 3 hts gL_law_L_deliver rfl rfl rfl (by decide +kernel) ⟨Nat.le_of_ble_eq_true rfl, Nat.le_of_ble_eq_true rfl⟩) (gw_preS hG hT) rfl rfl hl.1 rfl (lv_room (Nat.le_of_ble_eq_true rfl)) dL_law_636 ⟨show 48 + 11 * t + 1 ≤ 601024 by omega, show 54728 + 662 * t + 6 ≤ 7293034 by omega⟩) hG (fun E9 ce9 qx9 M9 H9 locs9 hw hG h7 h8 h9 => hw.elim) (fun r_452 M_453 H locs hw hG => ?_)
  rcases hw with ⟨hr9, hM1, hC⟩ | ⟨hr9, r0, M0, hP, ha0, hM1⟩
  · rw [hM1] at hG
    refine gw_as hr9 ?_
    refine lv_istore (lv' := [(5, .int (nI 1)), (4, .int (nI i)), (3, .ref ao), (2, .ref mo), (1, .ref x), (0, .ref b)]) hx hb dL_law_639 hl (by decide) rfl (fun ls hl => ?_)
    refine lv_aload_n hx hb dL_law_641 rfl (lv_at hl 3 rfl) ?_
    refine lv_aload_n hx hb dL_law_642 rfl (lv_at hl 5 rfl) ?_
    refine lv_iload hx hb dL_law_643 (lv_at hl 1 rfl) ?_
    refine lv_iconst (v := nI 1) hx hb dL_law_645 (by decide) ?_
    refine gw_iadd hx hb dL_law_646 ?_
    refine va_sld hx hb hX hbl hbA hG.S (gw_in (j := i + 1) (by omega) (by omega)) dL_law_647 ?_
    refine gw_as (y := xs (i + 1)) (congrArg xs (nI_clamp (by omega))) ?_
    refine gw_calli (va_runV (As := [.int (xs (i + 1))]) (rest := []) ⟨hx, hb, hml, hown, hts⟩ (m_deliver_no l K M mo ad _ _ _ _ _ _ _ _ (xs (i + 1)) hmd hC) (cwV 1 hts gL_law_X3_deliver rfl rfl rfl (by decide +kernel) ⟨Nat.le_of_ble_eq_true rfl, Nat.le_of_ble_eq_true rfl⟩) (gw_preV hG hT hmd.2.1 rfl) rfl rfl hl.1 rfl (lv_room (Nat.le_of_ble_eq_true rfl)) dL_law_648 ⟨show 48 + 11 * t + 1 + 0 ≤ 601024 by omega, show 54728 + 662 * t + 6 + 0 ≤ 7293034 by omega⟩) hG (fun r_454 M_455 H locs hw hG => ?_)
    obtain ⟨hmd2, hf2⟩ := hw
    obtain ⟨hCS2, hao2⟩ := LJ_mod hCS hmd hao hLR hf2
    refine lv_istore (lv' := [(6, .int r_454), (5, .int (nI 1)), (4, .int (nI i)), (3, .ref ao), (2, .ref mo), (1, .ref x), (0, .ref b)]) hx hb dL_law_651 hl (by decide) rfl (fun ls hl => ?_)
    refine lv_aload_n hx hb dL_law_653 rfl (lv_at hl 4 rfl) ?_
    refine gw_calli (va_runV (As := []) (rest := []) ⟨hx, hb, hml, hown, hts⟩ (c_thrown l K M_455 mo ad _ _ _ _ _ _ _ _ hmd2) (cwV 0 hts gL_law_X3_thrown rfl rfl rfl (by decide +kernel) ⟨Nat.le_of_ble_eq_true rfl, Nat.le_of_ble_eq_true rfl⟩) (gw_preV hG hT hmd2.2.1 rfl) rfl rfl hl.1 rfl (lv_room (Nat.le_of_ble_eq_true rfl)) dL_law_654 ⟨show 48 + 11 * t + 1 + 0 ≤ 601024 by omega, show 54728 + 662 * t + 6 + 0 ≤ 7293034 by omega⟩) hG (fun r_456 M_457 H locs hw hG => ?_)
    rw [hw.1] at hG
    refine gw_as hw.2 ?_
    refine lv_iload hx hb dL_law_657 (lv_at hl 1 rfl) ?_
    refine lv_icmp_eq hx hb (tgt := 664) dL_law_659 (by decide) (fun hc => ?_) (fun hc => absurd rfl hc)
    refine lv_iload hx hb dL_law_664 (lv_at hl 1 rfl) ?_
    refine lv_if_ne hx hb (tgt := 681) dL_law_666 (by decide) (fun hc => ?_) (fun hc => absurd hc (by decide))
    refine lv_goto (tgt := 1549) hx hb dL_law_681 (by decide) ?_
    refine W.widen (k := 48 + 11 * (t + 1)) (n := 54728 + 662 * (t + 1)) (by omega) (by omega) ?_
    exact kk S M_455 ro _ _ ls ⟨hCS2, ⟨_, _, _, _, _, _, hmd2, hrel⟩, ⟨_, hao2⟩, hLR, (hInv).mono (Nat.le_succ t)⟩ hG (lv_sub hl [2, 3, 4, 5, 6] rfl)
  · refine gw_as hr9 ?_
    obtain ⟨k, ⟨hk, e1⟩, hv, ro1, hC9, hof⟩ := hP
    obtain ⟨he, hhe9⟩ : ∃ z, z = S.2.2.2.2.1 k := ⟨_, rfl⟩
    rw [← hhe9] at hv hC9
    have htq9 : tq k = nI he := by rw [hhe9]; exact (hrel.2 k hk).2.2
    have h6 : he < 6 := by rw [hhe9]; obtain ⟨_, _, _, _, _, _, _, _, _, _, _, _, hcs9, _⟩ := id hCS; exact (hcs9.2.2.2.2.2.2 k hk).2
    obtain ⟨G9, hG9⟩ : ∃ G, G = mmf tb vb he (6 + k) := ⟨_, rfl⟩
    obtain ⟨F9, hF9⟩ : ∃ F, F = hmf (S.2.1 he) (S.2.2.2.2.2 k) 408 := ⟨_, rfl⟩
    rw [← hF9] at hv
    have hW9 : hmg (S.2.1 he) (S.2.2.2.2.2 k) = (hmx F9.1.1 (S.2.2.2.2.2 k).1 6, F9.1.2.1, F9.1.2.2.1, hmxl F9.1.2.2.2.1 (S.2.2.2.2.2 k).2.2.2.1 24, hmxl F9.1.2.2.2.2 (S.2.2.2.2.2 k).2.2.2.2 24) := by unfold hmg; rw [← hF9]
    rw [hW9] at hC9
    have hmr := veq_mrg (hrel.1 he h6) (hrel.2 k hk).1 (by omega) (hInv.le (vin_h h6)) hF9 (show G9 408 = mmf tb vb he (6 + k) 408 by rw [hG9])
    obtain ⟨hCS1, hmd1, hao1, hLR1⟩ := LJ_out (e := .inl (K.2.1 1, 1, .inr (.inl (vp_updL o9 0 r0.toInt64)))) hC9 hof hmd hao ha0 hLR
    rw [← hM1] at hCS1 hmd1 hao1
    refine lv_istore (lv' := [(5, .int (nI 0)), (4, .int (nI i)), (3, .ref ao), (2, .ref mo), (1, .ref x), (0, .ref b)]) hx hb dL_law_639 hl (by decide) rfl (fun ls hl => ?_)
    refine lv_aload_n hx hb dL_law_641 rfl (lv_at hl 3 rfl) ?_
    refine lv_aload_n hx hb dL_law_642 rfl (lv_at hl 5 rfl) ?_
    refine lv_iload hx hb dL_law_643 (lv_at hl 1 rfl) ?_
    refine lv_iconst (v := nI 1) hx hb dL_law_645 (by decide) ?_
    refine gw_iadd hx hb dL_law_646 ?_
    refine va_sld hx hb hX hbl hbA hG.S (gw_in (j := i + 1) (by omega) (by omega)) dL_law_647 ?_
    refine gw_as (y := xs (i + 1)) (congrArg xs (nI_clamp (by omega))) ?_
    refine gw_as e1 ?_
    refine gw_calli (va_runV (As := [.int (nI k)]) (rest := []) ⟨hx, hb, hml, hown, hts⟩ (m_deliverF l K M_453 mo ad _ _ _ _ _ _ _ _ k he G9 hmd1 (by rw [hG9]; rfl) (fun row r h => by rw [hG9]; exact mmf_s tb vb he (6 + k) row r h) hk h6 htq9) (cwV 1 hts gL_law_X3_deliver rfl rfl rfl (by decide +kernel) ⟨Nat.le_of_ble_eq_true rfl, Nat.le_of_ble_eq_true rfl⟩) (gw_preV hG hT hmd1.2.1 rfl) rfl rfl hl.1 rfl (lv_room (Nat.le_of_ble_eq_true rfl)) dL_law_648 ⟨show 48 + 11 * t + 1 + 0 ≤ 601024 by omega, show 54728 + 662 * t + 6 + 0 ≤ 7293034 by omega⟩) hG (fun r_458 M_459 H locs hw hG => ?_)
    obtain ⟨hv2, hmd2, hf2⟩ := hw
    have heq9 : r0 = r_458 := (hv.trans (congrArg nI hmr.2.1.symm)).trans hv2.symm
    obtain ⟨hCS2, hao2⟩ := LJ_mod hCS1 hmd1 hao1 hLR1 hf2
    refine lv_istore (lv' := [(6, .int r_458), (5, .int (nI 0)), (4, .int (nI i)), (3, .ref ao), (2, .ref mo), (1, .ref x), (0, .ref b)]) hx hb dL_law_651 hl (by decide) rfl (fun ls hl => ?_)
    refine lv_aload_n hx hb dL_law_653 rfl (lv_at hl 4 rfl) ?_
    refine gw_calli (va_runV (As := []) (rest := []) ⟨hx, hb, hml, hown, hts⟩ (c_thrown l K M_459 mo ad _ _ _ _ _ _ _ _ hmd2) (cwV 0 hts gL_law_X3_thrown rfl rfl rfl (by decide +kernel) ⟨Nat.le_of_ble_eq_true rfl, Nat.le_of_ble_eq_true rfl⟩) (gw_preV hG hT hmd2.2.1 rfl) rfl rfl hl.1 rfl (lv_room (Nat.le_of_ble_eq_true rfl)) dL_law_654 ⟨show 48 + 11 * t + 1 + 0 ≤ 601024 by omega, show 54728 + 662 * t + 6 + 0 ≤ 7293034 by omega⟩) hG (fun r_460 M_461 H locs hw hG => ?_)
    rw [hw.1] at hG
    refine gw_as hw.2 ?_
    refine lv_iload hx hb dL_law_657 (lv_at hl 1 rfl) ?_
    refine lv_icmp_eq hx hb (tgt := 664) dL_law_659 (by decide) (fun hc => ?_) (fun hc => absurd rfl hc)
    refine lv_iload hx hb dL_law_664 (lv_at hl 1 rfl) ?_
    refine lv_if_ne hx hb (tgt := 681) dL_law_666 (by decide) (fun hc => absurd rfl hc) (fun hc => ?_)
    refine lv_aload_n hx hb dL_law_669 rfl (lv_at hl 3 rfl) ?_
    refine lv_iconst (v := nI 0) hx hb dL_law_670 (by decide) ?_
    refine gw_lald_n hx hb hK hG hao2 1 rfl (by omega) (by omega) dL_law_671 ?_
    refine gw_asl (y := r0.toInt64) (if_pos rfl) ?_
    refine lv_iload hx hb dL_law_672 (lv_at hl 0 rfl) ?_
    refine lv_i2l hx hb dL_law_674 rfl ?_
    refine W.lcmp hx hb dL_law_675 ?_
    refine lv_if_eq hx hb (tgt := 681) dL_law_676 (by decide) (fun hc => ?_) (fun hc => absurd (lcmp_of (congrArg Int32.toInt64 heq9)) hc)
    refine lv_goto (tgt := 1549) hx hb dL_law_681 (by decide) ?_
    refine W.widen (k := 48 + 11 * (t + 1)) (n := 54728 + 662 * (t + 1)) (by omega) (by omega) ?_
    exact kk (shold (sdel S k) he (hmx F9.1.1 (S.2.2.2.2.2 k).1 6, F9.1.2.1, F9.1.2.2.1, hmxl F9.1.2.2.2.1 (S.2.2.2.2.2 k).2.2.2.1 24, hmxl F9.1.2.2.2.2 (S.2.2.2.2.2 k).2.2.2.2 24)) M_459 ro1 _ _ ls ⟨hCS2, ⟨_, _, _, _, _, _, hmd2, rel_del (rel_hold hrel h6 hmr.2.2.1 hmr.2.2.2.1 hmr.2.2.2.2 hmr.1) hk⟩, ⟨_, hao2⟩, hLR1, (Inv_mrg (V := (hmx F9.1.1 (S.2.2.2.2.2 k).1 6, F9.1.2.1, F9.1.2.2.1, hmxl F9.1.2.2.2.1 (S.2.2.2.2.2 k).2.2.2.1 24, hmxl F9.1.2.2.2.2 (S.2.2.2.2.2 k).2.2.2.2 24)) hInv hk h6 hF9 rfl rfl rfl).mono (Nat.le_succ t)⟩ hG (lv_sub hl [2, 3, 4, 5, 6] rfl)

set_option maxHeartbeats 4000000 in
set_option maxRecDepth 100000 in
theorem law_drop {p : Program} {e : Env} {s : State} {m : MethodId} {below : List Frame} {meth : Method} {c : Code} (l : Launch) (hnt : l.stackTraces = false) {b L : Nat} {xs : Nat → Int32} (K : gw_C) (x mo ao : Nat) (ad : Nat → Nat) (S : gst) (t i : Nat) (M : gw_M) (ro : Nat → Nat) (C0 : LC p s m meth c b L xs K) (hi : i + 6 ≤ L) (ht : t ≤ 511) (hJ : LJ K x mo ao ad S t M ro) {H : Heap} {locs : List Loc} (hG : gw_B K M s.heap H locs) {ls : Array Slot} (hl : lv_has ls 7 [(4, .int (nI i)), (3, .ref ao), (2, .ref mo), (1, .ref x), (0, .ref b)]) (kk : LK p l e s m below meth c b K x mo ao ad t i) : W p l e room_1 s m #[Value.ref b] below meth c H locs (48 + 11 * t) (54728 + 662 * t) (lw_Z below #[Value.ref b] s) (F0 m 684 ls []) := by
  obtain ⟨C1, hT, hA0, hL⟩ := C0
  obtain ⟨hx, hb, hr, hml, hown9, htsA, hX, hbl, hlocks, hgv⟩ := id C1
  have hown : s.vm.findClass RL = some m.cls := hown9
  have hts : ∀ w ∈ wsL_law, w.before #[Value.ref b] s = true := fun w h => htsA w (wsL_law_in w h)
  have hK := hT.K
  have hbA : ¬ gw_A K b := fun q => Nat.not_le.mpr hbl (by rw [← hA0]; exact q)
  obtain ⟨hCS, ⟨cd, tb, vb, sb, fm, tq, hmd, hrel⟩, ⟨o9, hao⟩, hLR, hInv⟩ := hJ
  have hn6 := hmd.1.1
  have hk100 := hmd.1.2
  refine lv_aload_n hx hb dL_law_684 rfl (lv_at hl 3 rfl) ?_
  refine lv_aload_n hx hb dL_law_685 rfl (lv_at hl 4 rfl) ?_
  refine lv_iload hx hb dL_law_686 (lv_at hl 0 rfl) ?_
  refine lv_iconst (v := nI 1) hx hb dL_law_688 (by decide) ?_
  refine gw_iadd hx hb dL_law_689 ?_
  refine va_sld hx hb hX hbl hbA hG.S (gw_in (j := i + 1) (by omega) (by omega)) dL_law_690 ?_
  refine gw_as (y := xs (i + 1)) (congrArg xs (nI_clamp (by omega))) ?_
  refine lv_aload_n hx hb dL_law_691 rfl (lv_at hl 1 rfl) ?_
  refine gw_xcalli (vx_runSX (As := [.ref x, .int (xs (i + 1)), .ref ao]) (rest := []) ⟨hx, hb, hml, hown, hts⟩ (w_drop l hnt K M x ro S (xs (i + 1)) ao o9 hCS hao hLR.2.2) (vx_cwSW 3 hts gL_law_L_drop rfl rfl rfl (by decide +kernel) ⟨Nat.le_of_ble_eq_true rfl, Nat.le_of_ble_eq_true rfl⟩) (gw_preS hG hT) rfl rfl hl.1 rfl (lv_room (Nat.le_of_ble_eq_true rfl)) dL_law_692 ⟨show 48 + 11 * t + 1 ≤ 601024 by omega, show 54728 + 662 * t + 6 ≤ 7293034 by omega⟩) hG (fun E9 ce9 qx9 M9 H9 locs9 hw hG h7 h8 h9 => hw.elim) (fun r_462 M_463 H locs hw hG => ?_)
  rcases hw with ⟨hr9, hM1, hC⟩ | ⟨hr9, r0, M0, hP, ha0, hM1⟩
  · rw [hM1] at hG
    refine gw_as hr9 ?_
    refine lv_istore (lv' := [(5, .int (nI 1)), (4, .int (nI i)), (3, .ref ao), (2, .ref mo), (1, .ref x), (0, .ref b)]) hx hb dL_law_695 hl (by decide) rfl (fun ls hl => ?_)
    refine lv_aload_n hx hb dL_law_697 rfl (lv_at hl 3 rfl) ?_
    refine lv_aload_n hx hb dL_law_698 rfl (lv_at hl 5 rfl) ?_
    refine lv_iload hx hb dL_law_699 (lv_at hl 1 rfl) ?_
    refine lv_iconst (v := nI 1) hx hb dL_law_701 (by decide) ?_
    refine gw_iadd hx hb dL_law_702 ?_
    refine va_sld hx hb hX hbl hbA hG.S (gw_in (j := i + 1) (by omega) (by omega)) dL_law_703 ?_
    refine gw_as (y := xs (i + 1)) (congrArg xs (nI_clamp (by omega))) ?_
    refine gw_calli (va_runV (As := [.int (xs (i + 1))]) (rest := []) ⟨hx, hb, hml, hown, hts⟩ (m_drop_no l K M mo ad _ _ _ _ _ _ _ _ (xs (i + 1)) hmd hC) (cwV 1 hts gL_law_X3_drop rfl rfl rfl (by decide +kernel) ⟨Nat.le_of_ble_eq_true rfl, Nat.le_of_ble_eq_true rfl⟩) (gw_preV hG hT hmd.2.1 rfl) rfl rfl hl.1 rfl (lv_room (Nat.le_of_ble_eq_true rfl)) dL_law_704 ⟨show 48 + 11 * t + 1 + 0 ≤ 601024 by omega, show 54728 + 662 * t + 6 + 0 ≤ 7293034 by omega⟩) hG (fun r_464 M_465 H locs hw hG => ?_)
    obtain ⟨hmd2, hf2⟩ := hw
    obtain ⟨hCS2, hao2⟩ := LJ_mod hCS hmd hao hLR hf2
    refine lv_istore (lv' := [(6, .int r_464), (5, .int (nI 1)), (4, .int (nI i)), (3, .ref ao), (2, .ref mo), (1, .ref x), (0, .ref b)]) hx hb dL_law_707 hl (by decide) rfl (fun ls hl => ?_)
    refine lv_aload_n hx hb dL_law_709 rfl (lv_at hl 4 rfl) ?_
    refine gw_calli (va_runV (As := []) (rest := []) ⟨hx, hb, hml, hown, hts⟩ (c_thrown l K M_465 mo ad _ _ _ _ _ _ _ _ hmd2) (cwV 0 hts gL_law_X3_thrown rfl rfl rfl (by decide +kernel) ⟨Nat.le_of_ble_eq_true rfl, Nat.le_of_ble_eq_true rfl⟩) (gw_preV hG hT hmd2.2.1 rfl) rfl rfl hl.1 rfl (lv_room (Nat.le_of_ble_eq_true rfl)) dL_law_710 ⟨show 48 + 11 * t + 1 + 0 ≤ 601024 by omega, show 54728 + 662 * t + 6 + 0 ≤ 7293034 by omega⟩) hG (fun r_466 M_467 H locs hw hG => ?_)
    rw [hw.1] at hG
    refine gw_as hw.2 ?_
    refine lv_iload hx hb dL_law_713 (lv_at hl 1 rfl) ?_
    refine lv_icmp_eq hx hb (tgt := 720) dL_law_715 (by decide) (fun hc => ?_) (fun hc => absurd rfl hc)
    refine lv_iload hx hb dL_law_720 (lv_at hl 1 rfl) ?_
    refine lv_if_ne hx hb (tgt := 737) dL_law_722 (by decide) (fun hc => ?_) (fun hc => absurd hc (by decide))
    refine lv_goto (tgt := 1549) hx hb dL_law_737 (by decide) ?_
    refine W.widen (k := 48 + 11 * (t + 1)) (n := 54728 + 662 * (t + 1)) (by omega) (by omega) ?_
    exact kk S M_465 ro _ _ ls ⟨hCS2, ⟨_, _, _, _, _, _, hmd2, hrel⟩, ⟨_, hao2⟩, hLR, (hInv).mono (Nat.le_succ t)⟩ hG (lv_sub hl [2, 3, 4, 5, 6] rfl)
  · refine gw_as hr9 ?_
    obtain ⟨k, ⟨hk, e1⟩, hv, ro1, hC9, hof⟩ := hP
    obtain ⟨hCS1, hmd1, hao1, hLR1⟩ := LJ_out (e := .inl (K.2.1 1, 1, .inr (.inl (vp_updL o9 0 r0.toInt64)))) hC9 hof hmd hao ha0 hLR
    rw [← hM1] at hCS1 hmd1 hao1
    refine lv_istore (lv' := [(5, .int (nI 0)), (4, .int (nI i)), (3, .ref ao), (2, .ref mo), (1, .ref x), (0, .ref b)]) hx hb dL_law_695 hl (by decide) rfl (fun ls hl => ?_)
    refine lv_aload_n hx hb dL_law_697 rfl (lv_at hl 3 rfl) ?_
    refine lv_aload_n hx hb dL_law_698 rfl (lv_at hl 5 rfl) ?_
    refine lv_iload hx hb dL_law_699 (lv_at hl 1 rfl) ?_
    refine lv_iconst (v := nI 1) hx hb dL_law_701 (by decide) ?_
    refine gw_iadd hx hb dL_law_702 ?_
    refine va_sld hx hb hX hbl hbA hG.S (gw_in (j := i + 1) (by omega) (by omega)) dL_law_703 ?_
    refine gw_as (y := xs (i + 1)) (congrArg xs (nI_clamp (by omega))) ?_
    refine gw_as e1 ?_
    refine gw_calli (va_runV (As := [.int (nI k)]) (rest := []) ⟨hx, hb, hml, hown, hts⟩ (m_drop l K M_463 mo ad _ _ _ _ _ _ _ _ k hmd1 hk) (cwV 1 hts gL_law_X3_drop rfl rfl rfl (by decide +kernel) ⟨Nat.le_of_ble_eq_true rfl, Nat.le_of_ble_eq_true rfl⟩) (gw_preV hG hT hmd1.2.1 rfl) rfl rfl hl.1 rfl (lv_room (Nat.le_of_ble_eq_true rfl)) dL_law_704 ⟨show 48 + 11 * t + 1 + 0 ≤ 601024 by omega, show 54728 + 662 * t + 6 + 0 ≤ 7293034 by omega⟩) hG (fun r_468 M_469 H locs hw hG => ?_)
    obtain ⟨hv2, hmd2, hf2⟩ := hw
    have heq9 : r0 = r_468 := (hv.trans (hrel.2 k hk).2.2.symm).trans hv2.symm
    obtain ⟨hCS2, hao2⟩ := LJ_mod hCS1 hmd1 hao1 hLR1 hf2
    refine lv_istore (lv' := [(6, .int r_468), (5, .int (nI 0)), (4, .int (nI i)), (3, .ref ao), (2, .ref mo), (1, .ref x), (0, .ref b)]) hx hb dL_law_707 hl (by decide) rfl (fun ls hl => ?_)
    refine lv_aload_n hx hb dL_law_709 rfl (lv_at hl 4 rfl) ?_
    refine gw_calli (va_runV (As := []) (rest := []) ⟨hx, hb, hml, hown, hts⟩ (c_thrown l K M_469 mo ad _ _ _ _ _ _ _ _ hmd2) (cwV 0 hts gL_law_X3_thrown rfl rfl rfl (by decide +kernel) ⟨Nat.le_of_ble_eq_true rfl, Nat.le_of_ble_eq_true rfl⟩) (gw_preV hG hT hmd2.2.1 rfl) rfl rfl hl.1 rfl (lv_room (Nat.le_of_ble_eq_true rfl)) dL_law_710 ⟨show 48 + 11 * t + 1 + 0 ≤ 601024 by omega, show 54728 + 662 * t + 6 + 0 ≤ 7293034 by omega⟩) hG (fun r_470 M_471 H locs hw hG => ?_)
    rw [hw.1] at hG
    refine gw_as hw.2 ?_
    refine lv_iload hx hb dL_law_713 (lv_at hl 1 rfl) ?_
    refine lv_icmp_eq hx hb (tgt := 720) dL_law_715 (by decide) (fun hc => ?_) (fun hc => absurd rfl hc)
    refine lv_iload hx hb dL_law_720 (lv_at hl 1 rfl) ?_
    refine lv_if_ne hx hb (tgt := 737) dL_law_722 (by decide) (fun hc => absurd rfl hc) (fun hc => ?_)
    refine lv_aload_n hx hb dL_law_725 rfl (lv_at hl 3 rfl) ?_
    refine lv_iconst (v := nI 0) hx hb dL_law_726 (by decide) ?_
    refine gw_lald_n hx hb hK hG hao2 1 rfl (by omega) (by omega) dL_law_727 ?_
    refine gw_asl (y := r0.toInt64) (if_pos rfl) ?_
    refine lv_iload hx hb dL_law_728 (lv_at hl 0 rfl) ?_
    refine lv_i2l hx hb dL_law_730 rfl ?_
    refine W.lcmp hx hb dL_law_731 ?_
    refine lv_if_eq hx hb (tgt := 737) dL_law_732 (by decide) (fun hc => ?_) (fun hc => absurd (lcmp_of (congrArg Int32.toInt64 heq9)) hc)
    refine lv_goto (tgt := 1549) hx hb dL_law_737 (by decide) ?_
    refine W.widen (k := 48 + 11 * (t + 1)) (n := 54728 + 662 * (t + 1)) (by omega) (by omega) ?_
    exact kk (sdel S k) M_469 ro1 _ _ ls ⟨hCS2, ⟨_, _, _, _, _, _, hmd2, rel_del hrel hk⟩, ⟨_, hao2⟩, hLR1, (Inv_del hInv hk).mono (Nat.le_succ t)⟩ hG (lv_sub hl [2, 3, 4, 5, 6] rfl)

set_option maxHeartbeats 4000000 in
set_option maxRecDepth 100000 in
theorem law_copy {p : Program} {e : Env} {s : State} {m : MethodId} {below : List Frame} {meth : Method} {c : Code} (l : Launch) (hnt : l.stackTraces = false) {b L : Nat} {xs : Nat → Int32} (K : gw_C) (x mo ao : Nat) (ad : Nat → Nat) (S : gst) (t i : Nat) (M : gw_M) (ro : Nat → Nat) (C0 : LC p s m meth c b L xs K) (hi : i + 6 ≤ L) (ht : t ≤ 511) (hJ : LJ K x mo ao ad S t M ro) {H : Heap} {locs : List Loc} (hG : gw_B K M s.heap H locs) {ls : Array Slot} (hl : lv_has ls 7 [(4, .int (nI i)), (3, .ref ao), (2, .ref mo), (1, .ref x), (0, .ref b)]) (kk : LK p l e s m below meth c b K x mo ao ad t i) : W p l e room_1 s m #[Value.ref b] below meth c H locs (48 + 11 * t) (54728 + 662 * t) (lw_Z below #[Value.ref b] s) (F0 m 740 ls []) := by
  obtain ⟨C1, hT, hA0, hL⟩ := C0
  obtain ⟨hx, hb, hr, hml, hown9, htsA, hX, hbl, hlocks, hgv⟩ := id C1
  have hown : s.vm.findClass RL = some m.cls := hown9
  have hts : ∀ w ∈ wsL_law, w.before #[Value.ref b] s = true := fun w h => htsA w (wsL_law_in w h)
  have hK := hT.K
  have hbA : ¬ gw_A K b := fun q => Nat.not_le.mpr hbl (by rw [← hA0]; exact q)
  obtain ⟨hCS, ⟨cd, tb, vb, sb, fm, tq, hmd, hrel⟩, ⟨o9, hao⟩, hLR, hInv⟩ := hJ
  have hn6 := hmd.1.1
  have hk100 := hmd.1.2
  refine lv_aload_n hx hb dL_law_740 rfl (lv_at hl 3 rfl) ?_
  refine lv_aload_n hx hb dL_law_741 rfl (lv_at hl 4 rfl) ?_
  refine lv_iload hx hb dL_law_742 (lv_at hl 0 rfl) ?_
  refine lv_iconst (v := nI 1) hx hb dL_law_744 (by decide) ?_
  refine gw_iadd hx hb dL_law_745 ?_
  refine va_sld hx hb hX hbl hbA hG.S (gw_in (j := i + 1) (by omega) (by omega)) dL_law_746 ?_
  refine gw_as (y := xs (i + 1)) (congrArg xs (nI_clamp (by omega))) ?_
  refine lv_aload_n hx hb dL_law_747 rfl (lv_at hl 1 rfl) ?_
  refine gw_xcalli (vx_runSX (As := [.ref x, .int (xs (i + 1)), .ref ao]) (rest := []) ⟨hx, hb, hml, hown, hts⟩ (w_copy l hnt K M x ro S (xs (i + 1)) ao o9 hCS hao hLR.2.2) (vx_cwSW 3 hts gL_law_L_copy rfl rfl rfl (by decide +kernel) ⟨Nat.le_of_ble_eq_true rfl, Nat.le_of_ble_eq_true rfl⟩) (gw_preS hG hT) rfl rfl hl.1 rfl (lv_room (Nat.le_of_ble_eq_true rfl)) dL_law_748 ⟨show 48 + 11 * t + 3 ≤ 601024 by omega, show 54728 + 662 * t + 159 ≤ 7293034 by omega⟩) hG (fun E9 ce9 qx9 M9 H9 locs9 hw hG h7 h8 h9 => hw.elim) (fun r_472 M_473 H locs hw hG => ?_)
  rcases hw with ⟨hr9, hM1, hC⟩ | ⟨hr9, r0, M0, hP, ha0, hM1⟩
  · rw [hM1] at hG
    refine gw_as hr9 ?_
    refine lv_istore (lv' := [(5, .int (nI 1)), (4, .int (nI i)), (3, .ref ao), (2, .ref mo), (1, .ref x), (0, .ref b)]) hx hb dL_law_751 hl (by decide) rfl (fun ls hl => ?_)
    refine lv_aload_n hx hb dL_law_753 rfl (lv_at hl 3 rfl) ?_
    refine lv_aload_n hx hb dL_law_754 rfl (lv_at hl 5 rfl) ?_
    refine lv_iload hx hb dL_law_755 (lv_at hl 1 rfl) ?_
    refine lv_iconst (v := nI 1) hx hb dL_law_757 (by decide) ?_
    refine gw_iadd hx hb dL_law_758 ?_
    refine va_sld hx hb hX hbl hbA hG.S (gw_in (j := i + 1) (by omega) (by omega)) dL_law_759 ?_
    refine gw_as (y := xs (i + 1)) (congrArg xs (nI_clamp (by omega))) ?_
    refine gw_calli (va_runV (As := [.int (xs (i + 1))]) (rest := []) ⟨hx, hb, hml, hown, hts⟩ (m_copy_no l K M mo ad _ _ _ _ _ _ _ _ (xs (i + 1)) hmd hC) (cwV 1 hts gL_law_X3_copy rfl rfl rfl (by decide +kernel) ⟨Nat.le_of_ble_eq_true rfl, Nat.le_of_ble_eq_true rfl⟩) (gw_preV hG hT hmd.2.1 rfl) rfl rfl hl.1 rfl (lv_room (Nat.le_of_ble_eq_true rfl)) dL_law_760 ⟨show 48 + 11 * t + 3 + 0 ≤ 601024 by omega, show 54728 + 662 * t + 159 + 0 ≤ 7293034 by omega⟩) hG (fun r_474 M_475 H locs hw hG => ?_)
    obtain ⟨hmd2, hf2⟩ := hw
    obtain ⟨hCS2, hao2⟩ := LJ_mod hCS hmd hao hLR hf2
    refine lv_istore (lv' := [(6, .int r_474), (5, .int (nI 1)), (4, .int (nI i)), (3, .ref ao), (2, .ref mo), (1, .ref x), (0, .ref b)]) hx hb dL_law_763 hl (by decide) rfl (fun ls hl => ?_)
    refine lv_aload_n hx hb dL_law_765 rfl (lv_at hl 4 rfl) ?_
    refine gw_calli (va_runV (As := []) (rest := []) ⟨hx, hb, hml, hown, hts⟩ (c_thrown l K M_475 mo ad _ _ _ _ _ _ _ _ hmd2) (cwV 0 hts gL_law_X3_thrown rfl rfl rfl (by decide +kernel) ⟨Nat.le_of_ble_eq_true rfl, Nat.le_of_ble_eq_true rfl⟩) (gw_preV hG hT hmd2.2.1 rfl) rfl rfl hl.1 rfl (lv_room (Nat.le_of_ble_eq_true rfl)) dL_law_766 ⟨show 48 + 11 * t + 3 + 0 ≤ 601024 by omega, show 54728 + 662 * t + 159 + 0 ≤ 7293034 by omega⟩) hG (fun r_476 M_477 H locs hw hG => ?_)
    rw [hw.1] at hG
    refine gw_as hw.2 ?_
    refine lv_iload hx hb dL_law_769 (lv_at hl 1 rfl) ?_
    refine lv_icmp_eq hx hb (tgt := 776) dL_law_771 (by decide) (fun hc => ?_) (fun hc => absurd rfl hc)
    refine lv_iload hx hb dL_law_776 (lv_at hl 1 rfl) ?_
    refine lv_if_ne hx hb (tgt := 800) dL_law_778 (by decide) (fun hc => ?_) (fun hc => absurd hc (by decide))
    refine lv_goto (tgt := 1549) hx hb dL_law_800 (by decide) ?_
    refine W.widen (k := 48 + 11 * (t + 1)) (n := 54728 + 662 * (t + 1)) (by omega) (by omega) ?_
    exact kk S M_475 ro _ _ ls ⟨hCS2, ⟨_, _, _, _, _, _, hmd2, hrel⟩, ⟨_, hao2⟩, hLR, (hInv).mono (Nat.le_succ t)⟩ hG (lv_sub hl [2, 3, 4, 5, 6] rfl)
  · refine gw_as hr9 ?_
    obtain ⟨k, ⟨hk, e1⟩, h5⟩ := hP
    rcases h5 with ⟨hfull, hv, hM0⟩ | ⟨hlt, hv, ro1, hC9, hof⟩
    · obtain ⟨hCS1, hmd1, hao1, hLR1⟩ := LJ_out (e := .inl (K.2.1 1, 1, .inr (.inl (vp_updL o9 0 (if r0 = 0 then 0 else 1))))) (show CS K M0 ro x S by rw [hM0]; exact hCS) (show ofr 60 1000 M M0 ro ro by rw [hM0]; exact ofr.rf) hmd hao ha0 hLR
      rw [← hM1] at hCS1 hmd1 hao1
      refine lv_istore (lv' := [(5, .int (nI 0)), (4, .int (nI i)), (3, .ref ao), (2, .ref mo), (1, .ref x), (0, .ref b)]) hx hb dL_law_751 hl (by decide) rfl (fun ls hl => ?_)
      refine lv_aload_n hx hb dL_law_753 rfl (lv_at hl 3 rfl) ?_
      refine lv_aload_n hx hb dL_law_754 rfl (lv_at hl 5 rfl) ?_
      refine lv_iload hx hb dL_law_755 (lv_at hl 1 rfl) ?_
      refine lv_iconst (v := nI 1) hx hb dL_law_757 (by decide) ?_
      refine gw_iadd hx hb dL_law_758 ?_
      refine va_sld hx hb hX hbl hbA hG.S (gw_in (j := i + 1) (by omega) (by omega)) dL_law_759 ?_
      refine gw_as (y := xs (i + 1)) (congrArg xs (nI_clamp (by omega))) ?_
      refine gw_as e1 ?_
      refine gw_calli (va_runV (As := [.int (nI k)]) (rest := []) ⟨hx, hb, hml, hown, hts⟩ (m_copy_full l K M_473 mo ad _ _ _ _ _ _ _ _ k hmd1 hk hfull) (cwV 1 hts gL_law_X3_copy rfl rfl rfl (by decide +kernel) ⟨Nat.le_of_ble_eq_true rfl, Nat.le_of_ble_eq_true rfl⟩) (gw_preV hG hT hmd1.2.1 rfl) rfl rfl hl.1 rfl (lv_room (Nat.le_of_ble_eq_true rfl)) dL_law_760 ⟨show 48 + 11 * t + 3 + 0 ≤ 601024 by omega, show 54728 + 662 * t + 159 + 0 ≤ 7293034 by omega⟩) hG (fun r_478 M_479 H locs hw hG => ?_)
      obtain ⟨hv2, hmd2, hf2⟩ := hw
      have heq9 : r0 = r_478 := (hv).trans hv2.symm
      obtain ⟨hCS2, hao2⟩ := LJ_mod hCS1 hmd1 hao1 hLR1 hf2
      refine lv_istore (lv' := [(6, .int r_478), (5, .int (nI 0)), (4, .int (nI i)), (3, .ref ao), (2, .ref mo), (1, .ref x), (0, .ref b)]) hx hb dL_law_763 hl (by decide) rfl (fun ls hl => ?_)
      refine lv_aload_n hx hb dL_law_765 rfl (lv_at hl 4 rfl) ?_
      refine gw_calli (va_runV (As := []) (rest := []) ⟨hx, hb, hml, hown, hts⟩ (c_thrown l K M_479 mo ad _ _ _ _ _ _ _ _ hmd2) (cwV 0 hts gL_law_X3_thrown rfl rfl rfl (by decide +kernel) ⟨Nat.le_of_ble_eq_true rfl, Nat.le_of_ble_eq_true rfl⟩) (gw_preV hG hT hmd2.2.1 rfl) rfl rfl hl.1 rfl (lv_room (Nat.le_of_ble_eq_true rfl)) dL_law_766 ⟨show 48 + 11 * t + 3 + 0 ≤ 601024 by omega, show 54728 + 662 * t + 159 + 0 ≤ 7293034 by omega⟩) hG (fun r_480 M_481 H locs hw hG => ?_)
      rw [hw.1] at hG
      refine gw_as hw.2 ?_
      refine lv_iload hx hb dL_law_769 (lv_at hl 1 rfl) ?_
      refine lv_icmp_eq hx hb (tgt := 776) dL_law_771 (by decide) (fun hc => ?_) (fun hc => absurd rfl hc)
      refine lv_iload hx hb dL_law_776 (lv_at hl 1 rfl) ?_
      refine lv_if_ne hx hb (tgt := 800) dL_law_778 (by decide) (fun hc => absurd rfl hc) (fun hc => ?_)
      refine lv_aload_n hx hb dL_law_781 rfl (lv_at hl 3 rfl) ?_
      refine lv_iconst (v := nI 0) hx hb dL_law_782 (by decide) ?_
      refine gw_lald_n hx hb hK hG hao2 1 rfl (by omega) (by omega) dL_law_783 ?_
      refine gw_asl (y := (if r0 = 0 then 0 else 1)) (if_pos rfl) ?_
      refine lv_iload hx hb dL_law_784 (lv_at hl 0 rfl) ?_
      refine lv_if_eq hx hb (tgt := 793) dL_law_786 (by decide) (fun hz => ?_) (fun hz => ?_)
      · refine lv_lconst (v := 0) hx hb dL_law_793 (by decide) ?_
        refine W.lcmp hx hb dL_law_794 ?_
        refine lv_if_eq hx hb (tgt := 800) dL_law_795 (by decide) (fun hc => ?_) (fun hc => absurd (lcmp_of (if_pos (heq9.trans hz))) hc)
        refine lv_goto (tgt := 1549) hx hb dL_law_800 (by decide) ?_
        refine W.widen (k := 48 + 11 * (t + 1)) (n := 54728 + 662 * (t + 1)) (by omega) (by omega) ?_
        exact kk S M_479 ro _ _ ls ⟨hCS2, ⟨_, _, _, _, _, _, hmd2, hrel⟩, ⟨_, hao2⟩, hLR1, (hInv).mono (Nat.le_succ t)⟩ hG (lv_sub hl [2, 3, 4, 5, 6] rfl)
      · refine lv_lconst (v := 1) hx hb dL_law_789 (by decide) ?_
        refine lv_goto (tgt := 794) hx hb dL_law_790 (by decide) ?_
        refine W.lcmp hx hb dL_law_794 ?_
        refine lv_if_eq hx hb (tgt := 800) dL_law_795 (by decide) (fun hc => ?_) (fun hc => absurd (lcmp_of (if_neg (fun z9 => hz (heq9.symm.trans z9)))) hc)
        refine lv_goto (tgt := 1549) hx hb dL_law_800 (by decide) ?_
        refine W.widen (k := 48 + 11 * (t + 1)) (n := 54728 + 662 * (t + 1)) (by omega) (by omega) ?_
        exact kk S M_479 ro _ _ ls ⟨hCS2, ⟨_, _, _, _, _, _, hmd2, hrel⟩, ⟨_, hao2⟩, hLR1, (hInv).mono (Nat.le_succ t)⟩ hG (lv_sub hl [2, 3, 4, 5, 6] rfl)
    · obtain ⟨hCS1, hmd1, hao1, hLR1⟩ := LJ_out (e := .inl (K.2.1 1, 1, .inr (.inl (vp_updL o9 0 (if r0 = 0 then 0 else 1))))) hC9 hof hmd hao ha0 hLR
      rw [← hM1] at hCS1 hmd1 hao1
      refine lv_istore (lv' := [(5, .int (nI 0)), (4, .int (nI i)), (3, .ref ao), (2, .ref mo), (1, .ref x), (0, .ref b)]) hx hb dL_law_751 hl (by decide) rfl (fun ls hl => ?_)
      refine lv_aload_n hx hb dL_law_753 rfl (lv_at hl 3 rfl) ?_
      refine lv_aload_n hx hb dL_law_754 rfl (lv_at hl 5 rfl) ?_
      refine lv_iload hx hb dL_law_755 (lv_at hl 1 rfl) ?_
      refine lv_iconst (v := nI 1) hx hb dL_law_757 (by decide) ?_
      refine gw_iadd hx hb dL_law_758 ?_
      refine va_sld hx hb hX hbl hbA hG.S (gw_in (j := i + 1) (by omega) (by omega)) dL_law_759 ?_
      refine gw_as (y := xs (i + 1)) (congrArg xs (nI_clamp (by omega))) ?_
      refine gw_as e1 ?_
      refine gw_calli (va_runV (As := [.int (nI k)]) (rest := []) ⟨hx, hb, hml, hown, hts⟩ (m_copy l K M_473 mo ad _ _ _ _ _ _ _ _ k hmd1 hk hlt) (cwV 1 hts gL_law_X3_copy rfl rfl rfl (by decide +kernel) ⟨Nat.le_of_ble_eq_true rfl, Nat.le_of_ble_eq_true rfl⟩) (gw_preV hG hT hmd1.2.1 rfl) rfl rfl hl.1 rfl (lv_room (Nat.le_of_ble_eq_true rfl)) dL_law_760 ⟨show 48 + 11 * t + 3 + 0 ≤ 601024 by omega, show 54728 + 662 * t + 159 + 0 ≤ 7293034 by omega⟩) hG (fun r_482 M_483 H locs hw hG => ?_)
      obtain ⟨hv2, hmd2, hf2⟩ := hw
      have heq9 : r0 = r_482 := (hv).trans hv2.symm
      obtain ⟨hCS2, hao2⟩ := LJ_mod hCS1 hmd1 hao1 hLR1 hf2
      refine lv_istore (lv' := [(6, .int r_482), (5, .int (nI 0)), (4, .int (nI i)), (3, .ref ao), (2, .ref mo), (1, .ref x), (0, .ref b)]) hx hb dL_law_763 hl (by decide) rfl (fun ls hl => ?_)
      refine lv_aload_n hx hb dL_law_765 rfl (lv_at hl 4 rfl) ?_
      refine gw_calli (va_runV (As := []) (rest := []) ⟨hx, hb, hml, hown, hts⟩ (c_thrown l K M_483 mo ad _ _ _ _ _ _ _ _ hmd2) (cwV 0 hts gL_law_X3_thrown rfl rfl rfl (by decide +kernel) ⟨Nat.le_of_ble_eq_true rfl, Nat.le_of_ble_eq_true rfl⟩) (gw_preV hG hT hmd2.2.1 rfl) rfl rfl hl.1 rfl (lv_room (Nat.le_of_ble_eq_true rfl)) dL_law_766 ⟨show 48 + 11 * t + 3 + 0 ≤ 601024 by omega, show 54728 + 662 * t + 159 + 0 ≤ 7293034 by omega⟩) hG (fun r_484 M_485 H locs hw hG => ?_)
      rw [hw.1] at hG
      refine gw_as hw.2 ?_
      refine lv_iload hx hb dL_law_769 (lv_at hl 1 rfl) ?_
      refine lv_icmp_eq hx hb (tgt := 776) dL_law_771 (by decide) (fun hc => ?_) (fun hc => absurd rfl hc)
      refine lv_iload hx hb dL_law_776 (lv_at hl 1 rfl) ?_
      refine lv_if_ne hx hb (tgt := 800) dL_law_778 (by decide) (fun hc => absurd rfl hc) (fun hc => ?_)
      refine lv_aload_n hx hb dL_law_781 rfl (lv_at hl 3 rfl) ?_
      refine lv_iconst (v := nI 0) hx hb dL_law_782 (by decide) ?_
      refine gw_lald_n hx hb hK hG hao2 1 rfl (by omega) (by omega) dL_law_783 ?_
      refine gw_asl (y := (if r0 = 0 then 0 else 1)) (if_pos rfl) ?_
      refine lv_iload hx hb dL_law_784 (lv_at hl 0 rfl) ?_
      refine lv_if_eq hx hb (tgt := 793) dL_law_786 (by decide) (fun hz => ?_) (fun hz => ?_)
      · refine lv_lconst (v := 0) hx hb dL_law_793 (by decide) ?_
        refine W.lcmp hx hb dL_law_794 ?_
        refine lv_if_eq hx hb (tgt := 800) dL_law_795 (by decide) (fun hc => ?_) (fun hc => absurd (lcmp_of (if_pos (heq9.trans hz))) hc)
        refine lv_goto (tgt := 1549) hx hb dL_law_800 (by decide) ?_
        refine W.widen (k := 48 + 11 * (t + 1)) (n := 54728 + 662 * (t + 1)) (by omega) (by omega) ?_
        exact kk (smsg S (S.2.2.2.1 k) (S.2.2.2.2.1 k) (S.2.2.2.2.2 k)) M_483 ro1 _ _ ls ⟨hCS2, ⟨_, _, _, _, _, _, hmd2, by have hz9 := rel_msg (f := S.2.2.2.1 k) (t := S.2.2.2.2.1 k) hrel lc_cp lc_cp lc_cp (veq_cp (hrel.2 k hk).1); rw [← (hrel.2 k hk).2.1, ← (hrel.2 k hk).2.2] at hz9; exact hz9⟩, ⟨_, hao2⟩, hLR1, (Inv_msg hInv (vin_m hk) (veq.rf _)).mono (Nat.le_succ t)⟩ hG (lv_sub hl [2, 3, 4, 5, 6] rfl)
      · refine lv_lconst (v := 1) hx hb dL_law_789 (by decide) ?_
        refine lv_goto (tgt := 794) hx hb dL_law_790 (by decide) ?_
        refine W.lcmp hx hb dL_law_794 ?_
        refine lv_if_eq hx hb (tgt := 800) dL_law_795 (by decide) (fun hc => ?_) (fun hc => absurd (lcmp_of (if_neg (fun z9 => hz (heq9.symm.trans z9)))) hc)
        refine lv_goto (tgt := 1549) hx hb dL_law_800 (by decide) ?_
        refine W.widen (k := 48 + 11 * (t + 1)) (n := 54728 + 662 * (t + 1)) (by omega) (by omega) ?_
        exact kk (smsg S (S.2.2.2.1 k) (S.2.2.2.2.1 k) (S.2.2.2.2.2 k)) M_483 ro1 _ _ ls ⟨hCS2, ⟨_, _, _, _, _, _, hmd2, by have hz9 := rel_msg (f := S.2.2.2.1 k) (t := S.2.2.2.2.1 k) hrel lc_cp lc_cp lc_cp (veq_cp (hrel.2 k hk).1); rw [← (hrel.2 k hk).2.1, ← (hrel.2 k hk).2.2] at hz9; exact hz9⟩, ⟨_, hao2⟩, hLR1, (Inv_msg hInv (vin_m hk) (veq.rf _)).mono (Nat.le_succ t)⟩ hG (lv_sub hl [2, 3, 4, 5, 6] rfl)

set_option maxHeartbeats 4000000 in
set_option maxRecDepth 100000 in
theorem law_turn {p : Program} {e : Env} {s : State} {m : MethodId} {below : List Frame} {meth : Method} {c : Code} (l : Launch) (hnt : l.stackTraces = false) {b L : Nat} {xs : Nat → Int32} (K : gw_C) (x mo ao : Nat) (ad : Nat → Nat) (S : gst) (t i : Nat) (M : gw_M) (ro : Nat → Nat) (C0 : LC p s m meth c b L xs K) (hi : i + 6 ≤ L) (ht : t ≤ 511) (hJ : LJ K x mo ao ad S t M ro) {H : Heap} {locs : List Loc} (hG : gw_B K M s.heap H locs) {ls : Array Slot} (hl : lv_has ls 7 [(4, .int (nI i)), (3, .ref ao), (2, .ref mo), (1, .ref x), (0, .ref b)]) (kk : LK p l e s m below meth c b K x mo ao ad t i) : W p l e room_1 s m #[Value.ref b] below meth c H locs (48 + 11 * t) (54728 + 662 * t) (lw_Z below #[Value.ref b] s) (F0 m 803 ls []) := by
  obtain ⟨C1, hT, hA0, hL⟩ := C0
  obtain ⟨hx, hb, hr, hml, hown9, htsA, hX, hbl, hlocks, hgv⟩ := id C1
  have hown : s.vm.findClass RL = some m.cls := hown9
  have hts : ∀ w ∈ wsL_law, w.before #[Value.ref b] s = true := fun w h => htsA w (wsL_law_in w h)
  have hK := hT.K
  have hbA : ¬ gw_A K b := fun q => Nat.not_le.mpr hbl (by rw [← hA0]; exact q)
  obtain ⟨hCS, ⟨cd, tb, vb, sb, fm, tq, hmd, hrel⟩, ⟨o9, hao⟩, hLR, hInv⟩ := hJ
  have hn6 := hmd.1.1
  have hk100 := hmd.1.2
  refine lv_aload_n hx hb dL_law_803 rfl (lv_at hl 3 rfl) ?_
  refine lv_aload_n hx hb dL_law_804 rfl (lv_at hl 4 rfl) ?_
  refine lv_iload hx hb dL_law_805 (lv_at hl 0 rfl) ?_
  refine lv_iconst (v := nI 1) hx hb dL_law_807 (by decide) ?_
  refine gw_iadd hx hb dL_law_808 ?_
  refine va_sld hx hb hX hbl hbA hG.S (gw_in (j := i + 1) (by omega) (by omega)) dL_law_809 ?_
  refine gw_as (y := xs (i + 1)) (congrArg xs (nI_clamp (by omega))) ?_
  refine lv_aload_n hx hb dL_law_810 rfl (lv_at hl 4 rfl) ?_
  refine lv_iload hx hb dL_law_811 (lv_at hl 0 rfl) ?_
  refine lv_iconst (v := nI 2) hx hb dL_law_813 (by decide) ?_
  refine gw_iadd hx hb dL_law_814 ?_
  refine va_sld hx hb hX hbl hbA hG.S (gw_in (j := i + 2) (by omega) (by omega)) dL_law_815 ?_
  refine gw_as (y := xs (i + 2)) (congrArg xs (nI_clamp (by omega))) ?_
  refine gw_xcalli (vx_runSX (As := [.ref x, .int (xs (i + 1)), .int (xs (i + 2))]) (rest := []) ⟨hx, hb, hml, hown, hts⟩ (w_turn l hnt K M x ro S (xs (i + 1)) (xs (i + 2)) hCS) (vx_cwSW 3 hts gL_law_L_turn rfl rfl rfl (by decide +kernel) ⟨Nat.le_of_ble_eq_true rfl, Nat.le_of_ble_eq_true rfl⟩) (gw_preS hG hT) rfl rfl hl.1 rfl (lv_room (Nat.le_of_ble_eq_true rfl)) dL_law_816 ⟨show 48 + 11 * t + 2 ≤ 601024 by omega, show 54728 + 662 * t + 12 ≤ 7293034 by omega⟩) hG (fun E9 ce9 qx9 M9 H9 locs9 hw hG h7 h8 h9 => hw.elim) (fun r_486 M_487 H locs hw hG => ?_)
  rcases hw with ⟨hr9, hM1, hC⟩ | ⟨hr9, hP⟩
  · rw [hM1] at hG
    refine gw_as hr9 ?_
    refine lv_istore (lv' := [(5, .int (nI 1)), (4, .int (nI i)), (3, .ref ao), (2, .ref mo), (1, .ref x), (0, .ref b)]) hx hb dL_law_819 hl (by decide) rfl (fun ls hl => ?_)
    refine lv_aload_n hx hb dL_law_821 rfl (lv_at hl 3 rfl) ?_
    refine lv_aload_n hx hb dL_law_822 rfl (lv_at hl 5 rfl) ?_
    refine lv_iload hx hb dL_law_823 (lv_at hl 1 rfl) ?_
    refine lv_iconst (v := nI 1) hx hb dL_law_825 (by decide) ?_
    refine gw_iadd hx hb dL_law_826 ?_
    refine va_sld hx hb hX hbl hbA hG.S (gw_in (j := i + 1) (by omega) (by omega)) dL_law_827 ?_
    refine gw_as (y := xs (i + 1)) (congrArg xs (nI_clamp (by omega))) ?_
    refine lv_aload_n hx hb dL_law_828 rfl (lv_at hl 5 rfl) ?_
    refine lv_iload hx hb dL_law_829 (lv_at hl 1 rfl) ?_
    refine lv_iconst (v := nI 2) hx hb dL_law_831 (by decide) ?_
    refine gw_iadd hx hb dL_law_832 ?_
    refine va_sld hx hb hX hbl hbA hG.S (gw_in (j := i + 2) (by omega) (by omega)) dL_law_833 ?_
    refine gw_as (y := xs (i + 2)) (congrArg xs (nI_clamp (by omega))) ?_
    refine gw_callv (va_runV (As := [.int (xs (i + 1)), .int (xs (i + 2))]) (rest := []) ⟨hx, hb, hml, hown, hts⟩ (m_turn_no l K M mo ad _ _ _ _ _ _ _ _ (xs (i + 1)) (xs (i + 2)) hmd hC) (cwV 2 hts gL_law_X3_turn rfl rfl rfl (by decide +kernel) ⟨Nat.le_of_ble_eq_true rfl, Nat.le_of_ble_eq_true rfl⟩) (gw_preV hG hT hmd.2.1 rfl) rfl rfl hl.1 rfl (lv_room (Nat.le_of_ble_eq_true rfl)) dL_law_834 ⟨show 48 + 11 * t + 2 + 0 ≤ 601024 by omega, show 54728 + 662 * t + 12 + 0 ≤ 7293034 by omega⟩) hG (fun M_489 H locs hw hG => ?_)
    obtain ⟨hmd2, hf2⟩ := hw
    obtain ⟨hCS2, hao2⟩ := LJ_mod hCS hmd hao hLR hf2
    refine lv_aload_n hx hb dL_law_837 rfl (lv_at hl 3 rfl) ?_
    refine gw_calli (va_runV (As := []) (rest := []) ⟨hx, hb, hml, hown, hts⟩ (c_thrown l K M_489 mo ad _ _ _ _ _ _ _ _ hmd2) (cwV 0 hts gL_law_X3_thrown rfl rfl rfl (by decide +kernel) ⟨Nat.le_of_ble_eq_true rfl, Nat.le_of_ble_eq_true rfl⟩) (gw_preV hG hT hmd2.2.1 rfl) rfl rfl hl.1 rfl (lv_room (Nat.le_of_ble_eq_true rfl)) dL_law_838 ⟨show 48 + 11 * t + 2 + 0 ≤ 601024 by omega, show 54728 + 662 * t + 12 + 0 ≤ 7293034 by omega⟩) hG (fun r_490 M_491 H locs hw hG => ?_)
    rw [hw.1] at hG
    refine gw_as hw.2 ?_
    refine lv_iload hx hb dL_law_841 (lv_at hl 0 rfl) ?_
    refine lv_icmp_eq hx hb (tgt := 848) dL_law_843 (by decide) (fun hc => ?_) (fun hc => absurd rfl hc)
    refine lv_goto (tgt := 1549) hx hb dL_law_848 (by decide) ?_
    refine W.widen (k := 48 + 11 * (t + 1)) (n := 54728 + 662 * (t + 1)) (by omega) (by omega) ?_
    exact kk S M_489 ro _ _ ls ⟨hCS2, ⟨_, _, _, _, _, _, hmd2, hrel⟩, ⟨_, hao2⟩, hLR, (hInv).mono (Nat.le_succ t)⟩ hG (lv_sub hl [1, 2, 3, 4, 5] rfl)
  · refine gw_as hr9 ?_
    obtain ⟨k, rk, ⟨hk, e1⟩, ⟨hrk, e2⟩, hC9, hof⟩ := hP
    obtain ⟨hmd1, hao1, hLR1⟩ := LJ_void hof hmd hao hLR
    have hCS1 := hC9
    refine lv_istore (lv' := [(5, .int (nI 0)), (4, .int (nI i)), (3, .ref ao), (2, .ref mo), (1, .ref x), (0, .ref b)]) hx hb dL_law_819 hl (by decide) rfl (fun ls hl => ?_)
    refine lv_aload_n hx hb dL_law_821 rfl (lv_at hl 3 rfl) ?_
    refine lv_aload_n hx hb dL_law_822 rfl (lv_at hl 5 rfl) ?_
    refine lv_iload hx hb dL_law_823 (lv_at hl 1 rfl) ?_
    refine lv_iconst (v := nI 1) hx hb dL_law_825 (by decide) ?_
    refine gw_iadd hx hb dL_law_826 ?_
    refine va_sld hx hb hX hbl hbA hG.S (gw_in (j := i + 1) (by omega) (by omega)) dL_law_827 ?_
    refine gw_as (y := xs (i + 1)) (congrArg xs (nI_clamp (by omega))) ?_
    refine gw_as e1 ?_
    refine lv_aload_n hx hb dL_law_828 rfl (lv_at hl 5 rfl) ?_
    refine lv_iload hx hb dL_law_829 (lv_at hl 1 rfl) ?_
    refine lv_iconst (v := nI 2) hx hb dL_law_831 (by decide) ?_
    refine gw_iadd hx hb dL_law_832 ?_
    refine va_sld hx hb hX hbl hbA hG.S (gw_in (j := i + 2) (by omega) (by omega)) dL_law_833 ?_
    refine gw_as (y := xs (i + 2)) (congrArg xs (nI_clamp (by omega))) ?_
    refine gw_as e2 ?_
    refine gw_callv (va_runV (As := [.int (nI k), .int (nI rk)]) (rest := []) ⟨hx, hb, hml, hown, hts⟩ (m_turn l K M_487 mo ad _ _ _ _ _ _ _ _ k rk hmd1 hk hrk) (cwV 2 hts gL_law_X3_turn rfl rfl rfl (by decide +kernel) ⟨Nat.le_of_ble_eq_true rfl, Nat.le_of_ble_eq_true rfl⟩) (gw_preV hG hT hmd1.2.1 rfl) rfl rfl hl.1 rfl (lv_room (Nat.le_of_ble_eq_true rfl)) dL_law_834 ⟨show 48 + 11 * t + 2 + 0 ≤ 601024 by omega, show 54728 + 662 * t + 12 + 0 ≤ 7293034 by omega⟩) hG (fun M_493 H locs hw hG => ?_)
    obtain ⟨hmd2, hf2⟩ := hw
    obtain ⟨hCS2, hao2⟩ := LJ_mod hCS1 hmd1 hao1 hLR1 hf2
    refine lv_aload_n hx hb dL_law_837 rfl (lv_at hl 3 rfl) ?_
    refine gw_calli (va_runV (As := []) (rest := []) ⟨hx, hb, hml, hown, hts⟩ (c_thrown l K M_493 mo ad _ _ _ _ _ _ _ _ hmd2) (cwV 0 hts gL_law_X3_thrown rfl rfl rfl (by decide +kernel) ⟨Nat.le_of_ble_eq_true rfl, Nat.le_of_ble_eq_true rfl⟩) (gw_preV hG hT hmd2.2.1 rfl) rfl rfl hl.1 rfl (lv_room (Nat.le_of_ble_eq_true rfl)) dL_law_838 ⟨show 48 + 11 * t + 2 + 0 ≤ 601024 by omega, show 54728 + 662 * t + 12 + 0 ≤ 7293034 by omega⟩) hG (fun r_494 M_495 H locs hw hG => ?_)
    rw [hw.1] at hG
    refine gw_as hw.2 ?_
    refine lv_iload hx hb dL_law_841 (lv_at hl 0 rfl) ?_
    refine lv_icmp_eq hx hb (tgt := 848) dL_law_843 (by decide) (fun hc => ?_) (fun hc => absurd rfl hc)
    refine lv_goto (tgt := 1549) hx hb dL_law_848 (by decide) ?_
    refine W.widen (k := 48 + 11 * (t + 1)) (n := 54728 + 662 * (t + 1)) (by omega) (by omega) ?_
    exact kk (sto S k rk) M_493 ro _ _ ls ⟨hCS2, ⟨_, _, _, _, _, _, hmd2, rel_to hrel⟩, ⟨_, hao2⟩, hLR1, (Inv_to hInv).mono (Nat.le_succ t)⟩ hG (lv_sub hl [1, 2, 3, 4, 5] rfl)

set_option maxHeartbeats 4000000 in
set_option maxRecDepth 100000 in
theorem law_contains {p : Program} {e : Env} {s : State} {m : MethodId} {below : List Frame} {meth : Method} {c : Code} (l : Launch) (hnt : l.stackTraces = false) {b L : Nat} {xs : Nat → Int32} (K : gw_C) (x mo ao : Nat) (ad : Nat → Nat) (S : gst) (t i : Nat) (M : gw_M) (ro : Nat → Nat) (C0 : LC p s m meth c b L xs K) (hi : i + 6 ≤ L) (ht : t ≤ 511) (hJ : LJ K x mo ao ad S t M ro) {H : Heap} {locs : List Loc} (hG : gw_B K M s.heap H locs) {ls : Array Slot} (hl : lv_has ls 7 [(4, .int (nI i)), (3, .ref ao), (2, .ref mo), (1, .ref x), (0, .ref b)]) (kk : LK p l e s m below meth c b K x mo ao ad t i) : W p l e room_1 s m #[Value.ref b] below meth c H locs (48 + 11 * t) (54728 + 662 * t) (lw_Z below #[Value.ref b] s) (F0 m 851 ls []) := by
  obtain ⟨C1, hT, hA0, hL⟩ := C0
  obtain ⟨hx, hb, hr, hml, hown9, htsA, hX, hbl, hlocks, hgv⟩ := id C1
  have hown : s.vm.findClass RL = some m.cls := hown9
  have hts : ∀ w ∈ wsL_law, w.before #[Value.ref b] s = true := fun w h => htsA w (wsL_law_in w h)
  have hK := hT.K
  have hbA : ¬ gw_A K b := fun q => Nat.not_le.mpr hbl (by rw [← hA0]; exact q)
  obtain ⟨hCS, ⟨cd, tb, vb, sb, fm, tq, hmd, hrel⟩, ⟨o9, hao⟩, hLR, hInv⟩ := hJ
  have hn6 := hmd.1.1
  have hk100 := hmd.1.2
  refine lv_aload_n hx hb dL_law_851 rfl (lv_at hl 3 rfl) ?_
  refine lv_aload_n hx hb dL_law_852 rfl (lv_at hl 4 rfl) ?_
  refine lv_iload hx hb dL_law_853 (lv_at hl 0 rfl) ?_
  refine lv_iconst (v := nI 1) hx hb dL_law_855 (by decide) ?_
  refine gw_iadd hx hb dL_law_856 ?_
  refine va_sld hx hb hX hbl hbA hG.S (gw_in (j := i + 1) (by omega) (by omega)) dL_law_857 ?_
  refine gw_as (y := xs (i + 1)) (congrArg xs (nI_clamp (by omega))) ?_
  refine lv_aload_n hx hb dL_law_858 rfl (lv_at hl 4 rfl) ?_
  refine lv_iload hx hb dL_law_859 (lv_at hl 0 rfl) ?_
  refine lv_iconst (v := nI 2) hx hb dL_law_861 (by decide) ?_
  refine gw_iadd hx hb dL_law_862 ?_
  refine va_sld hx hb hX hbl hbA hG.S (gw_in (j := i + 2) (by omega) (by omega)) dL_law_863 ?_
  refine gw_as (y := xs (i + 2)) (congrArg xs (nI_clamp (by omega))) ?_
  refine lv_aload_n hx hb dL_law_864 rfl (lv_at hl 4 rfl) ?_
  refine lv_iload hx hb dL_law_865 (lv_at hl 0 rfl) ?_
  refine lv_iconst (v := nI 3) hx hb dL_law_867 (by decide) ?_
  refine gw_iadd hx hb dL_law_868 ?_
  refine va_sld hx hb hX hbl hbA hG.S (gw_in (j := i + 3) (by omega) (by omega)) dL_law_869 ?_
  refine gw_as (y := xs (i + 3)) (congrArg xs (nI_clamp (by omega))) ?_
  refine lv_aload_n hx hb dL_law_870 rfl (lv_at hl 1 rfl) ?_
  refine gw_xcalli (vx_runSX (As := [.ref x, .int (xs (i + 1)), .int (xs (i + 2)), .int (xs (i + 3)), .ref ao]) (rest := []) ⟨hx, hb, hml, hown, hts⟩ (w_contains l hnt K M x ro S (xs (i + 1)) (xs (i + 2)) (xs (i + 3)) ao o9 hCS hao hLR.2.2) (vx_cwSW 5 hts gL_law_L_contains rfl rfl rfl (by decide +kernel) ⟨Nat.le_of_ble_eq_true rfl, Nat.le_of_ble_eq_true rfl⟩) (gw_preS hG hT) rfl rfl hl.1 rfl (lv_room (Nat.le_of_ble_eq_true rfl)) dL_law_871 ⟨show 48 + 11 * t + 3 ≤ 601024 by omega, show 54728 + 662 * t + 18 ≤ 7293034 by omega⟩) hG (fun E9 ce9 qx9 M9 H9 locs9 hw hG h7 h8 h9 => hw.elim) (fun r_496 M_497 H locs hw hG => ?_)
  rcases hw with ⟨hr9, hM1, hC⟩ | ⟨hr9, r0, M0, hP, ha0, hM1⟩
  · rw [hM1] at hG
    refine gw_as hr9 ?_
    refine lv_istore (lv' := [(5, .int (nI 1)), (4, .int (nI i)), (3, .ref ao), (2, .ref mo), (1, .ref x), (0, .ref b)]) hx hb dL_law_874 hl (by decide) rfl (fun ls hl => ?_)
    refine lv_aload_n hx hb dL_law_876 rfl (lv_at hl 3 rfl) ?_
    refine lv_aload_n hx hb dL_law_877 rfl (lv_at hl 5 rfl) ?_
    refine lv_iload hx hb dL_law_878 (lv_at hl 1 rfl) ?_
    refine lv_iconst (v := nI 1) hx hb dL_law_880 (by decide) ?_
    refine gw_iadd hx hb dL_law_881 ?_
    refine va_sld hx hb hX hbl hbA hG.S (gw_in (j := i + 1) (by omega) (by omega)) dL_law_882 ?_
    refine gw_as (y := xs (i + 1)) (congrArg xs (nI_clamp (by omega))) ?_
    refine lv_aload_n hx hb dL_law_883 rfl (lv_at hl 5 rfl) ?_
    refine lv_iload hx hb dL_law_884 (lv_at hl 1 rfl) ?_
    refine lv_iconst (v := nI 2) hx hb dL_law_886 (by decide) ?_
    refine gw_iadd hx hb dL_law_887 ?_
    refine va_sld hx hb hX hbl hbA hG.S (gw_in (j := i + 2) (by omega) (by omega)) dL_law_888 ?_
    refine gw_as (y := xs (i + 2)) (congrArg xs (nI_clamp (by omega))) ?_
    refine lv_aload_n hx hb dL_law_889 rfl (lv_at hl 5 rfl) ?_
    refine lv_iload hx hb dL_law_890 (lv_at hl 1 rfl) ?_
    refine lv_iconst (v := nI 3) hx hb dL_law_892 (by decide) ?_
    refine gw_iadd hx hb dL_law_893 ?_
    refine va_sld hx hb hX hbl hbA hG.S (gw_in (j := i + 3) (by omega) (by omega)) dL_law_894 ?_
    refine gw_as (y := xs (i + 3)) (congrArg xs (nI_clamp (by omega))) ?_
    refine gw_calli (va_runV (As := [.int (xs (i + 1)), .int (xs (i + 2)), .int (xs (i + 3))]) (rest := []) ⟨hx, hb, hml, hown, hts⟩ (m_contains_no l K M mo ad _ _ _ _ _ _ _ _ (xs (i + 1)) (xs (i + 2)) (xs (i + 3)) hmd hC) (cwV 3 hts gL_law_X3_contains rfl rfl rfl (by decide +kernel) ⟨Nat.le_of_ble_eq_true rfl, Nat.le_of_ble_eq_true rfl⟩) (gw_preV hG hT hmd.2.1 rfl) rfl rfl hl.1 rfl (lv_room (Nat.le_of_ble_eq_true rfl)) dL_law_895 ⟨show 48 + 11 * t + 3 + 0 ≤ 601024 by omega, show 54728 + 662 * t + 18 + 0 ≤ 7293034 by omega⟩) hG (fun r_498 M_499 H locs hw hG => ?_)
    obtain ⟨hmd2, hf2⟩ := hw
    obtain ⟨hCS2, hao2⟩ := LJ_mod hCS hmd hao hLR hf2
    refine lv_istore (lv' := [(6, .int r_498), (5, .int (nI 1)), (4, .int (nI i)), (3, .ref ao), (2, .ref mo), (1, .ref x), (0, .ref b)]) hx hb dL_law_898 hl (by decide) rfl (fun ls hl => ?_)
    refine lv_aload_n hx hb dL_law_900 rfl (lv_at hl 4 rfl) ?_
    refine gw_calli (va_runV (As := []) (rest := []) ⟨hx, hb, hml, hown, hts⟩ (c_thrown l K M_499 mo ad _ _ _ _ _ _ _ _ hmd2) (cwV 0 hts gL_law_X3_thrown rfl rfl rfl (by decide +kernel) ⟨Nat.le_of_ble_eq_true rfl, Nat.le_of_ble_eq_true rfl⟩) (gw_preV hG hT hmd2.2.1 rfl) rfl rfl hl.1 rfl (lv_room (Nat.le_of_ble_eq_true rfl)) dL_law_901 ⟨show 48 + 11 * t + 3 + 0 ≤ 601024 by omega, show 54728 + 662 * t + 18 + 0 ≤ 7293034 by omega⟩) hG (fun r_500 M_501 H locs hw hG => ?_)
    rw [hw.1] at hG
    refine gw_as hw.2 ?_
    refine lv_iload hx hb dL_law_904 (lv_at hl 1 rfl) ?_
    refine lv_icmp_eq hx hb (tgt := 911) dL_law_906 (by decide) (fun hc => ?_) (fun hc => absurd rfl hc)
    refine lv_iload hx hb dL_law_911 (lv_at hl 1 rfl) ?_
    refine lv_if_ne hx hb (tgt := 935) dL_law_913 (by decide) (fun hc => ?_) (fun hc => absurd hc (by decide))
    refine lv_goto (tgt := 1549) hx hb dL_law_935 (by decide) ?_
    refine W.widen (k := 48 + 11 * (t + 1)) (n := 54728 + 662 * (t + 1)) (by omega) (by omega) ?_
    exact kk S M_499 ro _ _ ls ⟨hCS2, ⟨_, _, _, _, _, _, hmd2, hrel⟩, ⟨_, hao2⟩, hLR, (hInv).mono (Nat.le_succ t)⟩ hG (lv_sub hl [2, 3, 4, 5, 6] rfl)
  · refine gw_as hr9 ?_
    obtain ⟨hM0, rk, ks, ke, ⟨hrk, e1⟩, ⟨hks, e2⟩, ⟨hke, e3⟩, hv⟩ := hP
    have h6 : rk < 6 := by omega
    obtain ⟨hCS1, hmd1, hao1, hLR1⟩ := LJ_out (e := .inl (K.2.1 1, 1, .inr (.inl (vp_updL o9 0 (if r0 = 0 then 0 else 1))))) (show CS K M0 ro x S by rw [hM0]; exact hCS) (show ofr 60 1000 M M0 ro ro by rw [hM0]; exact ofr.rf) hmd hao ha0 hLR
    rw [← hM1] at hCS1 hmd1 hao1
    refine lv_istore (lv' := [(5, .int (nI 0)), (4, .int (nI i)), (3, .ref ao), (2, .ref mo), (1, .ref x), (0, .ref b)]) hx hb dL_law_874 hl (by decide) rfl (fun ls hl => ?_)
    refine lv_aload_n hx hb dL_law_876 rfl (lv_at hl 3 rfl) ?_
    refine lv_aload_n hx hb dL_law_877 rfl (lv_at hl 5 rfl) ?_
    refine lv_iload hx hb dL_law_878 (lv_at hl 1 rfl) ?_
    refine lv_iconst (v := nI 1) hx hb dL_law_880 (by decide) ?_
    refine gw_iadd hx hb dL_law_881 ?_
    refine va_sld hx hb hX hbl hbA hG.S (gw_in (j := i + 1) (by omega) (by omega)) dL_law_882 ?_
    refine gw_as (y := xs (i + 1)) (congrArg xs (nI_clamp (by omega))) ?_
    refine gw_as e1 ?_
    refine lv_aload_n hx hb dL_law_883 rfl (lv_at hl 5 rfl) ?_
    refine lv_iload hx hb dL_law_884 (lv_at hl 1 rfl) ?_
    refine lv_iconst (v := nI 2) hx hb dL_law_886 (by decide) ?_
    refine gw_iadd hx hb dL_law_887 ?_
    refine va_sld hx hb hX hbl hbA hG.S (gw_in (j := i + 2) (by omega) (by omega)) dL_law_888 ?_
    refine gw_as (y := xs (i + 2)) (congrArg xs (nI_clamp (by omega))) ?_
    refine gw_as e2 ?_
    refine lv_aload_n hx hb dL_law_889 rfl (lv_at hl 5 rfl) ?_
    refine lv_iload hx hb dL_law_890 (lv_at hl 1 rfl) ?_
    refine lv_iconst (v := nI 3) hx hb dL_law_892 (by decide) ?_
    refine gw_iadd hx hb dL_law_893 ?_
    refine va_sld hx hb hX hbl hbA hG.S (gw_in (j := i + 3) (by omega) (by omega)) dL_law_894 ?_
    refine gw_as (y := xs (i + 3)) (congrArg xs (nI_clamp (by omega))) ?_
    refine gw_as e3 ?_
    refine gw_calli (va_runV (As := [.int (nI rk), .int (nI ks), .int (nI ke)]) (rest := []) ⟨hx, hb, hml, hown, hts⟩ (m_contains l K M_497 mo ad _ _ _ _ _ _ _ _ rk ks ke hmd1 hrk hks hke) (cwV 3 hts gL_law_X3_contains rfl rfl rfl (by decide +kernel) ⟨Nat.le_of_ble_eq_true rfl, Nat.le_of_ble_eq_true rfl⟩) (gw_preV hG hT hmd1.2.1 rfl) rfl rfl hl.1 rfl (lv_room (Nat.le_of_ble_eq_true rfl)) dL_law_895 ⟨show 48 + 11 * t + 3 + 0 ≤ 601024 by omega, show 54728 + 662 * t + 18 + 0 ≤ 7293034 by omega⟩) hG (fun r_502 M_503 H locs hw hG => ?_)
    obtain ⟨hv2, hmd2, hf2⟩ := hw
    have heq9 : r0 = r_502 := (show r0 = (if mny tb (414 * rk + 6 + 6 * (16 * ks + ke)) 6 = 0 then nI 0 else nI 1) by rw [hv, veq_dcnt (hrel.1 rk h6) (hInv.nng (vin_h h6)) (b := 414 * rk + 6 + 6 * (16 * ks + ke)) (by omega) (by omega)]).trans hv2.symm
    obtain ⟨hCS2, hao2⟩ := LJ_mod hCS1 hmd1 hao1 hLR1 hf2
    refine lv_istore (lv' := [(6, .int r_502), (5, .int (nI 0)), (4, .int (nI i)), (3, .ref ao), (2, .ref mo), (1, .ref x), (0, .ref b)]) hx hb dL_law_898 hl (by decide) rfl (fun ls hl => ?_)
    refine lv_aload_n hx hb dL_law_900 rfl (lv_at hl 4 rfl) ?_
    refine gw_calli (va_runV (As := []) (rest := []) ⟨hx, hb, hml, hown, hts⟩ (c_thrown l K M_503 mo ad _ _ _ _ _ _ _ _ hmd2) (cwV 0 hts gL_law_X3_thrown rfl rfl rfl (by decide +kernel) ⟨Nat.le_of_ble_eq_true rfl, Nat.le_of_ble_eq_true rfl⟩) (gw_preV hG hT hmd2.2.1 rfl) rfl rfl hl.1 rfl (lv_room (Nat.le_of_ble_eq_true rfl)) dL_law_901 ⟨show 48 + 11 * t + 3 + 0 ≤ 601024 by omega, show 54728 + 662 * t + 18 + 0 ≤ 7293034 by omega⟩) hG (fun r_504 M_505 H locs hw hG => ?_)
    rw [hw.1] at hG
    refine gw_as hw.2 ?_
    refine lv_iload hx hb dL_law_904 (lv_at hl 1 rfl) ?_
    refine lv_icmp_eq hx hb (tgt := 911) dL_law_906 (by decide) (fun hc => ?_) (fun hc => absurd rfl hc)
    refine lv_iload hx hb dL_law_911 (lv_at hl 1 rfl) ?_
    refine lv_if_ne hx hb (tgt := 935) dL_law_913 (by decide) (fun hc => absurd rfl hc) (fun hc => ?_)
    refine lv_aload_n hx hb dL_law_916 rfl (lv_at hl 3 rfl) ?_
    refine lv_iconst (v := nI 0) hx hb dL_law_917 (by decide) ?_
    refine gw_lald_n hx hb hK hG hao2 1 rfl (by omega) (by omega) dL_law_918 ?_
    refine gw_asl (y := (if r0 = 0 then 0 else 1)) (if_pos rfl) ?_
    refine lv_iload hx hb dL_law_919 (lv_at hl 0 rfl) ?_
    refine lv_if_eq hx hb (tgt := 928) dL_law_921 (by decide) (fun hz => ?_) (fun hz => ?_)
    · refine lv_lconst (v := 0) hx hb dL_law_928 (by decide) ?_
      refine W.lcmp hx hb dL_law_929 ?_
      refine lv_if_eq hx hb (tgt := 935) dL_law_930 (by decide) (fun hc => ?_) (fun hc => absurd (lcmp_of (if_pos (heq9.trans hz))) hc)
      refine lv_goto (tgt := 1549) hx hb dL_law_935 (by decide) ?_
      refine W.widen (k := 48 + 11 * (t + 1)) (n := 54728 + 662 * (t + 1)) (by omega) (by omega) ?_
      exact kk S M_503 ro _ _ ls ⟨hCS2, ⟨_, _, _, _, _, _, hmd2, hrel⟩, ⟨_, hao2⟩, hLR1, (hInv).mono (Nat.le_succ t)⟩ hG (lv_sub hl [2, 3, 4, 5, 6] rfl)
    · refine lv_lconst (v := 1) hx hb dL_law_924 (by decide) ?_
      refine lv_goto (tgt := 929) hx hb dL_law_925 (by decide) ?_
      refine W.lcmp hx hb dL_law_929 ?_
      refine lv_if_eq hx hb (tgt := 935) dL_law_930 (by decide) (fun hc => ?_) (fun hc => absurd (lcmp_of (if_neg (fun z9 => hz (heq9.symm.trans z9)))) hc)
      refine lv_goto (tgt := 1549) hx hb dL_law_935 (by decide) ?_
      refine W.widen (k := 48 + 11 * (t + 1)) (n := 54728 + 662 * (t + 1)) (by omega) (by omega) ?_
      exact kk S M_503 ro _ _ ls ⟨hCS2, ⟨_, _, _, _, _, _, hmd2, hrel⟩, ⟨_, hao2⟩, hLR1, (hInv).mono (Nat.le_succ t)⟩ hG (lv_sub hl [2, 3, 4, 5, 6] rfl)

set_option maxHeartbeats 4000000 in
set_option maxRecDepth 100000 in
theorem law_size {p : Program} {e : Env} {s : State} {m : MethodId} {below : List Frame} {meth : Method} {c : Code} (l : Launch) (hnt : l.stackTraces = false) {b L : Nat} {xs : Nat → Int32} (K : gw_C) (x mo ao : Nat) (ad : Nat → Nat) (S : gst) (t i : Nat) (M : gw_M) (ro : Nat → Nat) (C0 : LC p s m meth c b L xs K) (hi : i + 6 ≤ L) (ht : t ≤ 511) (hJ : LJ K x mo ao ad S t M ro) {H : Heap} {locs : List Loc} (hG : gw_B K M s.heap H locs) {ls : Array Slot} (hl : lv_has ls 7 [(4, .int (nI i)), (3, .ref ao), (2, .ref mo), (1, .ref x), (0, .ref b)]) (kk : LK p l e s m below meth c b K x mo ao ad t i) : W p l e room_1 s m #[Value.ref b] below meth c H locs (48 + 11 * t) (54728 + 662 * t) (lw_Z below #[Value.ref b] s) (F0 m 938 ls []) := by
  obtain ⟨C1, hT, hA0, hL⟩ := C0
  obtain ⟨hx, hb, hr, hml, hown9, htsA, hX, hbl, hlocks, hgv⟩ := id C1
  have hown : s.vm.findClass RL = some m.cls := hown9
  have hts : ∀ w ∈ wsL_law, w.before #[Value.ref b] s = true := fun w h => htsA w (wsL_law_in w h)
  have hK := hT.K
  have hbA : ¬ gw_A K b := fun q => Nat.not_le.mpr hbl (by rw [← hA0]; exact q)
  obtain ⟨hCS, ⟨cd, tb, vb, sb, fm, tq, hmd, hrel⟩, ⟨o9, hao⟩, hLR, hInv⟩ := hJ
  have hn6 := hmd.1.1
  have hk100 := hmd.1.2
  refine lv_aload_n hx hb dL_law_938 rfl (lv_at hl 3 rfl) ?_
  refine lv_aload_n hx hb dL_law_939 rfl (lv_at hl 4 rfl) ?_
  refine lv_iload hx hb dL_law_940 (lv_at hl 0 rfl) ?_
  refine lv_iconst (v := nI 1) hx hb dL_law_942 (by decide) ?_
  refine gw_iadd hx hb dL_law_943 ?_
  refine va_sld hx hb hX hbl hbA hG.S (gw_in (j := i + 1) (by omega) (by omega)) dL_law_944 ?_
  refine gw_as (y := xs (i + 1)) (congrArg xs (nI_clamp (by omega))) ?_
  refine lv_aload_n hx hb dL_law_945 rfl (lv_at hl 4 rfl) ?_
  refine lv_iload hx hb dL_law_946 (lv_at hl 0 rfl) ?_
  refine lv_iconst (v := nI 2) hx hb dL_law_948 (by decide) ?_
  refine gw_iadd hx hb dL_law_949 ?_
  refine va_sld hx hb hX hbl hbA hG.S (gw_in (j := i + 2) (by omega) (by omega)) dL_law_950 ?_
  refine gw_as (y := xs (i + 2)) (congrArg xs (nI_clamp (by omega))) ?_
  refine lv_aload_n hx hb dL_law_951 rfl (lv_at hl 1 rfl) ?_
  refine gw_xcalli (vx_runSX (As := [.ref x, .int (xs (i + 1)), .int (xs (i + 2)), .ref ao]) (rest := []) ⟨hx, hb, hml, hown, hts⟩ (w_size l hnt K M x ro S (xs (i + 1)) (xs (i + 2)) ao o9 hCS hao hLR.2.2) (vx_cwSW 4 hts gL_law_L_size rfl rfl rfl (by decide +kernel) ⟨Nat.le_of_ble_eq_true rfl, Nat.le_of_ble_eq_true rfl⟩) (gw_preS hG hT) rfl rfl hl.1 rfl (lv_room (Nat.le_of_ble_eq_true rfl)) dL_law_952 ⟨show 48 + 11 * t + 2 ≤ 601024 by omega, show 54728 + 662 * t + 12 ≤ 7293034 by omega⟩) hG (fun E9 ce9 qx9 M9 H9 locs9 hw hG h7 h8 h9 => hw.elim) (fun r_506 M_507 H locs hw hG => ?_)
  rcases hw with ⟨hr9, hM1, hC⟩ | ⟨hr9, r0, M0, hP, ha0, hM1⟩
  · rw [hM1] at hG
    refine gw_as hr9 ?_
    refine lv_istore (lv' := [(5, .int (nI 1)), (4, .int (nI i)), (3, .ref ao), (2, .ref mo), (1, .ref x), (0, .ref b)]) hx hb dL_law_955 hl (by decide) rfl (fun ls hl => ?_)
    refine lv_aload_n hx hb dL_law_957 rfl (lv_at hl 3 rfl) ?_
    refine lv_aload_n hx hb dL_law_958 rfl (lv_at hl 5 rfl) ?_
    refine lv_iload hx hb dL_law_959 (lv_at hl 1 rfl) ?_
    refine lv_iconst (v := nI 1) hx hb dL_law_961 (by decide) ?_
    refine gw_iadd hx hb dL_law_962 ?_
    refine va_sld hx hb hX hbl hbA hG.S (gw_in (j := i + 1) (by omega) (by omega)) dL_law_963 ?_
    refine gw_as (y := xs (i + 1)) (congrArg xs (nI_clamp (by omega))) ?_
    refine lv_aload_n hx hb dL_law_964 rfl (lv_at hl 5 rfl) ?_
    refine lv_iload hx hb dL_law_965 (lv_at hl 1 rfl) ?_
    refine lv_iconst (v := nI 2) hx hb dL_law_967 (by decide) ?_
    refine gw_iadd hx hb dL_law_968 ?_
    refine va_sld hx hb hX hbl hbA hG.S (gw_in (j := i + 2) (by omega) (by omega)) dL_law_969 ?_
    refine gw_as (y := xs (i + 2)) (congrArg xs (nI_clamp (by omega))) ?_
    refine gw_calli (va_runV (As := [.int (xs (i + 1)), .int (xs (i + 2))]) (rest := []) ⟨hx, hb, hml, hown, hts⟩ (m_size_no l K M mo ad _ _ _ _ _ _ _ _ (xs (i + 1)) (xs (i + 2)) hmd hC) (cwV 2 hts gL_law_X3_size rfl rfl rfl (by decide +kernel) ⟨Nat.le_of_ble_eq_true rfl, Nat.le_of_ble_eq_true rfl⟩) (gw_preV hG hT hmd.2.1 rfl) rfl rfl hl.1 rfl (lv_room (Nat.le_of_ble_eq_true rfl)) dL_law_970 ⟨show 48 + 11 * t + 2 + 0 ≤ 601024 by omega, show 54728 + 662 * t + 12 + 0 ≤ 7293034 by omega⟩) hG (fun r_508 M_509 H locs hw hG => ?_)
    obtain ⟨hmd2, hf2⟩ := hw
    obtain ⟨hCS2, hao2⟩ := LJ_mod hCS hmd hao hLR hf2
    refine lv_istore (lv' := [(6, .int r_508), (5, .int (nI 1)), (4, .int (nI i)), (3, .ref ao), (2, .ref mo), (1, .ref x), (0, .ref b)]) hx hb dL_law_973 hl (by decide) rfl (fun ls hl => ?_)
    refine lv_aload_n hx hb dL_law_975 rfl (lv_at hl 4 rfl) ?_
    refine gw_calli (va_runV (As := []) (rest := []) ⟨hx, hb, hml, hown, hts⟩ (c_thrown l K M_509 mo ad _ _ _ _ _ _ _ _ hmd2) (cwV 0 hts gL_law_X3_thrown rfl rfl rfl (by decide +kernel) ⟨Nat.le_of_ble_eq_true rfl, Nat.le_of_ble_eq_true rfl⟩) (gw_preV hG hT hmd2.2.1 rfl) rfl rfl hl.1 rfl (lv_room (Nat.le_of_ble_eq_true rfl)) dL_law_976 ⟨show 48 + 11 * t + 2 + 0 ≤ 601024 by omega, show 54728 + 662 * t + 12 + 0 ≤ 7293034 by omega⟩) hG (fun r_510 M_511 H locs hw hG => ?_)
    rw [hw.1] at hG
    refine gw_as hw.2 ?_
    refine lv_iload hx hb dL_law_979 (lv_at hl 1 rfl) ?_
    refine lv_icmp_eq hx hb (tgt := 986) dL_law_981 (by decide) (fun hc => ?_) (fun hc => absurd rfl hc)
    refine lv_iload hx hb dL_law_986 (lv_at hl 1 rfl) ?_
    refine lv_if_ne hx hb (tgt := 1003) dL_law_988 (by decide) (fun hc => ?_) (fun hc => absurd hc (by decide))
    refine lv_goto (tgt := 1549) hx hb dL_law_1003 (by decide) ?_
    refine W.widen (k := 48 + 11 * (t + 1)) (n := 54728 + 662 * (t + 1)) (by omega) (by omega) ?_
    exact kk S M_509 ro _ _ ls ⟨hCS2, ⟨_, _, _, _, _, _, hmd2, hrel⟩, ⟨_, hao2⟩, hLR, (hInv).mono (Nat.le_succ t)⟩ hG (lv_sub hl [2, 3, 4, 5, 6] rfl)
  · refine gw_as hr9 ?_
    obtain ⟨hM0, rk, ks, ⟨hrk, e1⟩, ⟨hks, e2⟩, hv⟩ := hP
    have h6 : rk < 6 := by omega
    obtain ⟨hCS1, hmd1, hao1, hLR1⟩ := LJ_out (e := .inl (K.2.1 1, 1, .inr (.inl (vp_updL o9 0 r0.toInt64)))) (show CS K M0 ro x S by rw [hM0]; exact hCS) (show ofr 60 1000 M M0 ro ro by rw [hM0]; exact ofr.rf) hmd hao ha0 hLR
    rw [← hM1] at hCS1 hmd1 hao1
    refine lv_istore (lv' := [(5, .int (nI 0)), (4, .int (nI i)), (3, .ref ao), (2, .ref mo), (1, .ref x), (0, .ref b)]) hx hb dL_law_955 hl (by decide) rfl (fun ls hl => ?_)
    refine lv_aload_n hx hb dL_law_957 rfl (lv_at hl 3 rfl) ?_
    refine lv_aload_n hx hb dL_law_958 rfl (lv_at hl 5 rfl) ?_
    refine lv_iload hx hb dL_law_959 (lv_at hl 1 rfl) ?_
    refine lv_iconst (v := nI 1) hx hb dL_law_961 (by decide) ?_
    refine gw_iadd hx hb dL_law_962 ?_
    refine va_sld hx hb hX hbl hbA hG.S (gw_in (j := i + 1) (by omega) (by omega)) dL_law_963 ?_
    refine gw_as (y := xs (i + 1)) (congrArg xs (nI_clamp (by omega))) ?_
    refine gw_as e1 ?_
    refine lv_aload_n hx hb dL_law_964 rfl (lv_at hl 5 rfl) ?_
    refine lv_iload hx hb dL_law_965 (lv_at hl 1 rfl) ?_
    refine lv_iconst (v := nI 2) hx hb dL_law_967 (by decide) ?_
    refine gw_iadd hx hb dL_law_968 ?_
    refine va_sld hx hb hX hbl hbA hG.S (gw_in (j := i + 2) (by omega) (by omega)) dL_law_969 ?_
    refine gw_as (y := xs (i + 2)) (congrArg xs (nI_clamp (by omega))) ?_
    refine gw_as e2 ?_
    refine gw_calli (va_runV (As := [.int (nI rk), .int (nI ks)]) (rest := []) ⟨hx, hb, hml, hown, hts⟩ (m_size l K M_507 mo ad _ _ _ _ _ _ _ _ rk ks hmd1 hrk hks) (cwV 2 hts gL_law_X3_size rfl rfl rfl (by decide +kernel) ⟨Nat.le_of_ble_eq_true rfl, Nat.le_of_ble_eq_true rfl⟩) (gw_preV hG hT hmd1.2.1 rfl) rfl rfl hl.1 rfl (lv_room (Nat.le_of_ble_eq_true rfl)) dL_law_970 ⟨show 48 + 11 * t + 2 + 0 ≤ 601024 by omega, show 54728 + 662 * t + 12 + 0 ≤ 7293034 by omega⟩) hG (fun r_512 M_513 H locs hw hG => ?_)
    obtain ⟨hv2, hmd2, hf2⟩ := hw
    have heq9 : r0 = r_512 := (hv.trans (congrArg nI (veq_scnt (hrel.1 rk h6) (hInv.nng (vin_h h6)) hks 16 (Nat.le_refl 16)))).trans hv2.symm
    obtain ⟨hCS2, hao2⟩ := LJ_mod hCS1 hmd1 hao1 hLR1 hf2
    refine lv_istore (lv' := [(6, .int r_512), (5, .int (nI 0)), (4, .int (nI i)), (3, .ref ao), (2, .ref mo), (1, .ref x), (0, .ref b)]) hx hb dL_law_973 hl (by decide) rfl (fun ls hl => ?_)
    refine lv_aload_n hx hb dL_law_975 rfl (lv_at hl 4 rfl) ?_
    refine gw_calli (va_runV (As := []) (rest := []) ⟨hx, hb, hml, hown, hts⟩ (c_thrown l K M_513 mo ad _ _ _ _ _ _ _ _ hmd2) (cwV 0 hts gL_law_X3_thrown rfl rfl rfl (by decide +kernel) ⟨Nat.le_of_ble_eq_true rfl, Nat.le_of_ble_eq_true rfl⟩) (gw_preV hG hT hmd2.2.1 rfl) rfl rfl hl.1 rfl (lv_room (Nat.le_of_ble_eq_true rfl)) dL_law_976 ⟨show 48 + 11 * t + 2 + 0 ≤ 601024 by omega, show 54728 + 662 * t + 12 + 0 ≤ 7293034 by omega⟩) hG (fun r_514 M_515 H locs hw hG => ?_)
    rw [hw.1] at hG
    refine gw_as hw.2 ?_
    refine lv_iload hx hb dL_law_979 (lv_at hl 1 rfl) ?_
    refine lv_icmp_eq hx hb (tgt := 986) dL_law_981 (by decide) (fun hc => ?_) (fun hc => absurd rfl hc)
    refine lv_iload hx hb dL_law_986 (lv_at hl 1 rfl) ?_
    refine lv_if_ne hx hb (tgt := 1003) dL_law_988 (by decide) (fun hc => absurd rfl hc) (fun hc => ?_)
    refine lv_aload_n hx hb dL_law_991 rfl (lv_at hl 3 rfl) ?_
    refine lv_iconst (v := nI 0) hx hb dL_law_992 (by decide) ?_
    refine gw_lald_n hx hb hK hG hao2 1 rfl (by omega) (by omega) dL_law_993 ?_
    refine gw_asl (y := r0.toInt64) (if_pos rfl) ?_
    refine lv_iload hx hb dL_law_994 (lv_at hl 0 rfl) ?_
    refine lv_i2l hx hb dL_law_996 rfl ?_
    refine W.lcmp hx hb dL_law_997 ?_
    refine lv_if_eq hx hb (tgt := 1003) dL_law_998 (by decide) (fun hc => ?_) (fun hc => absurd (lcmp_of (congrArg Int32.toInt64 heq9)) hc)
    refine lv_goto (tgt := 1549) hx hb dL_law_1003 (by decide) ?_
    refine W.widen (k := 48 + 11 * (t + 1)) (n := 54728 + 662 * (t + 1)) (by omega) (by omega) ?_
    exact kk S M_513 ro _ _ ls ⟨hCS2, ⟨_, _, _, _, _, _, hmd2, hrel⟩, ⟨_, hao2⟩, hLR1, (hInv).mono (Nat.le_succ t)⟩ hG (lv_sub hl [2, 3, 4, 5, 6] rfl)

set_option maxHeartbeats 4000000 in
set_option maxRecDepth 100000 in
theorem law_dot {p : Program} {e : Env} {s : State} {m : MethodId} {below : List Frame} {meth : Method} {c : Code} (l : Launch) (hnt : l.stackTraces = false) {b L : Nat} {xs : Nat → Int32} (K : gw_C) (x mo ao : Nat) (ad : Nat → Nat) (S : gst) (t i : Nat) (M : gw_M) (ro : Nat → Nat) (C0 : LC p s m meth c b L xs K) (hi : i + 6 ≤ L) (ht : t ≤ 511) (hJ : LJ K x mo ao ad S t M ro) {H : Heap} {locs : List Loc} (hG : gw_B K M s.heap H locs) {ls : Array Slot} (hl : lv_has ls 7 [(4, .int (nI i)), (3, .ref ao), (2, .ref mo), (1, .ref x), (0, .ref b)]) (kk : LK p l e s m below meth c b K x mo ao ad t i) : W p l e room_1 s m #[Value.ref b] below meth c H locs (48 + 11 * t) (54728 + 662 * t) (lw_Z below #[Value.ref b] s) (F0 m 1006 ls []) := by
  obtain ⟨C1, hT, hA0, hL⟩ := C0
  obtain ⟨hx, hb, hr, hml, hown9, htsA, hX, hbl, hlocks, hgv⟩ := id C1
  have hown : s.vm.findClass RL = some m.cls := hown9
  have hts : ∀ w ∈ wsL_law, w.before #[Value.ref b] s = true := fun w h => htsA w (wsL_law_in w h)
  have hK := hT.K
  have hbA : ¬ gw_A K b := fun q => Nat.not_le.mpr hbl (by rw [← hA0]; exact q)
  obtain ⟨hCS, ⟨cd, tb, vb, sb, fm, tq, hmd, hrel⟩, ⟨o9, hao⟩, hLR, hInv⟩ := hJ
  have hn6 := hmd.1.1
  have hk100 := hmd.1.2
  refine lv_aload_n hx hb dL_law_1006 rfl (lv_at hl 3 rfl) ?_
  refine lv_aload_n hx hb dL_law_1007 rfl (lv_at hl 4 rfl) ?_
  refine lv_iload hx hb dL_law_1008 (lv_at hl 0 rfl) ?_
  refine lv_iconst (v := nI 1) hx hb dL_law_1010 (by decide) ?_
  refine gw_iadd hx hb dL_law_1011 ?_
  refine va_sld hx hb hX hbl hbA hG.S (gw_in (j := i + 1) (by omega) (by omega)) dL_law_1012 ?_
  refine gw_as (y := xs (i + 1)) (congrArg xs (nI_clamp (by omega))) ?_
  refine lv_aload_n hx hb dL_law_1013 rfl (lv_at hl 4 rfl) ?_
  refine lv_iload hx hb dL_law_1014 (lv_at hl 0 rfl) ?_
  refine lv_iconst (v := nI 2) hx hb dL_law_1016 (by decide) ?_
  refine gw_iadd hx hb dL_law_1017 ?_
  refine va_sld hx hb hX hbl hbA hG.S (gw_in (j := i + 2) (by omega) (by omega)) dL_law_1018 ?_
  refine gw_as (y := xs (i + 2)) (congrArg xs (nI_clamp (by omega))) ?_
  refine lv_aload_n hx hb dL_law_1019 rfl (lv_at hl 4 rfl) ?_
  refine lv_iload hx hb dL_law_1020 (lv_at hl 0 rfl) ?_
  refine lv_iconst (v := nI 3) hx hb dL_law_1022 (by decide) ?_
  refine gw_iadd hx hb dL_law_1023 ?_
  refine va_sld hx hb hX hbl hbA hG.S (gw_in (j := i + 3) (by omega) (by omega)) dL_law_1024 ?_
  refine gw_as (y := xs (i + 3)) (congrArg xs (nI_clamp (by omega))) ?_
  refine lv_aload_n hx hb dL_law_1025 rfl (lv_at hl 4 rfl) ?_
  refine lv_iload hx hb dL_law_1026 (lv_at hl 0 rfl) ?_
  refine lv_iconst (v := nI 4) hx hb dL_law_1028 (by decide) ?_
  refine gw_iadd hx hb dL_law_1029 ?_
  refine va_sld hx hb hX hbl hbA hG.S (gw_in (j := i + 4) (by omega) (by omega)) dL_law_1030 ?_
  refine gw_as (y := xs (i + 4)) (congrArg xs (nI_clamp (by omega))) ?_
  refine lv_aload_n hx hb dL_law_1031 rfl (lv_at hl 4 rfl) ?_
  refine lv_iload hx hb dL_law_1032 (lv_at hl 0 rfl) ?_
  refine lv_iconst (v := nI 5) hx hb dL_law_1034 (by decide) ?_
  refine gw_iadd hx hb dL_law_1035 ?_
  refine va_sld hx hb hX hbl hbA hG.S (gw_in (j := i + 5) (by omega) (by omega)) dL_law_1036 ?_
  refine gw_as (y := xs (i + 5)) (congrArg xs (nI_clamp (by omega))) ?_
  refine lv_aload_n hx hb dL_law_1037 rfl (lv_at hl 1 rfl) ?_
  refine gw_xcalli (vx_runSX (As := [.ref x, .int (xs (i + 1)), .int (xs (i + 2)), .int (xs (i + 3)), .int (xs (i + 4)), .int (xs (i + 5)), .ref ao]) (rest := []) ⟨hx, hb, hml, hown, hts⟩ (w_dot l hnt K M x ro S (xs (i + 1)) (xs (i + 2)) (xs (i + 3)) (xs (i + 4)) (xs (i + 5)) ao o9 hCS hao hLR.2.2) (vx_cwSW 7 hts gL_law_L_dot rfl rfl rfl (by decide +kernel) ⟨Nat.le_of_ble_eq_true rfl, Nat.le_of_ble_eq_true rfl⟩) (gw_preS hG hT) rfl rfl hl.1 rfl (lv_room (Nat.le_of_ble_eq_true rfl)) dL_law_1038 ⟨show 48 + 11 * t + 4 ≤ 601024 by omega, show 54728 + 662 * t + 24 ≤ 7293034 by omega⟩) hG (fun E9 ce9 qx9 M9 H9 locs9 hw hG h7 h8 h9 => hw.elim) (fun r_516 M_517 H locs hw hG => ?_)
  rcases hw with ⟨hr9, hM1, hC⟩ | ⟨hr9, r0, M0, hP, ha0, hM1⟩
  · rw [hM1] at hG
    refine gw_as hr9 ?_
    refine lv_istore (lv' := [(5, .int (nI 1)), (4, .int (nI i)), (3, .ref ao), (2, .ref mo), (1, .ref x), (0, .ref b)]) hx hb dL_law_1041 hl (by decide) rfl (fun ls hl => ?_)
    refine lv_aload_n hx hb dL_law_1043 rfl (lv_at hl 3 rfl) ?_
    refine lv_aload_n hx hb dL_law_1044 rfl (lv_at hl 5 rfl) ?_
    refine lv_iload hx hb dL_law_1045 (lv_at hl 1 rfl) ?_
    refine lv_iconst (v := nI 1) hx hb dL_law_1047 (by decide) ?_
    refine gw_iadd hx hb dL_law_1048 ?_
    refine va_sld hx hb hX hbl hbA hG.S (gw_in (j := i + 1) (by omega) (by omega)) dL_law_1049 ?_
    refine gw_as (y := xs (i + 1)) (congrArg xs (nI_clamp (by omega))) ?_
    refine lv_aload_n hx hb dL_law_1050 rfl (lv_at hl 5 rfl) ?_
    refine lv_iload hx hb dL_law_1051 (lv_at hl 1 rfl) ?_
    refine lv_iconst (v := nI 2) hx hb dL_law_1053 (by decide) ?_
    refine gw_iadd hx hb dL_law_1054 ?_
    refine va_sld hx hb hX hbl hbA hG.S (gw_in (j := i + 2) (by omega) (by omega)) dL_law_1055 ?_
    refine gw_as (y := xs (i + 2)) (congrArg xs (nI_clamp (by omega))) ?_
    refine lv_aload_n hx hb dL_law_1056 rfl (lv_at hl 5 rfl) ?_
    refine lv_iload hx hb dL_law_1057 (lv_at hl 1 rfl) ?_
    refine lv_iconst (v := nI 3) hx hb dL_law_1059 (by decide) ?_
    refine gw_iadd hx hb dL_law_1060 ?_
    refine va_sld hx hb hX hbl hbA hG.S (gw_in (j := i + 3) (by omega) (by omega)) dL_law_1061 ?_
    refine gw_as (y := xs (i + 3)) (congrArg xs (nI_clamp (by omega))) ?_
    refine lv_aload_n hx hb dL_law_1062 rfl (lv_at hl 5 rfl) ?_
    refine lv_iload hx hb dL_law_1063 (lv_at hl 1 rfl) ?_
    refine lv_iconst (v := nI 4) hx hb dL_law_1065 (by decide) ?_
    refine gw_iadd hx hb dL_law_1066 ?_
    refine va_sld hx hb hX hbl hbA hG.S (gw_in (j := i + 4) (by omega) (by omega)) dL_law_1067 ?_
    refine gw_as (y := xs (i + 4)) (congrArg xs (nI_clamp (by omega))) ?_
    refine lv_aload_n hx hb dL_law_1068 rfl (lv_at hl 5 rfl) ?_
    refine lv_iload hx hb dL_law_1069 (lv_at hl 1 rfl) ?_
    refine lv_iconst (v := nI 5) hx hb dL_law_1071 (by decide) ?_
    refine gw_iadd hx hb dL_law_1072 ?_
    refine va_sld hx hb hX hbl hbA hG.S (gw_in (j := i + 5) (by omega) (by omega)) dL_law_1073 ?_
    refine gw_as (y := xs (i + 5)) (congrArg xs (nI_clamp (by omega))) ?_
    refine gw_calli (va_runV (As := [.int (xs (i + 1)), .int (xs (i + 2)), .int (xs (i + 3)), .int (xs (i + 4)), .int (xs (i + 5))]) (rest := []) ⟨hx, hb, hml, hown, hts⟩ (m_dot_no l K M mo ad _ _ _ _ _ _ _ _ (xs (i + 1)) (xs (i + 2)) (xs (i + 3)) (xs (i + 4)) (xs (i + 5)) hmd (fun q => hC ⟨⟨q.1, q.2.1, q.2.2.1⟩, inN2 q.2.2.2⟩)) (cwV 5 hts gL_law_X3_dot rfl rfl rfl (by decide +kernel) ⟨Nat.le_of_ble_eq_true rfl, Nat.le_of_ble_eq_true rfl⟩) (gw_preV hG hT hmd.2.1 rfl) rfl rfl hl.1 rfl (lv_room (Nat.le_of_ble_eq_true rfl)) dL_law_1074 ⟨show 48 + 11 * t + 4 + 0 ≤ 601024 by omega, show 54728 + 662 * t + 24 + 0 ≤ 7293034 by omega⟩) hG (fun r_518 M_519 H locs hw hG => ?_)
    obtain ⟨hmd2, hf2⟩ := hw
    obtain ⟨hCS2, hao2⟩ := LJ_mod hCS hmd hao hLR hf2
    refine lv_istore (lv' := [(6, .int r_518), (5, .int (nI 1)), (4, .int (nI i)), (3, .ref ao), (2, .ref mo), (1, .ref x), (0, .ref b)]) hx hb dL_law_1077 hl (by decide) rfl (fun ls hl => ?_)
    refine lv_aload_n hx hb dL_law_1079 rfl (lv_at hl 4 rfl) ?_
    refine gw_calli (va_runV (As := []) (rest := []) ⟨hx, hb, hml, hown, hts⟩ (c_thrown l K M_519 mo ad _ _ _ _ _ _ _ _ hmd2) (cwV 0 hts gL_law_X3_thrown rfl rfl rfl (by decide +kernel) ⟨Nat.le_of_ble_eq_true rfl, Nat.le_of_ble_eq_true rfl⟩) (gw_preV hG hT hmd2.2.1 rfl) rfl rfl hl.1 rfl (lv_room (Nat.le_of_ble_eq_true rfl)) dL_law_1080 ⟨show 48 + 11 * t + 4 + 0 ≤ 601024 by omega, show 54728 + 662 * t + 24 + 0 ≤ 7293034 by omega⟩) hG (fun r_520 M_521 H locs hw hG => ?_)
    rw [hw.1] at hG
    refine gw_as hw.2 ?_
    refine lv_iload hx hb dL_law_1083 (lv_at hl 1 rfl) ?_
    refine lv_icmp_eq hx hb (tgt := 1090) dL_law_1085 (by decide) (fun hc => ?_) (fun hc => absurd rfl hc)
    refine lv_iload hx hb dL_law_1090 (lv_at hl 1 rfl) ?_
    refine lv_if_ne hx hb (tgt := 1107) dL_law_1092 (by decide) (fun hc => ?_) (fun hc => absurd hc (by decide))
    refine lv_goto (tgt := 1549) hx hb dL_law_1107 (by decide) ?_
    refine W.widen (k := 48 + 11 * (t + 1)) (n := 54728 + 662 * (t + 1)) (by omega) (by omega) ?_
    exact kk S M_519 ro _ _ ls ⟨hCS2, ⟨_, _, _, _, _, _, hmd2, hrel⟩, ⟨_, hao2⟩, hLR, (hInv).mono (Nat.le_succ t)⟩ hG (lv_sub hl [2, 3, 4, 5, 6] rfl)
  · refine gw_as hr9 ?_
    obtain ⟨hM0, rk, ks, ke, ⟨hrk, e1⟩, ⟨hks, e2⟩, ⟨hke, e3⟩, h5, hv⟩ := hP
    rcases h5 with hq | hq
    · have h6 : rk < 6 := by omega
      obtain ⟨hCS1, hmd1, hao1, hLR1⟩ := LJ_out (e := .inl (K.2.1 1, 1, .inr (.inl (vp_updL o9 0 r0.toInt64)))) (show CS K M0 ro x S by rw [hM0]; exact hCS) (show ofr 60 1000 M M0 ro ro by rw [hM0]; exact ofr.rf) hmd hao ha0 hLR
      rw [← hM1] at hCS1 hmd1 hao1
      refine lv_istore (lv' := [(5, .int (nI 0)), (4, .int (nI i)), (3, .ref ao), (2, .ref mo), (1, .ref x), (0, .ref b)]) hx hb dL_law_1041 hl (by decide) rfl (fun ls hl => ?_)
      refine lv_aload_n hx hb dL_law_1043 rfl (lv_at hl 3 rfl) ?_
      refine lv_aload_n hx hb dL_law_1044 rfl (lv_at hl 5 rfl) ?_
      refine lv_iload hx hb dL_law_1045 (lv_at hl 1 rfl) ?_
      refine lv_iconst (v := nI 1) hx hb dL_law_1047 (by decide) ?_
      refine gw_iadd hx hb dL_law_1048 ?_
      refine va_sld hx hb hX hbl hbA hG.S (gw_in (j := i + 1) (by omega) (by omega)) dL_law_1049 ?_
      refine gw_as (y := xs (i + 1)) (congrArg xs (nI_clamp (by omega))) ?_
      refine gw_as e1 ?_
      refine lv_aload_n hx hb dL_law_1050 rfl (lv_at hl 5 rfl) ?_
      refine lv_iload hx hb dL_law_1051 (lv_at hl 1 rfl) ?_
      refine lv_iconst (v := nI 2) hx hb dL_law_1053 (by decide) ?_
      refine gw_iadd hx hb dL_law_1054 ?_
      refine va_sld hx hb hX hbl hbA hG.S (gw_in (j := i + 2) (by omega) (by omega)) dL_law_1055 ?_
      refine gw_as (y := xs (i + 2)) (congrArg xs (nI_clamp (by omega))) ?_
      refine gw_as e2 ?_
      refine lv_aload_n hx hb dL_law_1056 rfl (lv_at hl 5 rfl) ?_
      refine lv_iload hx hb dL_law_1057 (lv_at hl 1 rfl) ?_
      refine lv_iconst (v := nI 3) hx hb dL_law_1059 (by decide) ?_
      refine gw_iadd hx hb dL_law_1060 ?_
      refine va_sld hx hb hX hbl hbA hG.S (gw_in (j := i + 3) (by omega) (by omega)) dL_law_1061 ?_
      refine gw_as (y := xs (i + 3)) (congrArg xs (nI_clamp (by omega))) ?_
      refine gw_as e3 ?_
      refine lv_aload_n hx hb dL_law_1062 rfl (lv_at hl 5 rfl) ?_
      refine lv_iload hx hb dL_law_1063 (lv_at hl 1 rfl) ?_
      refine lv_iconst (v := nI 4) hx hb dL_law_1065 (by decide) ?_
      refine gw_iadd hx hb dL_law_1066 ?_
      refine va_sld hx hb hX hbl hbA hG.S (gw_in (j := i + 4) (by omega) (by omega)) dL_law_1067 ?_
      refine gw_as (y := xs (i + 4)) (congrArg xs (nI_clamp (by omega))) ?_
      refine lv_aload_n hx hb dL_law_1068 rfl (lv_at hl 5 rfl) ?_
      refine lv_iload hx hb dL_law_1069 (lv_at hl 1 rfl) ?_
      refine lv_iconst (v := nI 5) hx hb dL_law_1071 (by decide) ?_
      refine gw_iadd hx hb dL_law_1072 ?_
      refine va_sld hx hb hX hbl hbA hG.S (gw_in (j := i + 5) (by omega) (by omega)) dL_law_1073 ?_
      refine gw_as (y := xs (i + 5)) (congrArg xs (nI_clamp (by omega))) ?_
      refine gw_as hq ?_
      refine gw_calli (va_runV (As := [.int (nI rk), .int (nI ks), .int (nI ke), .int (xs (i + 4)), .int (nI 0)]) (rest := []) ⟨hx, hb, hml, hown, hts⟩ (m_dot0 l K M_517 mo ad _ _ _ _ _ _ _ _ rk ks ke (xs (i + 4)) hmd1 hrk hks hke) (cwV 5 hts gL_law_X3_dot rfl rfl rfl (by decide +kernel) ⟨Nat.le_of_ble_eq_true rfl, Nat.le_of_ble_eq_true rfl⟩) (gw_preV hG hT hmd1.2.1 rfl) rfl rfl hl.1 rfl (lv_room (Nat.le_of_ble_eq_true rfl)) dL_law_1074 ⟨show 48 + 11 * t + 4 + 0 ≤ 601024 by omega, show 54728 + 662 * t + 24 + 0 ≤ 7293034 by omega⟩) hG (fun r_522 M_523 H locs hw hG => ?_)
      obtain ⟨hv2, hmd2, hf2⟩ := hw
      have heq9 : r0 = r_522 := ((hv.trans (if_pos (by rw [hq]))).trans (veq_mko (ii := xs (i + 4)) (hrel.1 rk h6) (hInv.nng (vin_h h6)) (pl := ks * 16 + ke) (b := (414 * rk + 6 + 6 * (16 * ks + ke))) (by omega) (by omega))).trans hv2.symm
      obtain ⟨hCS2, hao2⟩ := LJ_mod hCS1 hmd1 hao1 hLR1 hf2
      refine lv_istore (lv' := [(6, .int r_522), (5, .int (nI 0)), (4, .int (nI i)), (3, .ref ao), (2, .ref mo), (1, .ref x), (0, .ref b)]) hx hb dL_law_1077 hl (by decide) rfl (fun ls hl => ?_)
      refine lv_aload_n hx hb dL_law_1079 rfl (lv_at hl 4 rfl) ?_
      refine gw_calli (va_runV (As := []) (rest := []) ⟨hx, hb, hml, hown, hts⟩ (c_thrown l K M_523 mo ad _ _ _ _ _ _ _ _ hmd2) (cwV 0 hts gL_law_X3_thrown rfl rfl rfl (by decide +kernel) ⟨Nat.le_of_ble_eq_true rfl, Nat.le_of_ble_eq_true rfl⟩) (gw_preV hG hT hmd2.2.1 rfl) rfl rfl hl.1 rfl (lv_room (Nat.le_of_ble_eq_true rfl)) dL_law_1080 ⟨show 48 + 11 * t + 4 + 0 ≤ 601024 by omega, show 54728 + 662 * t + 24 + 0 ≤ 7293034 by omega⟩) hG (fun r_524 M_525 H locs hw hG => ?_)
      rw [hw.1] at hG
      refine gw_as hw.2 ?_
      refine lv_iload hx hb dL_law_1083 (lv_at hl 1 rfl) ?_
      refine lv_icmp_eq hx hb (tgt := 1090) dL_law_1085 (by decide) (fun hc => ?_) (fun hc => absurd rfl hc)
      refine lv_iload hx hb dL_law_1090 (lv_at hl 1 rfl) ?_
      refine lv_if_ne hx hb (tgt := 1107) dL_law_1092 (by decide) (fun hc => absurd rfl hc) (fun hc => ?_)
      refine lv_aload_n hx hb dL_law_1095 rfl (lv_at hl 3 rfl) ?_
      refine lv_iconst (v := nI 0) hx hb dL_law_1096 (by decide) ?_
      refine gw_lald_n hx hb hK hG hao2 1 rfl (by omega) (by omega) dL_law_1097 ?_
      refine gw_asl (y := r0.toInt64) (if_pos rfl) ?_
      refine lv_iload hx hb dL_law_1098 (lv_at hl 0 rfl) ?_
      refine lv_i2l hx hb dL_law_1100 rfl ?_
      refine W.lcmp hx hb dL_law_1101 ?_
      refine lv_if_eq hx hb (tgt := 1107) dL_law_1102 (by decide) (fun hc => ?_) (fun hc => absurd (lcmp_of (congrArg Int32.toInt64 heq9)) hc)
      refine lv_goto (tgt := 1549) hx hb dL_law_1107 (by decide) ?_
      refine W.widen (k := 48 + 11 * (t + 1)) (n := 54728 + 662 * (t + 1)) (by omega) (by omega) ?_
      exact kk S M_523 ro _ _ ls ⟨hCS2, ⟨_, _, _, _, _, _, hmd2, hrel⟩, ⟨_, hao2⟩, hLR1, (hInv).mono (Nat.le_succ t)⟩ hG (lv_sub hl [2, 3, 4, 5, 6] rfl)
    · have h6 : rk < 6 := by omega
      obtain ⟨hCS1, hmd1, hao1, hLR1⟩ := LJ_out (e := .inl (K.2.1 1, 1, .inr (.inl (vp_updL o9 0 r0.toInt64)))) (show CS K M0 ro x S by rw [hM0]; exact hCS) (show ofr 60 1000 M M0 ro ro by rw [hM0]; exact ofr.rf) hmd hao ha0 hLR
      rw [← hM1] at hCS1 hmd1 hao1
      refine lv_istore (lv' := [(5, .int (nI 0)), (4, .int (nI i)), (3, .ref ao), (2, .ref mo), (1, .ref x), (0, .ref b)]) hx hb dL_law_1041 hl (by decide) rfl (fun ls hl => ?_)
      refine lv_aload_n hx hb dL_law_1043 rfl (lv_at hl 3 rfl) ?_
      refine lv_aload_n hx hb dL_law_1044 rfl (lv_at hl 5 rfl) ?_
      refine lv_iload hx hb dL_law_1045 (lv_at hl 1 rfl) ?_
      refine lv_iconst (v := nI 1) hx hb dL_law_1047 (by decide) ?_
      refine gw_iadd hx hb dL_law_1048 ?_
      refine va_sld hx hb hX hbl hbA hG.S (gw_in (j := i + 1) (by omega) (by omega)) dL_law_1049 ?_
      refine gw_as (y := xs (i + 1)) (congrArg xs (nI_clamp (by omega))) ?_
      refine gw_as e1 ?_
      refine lv_aload_n hx hb dL_law_1050 rfl (lv_at hl 5 rfl) ?_
      refine lv_iload hx hb dL_law_1051 (lv_at hl 1 rfl) ?_
      refine lv_iconst (v := nI 2) hx hb dL_law_1053 (by decide) ?_
      refine gw_iadd hx hb dL_law_1054 ?_
      refine va_sld hx hb hX hbl hbA hG.S (gw_in (j := i + 2) (by omega) (by omega)) dL_law_1055 ?_
      refine gw_as (y := xs (i + 2)) (congrArg xs (nI_clamp (by omega))) ?_
      refine gw_as e2 ?_
      refine lv_aload_n hx hb dL_law_1056 rfl (lv_at hl 5 rfl) ?_
      refine lv_iload hx hb dL_law_1057 (lv_at hl 1 rfl) ?_
      refine lv_iconst (v := nI 3) hx hb dL_law_1059 (by decide) ?_
      refine gw_iadd hx hb dL_law_1060 ?_
      refine va_sld hx hb hX hbl hbA hG.S (gw_in (j := i + 3) (by omega) (by omega)) dL_law_1061 ?_
      refine gw_as (y := xs (i + 3)) (congrArg xs (nI_clamp (by omega))) ?_
      refine gw_as e3 ?_
      refine lv_aload_n hx hb dL_law_1062 rfl (lv_at hl 5 rfl) ?_
      refine lv_iload hx hb dL_law_1063 (lv_at hl 1 rfl) ?_
      refine lv_iconst (v := nI 4) hx hb dL_law_1065 (by decide) ?_
      refine gw_iadd hx hb dL_law_1066 ?_
      refine va_sld hx hb hX hbl hbA hG.S (gw_in (j := i + 4) (by omega) (by omega)) dL_law_1067 ?_
      refine gw_as (y := xs (i + 4)) (congrArg xs (nI_clamp (by omega))) ?_
      refine lv_aload_n hx hb dL_law_1068 rfl (lv_at hl 5 rfl) ?_
      refine lv_iload hx hb dL_law_1069 (lv_at hl 1 rfl) ?_
      refine lv_iconst (v := nI 5) hx hb dL_law_1071 (by decide) ?_
      refine gw_iadd hx hb dL_law_1072 ?_
      refine va_sld hx hb hX hbl hbA hG.S (gw_in (j := i + 5) (by omega) (by omega)) dL_law_1073 ?_
      refine gw_as (y := xs (i + 5)) (congrArg xs (nI_clamp (by omega))) ?_
      refine gw_as hq ?_
      refine gw_calli (va_runV (As := [.int (nI rk), .int (nI ks), .int (nI ke), .int (xs (i + 4)), .int (nI 1)]) (rest := []) ⟨hx, hb, hml, hown, hts⟩ (m_dot1 l K M_517 mo ad _ _ _ _ _ _ _ _ rk ks ke (xs (i + 4)) hmd1 hrk hks hke) (cwV 5 hts gL_law_X3_dot rfl rfl rfl (by decide +kernel) ⟨Nat.le_of_ble_eq_true rfl, Nat.le_of_ble_eq_true rfl⟩) (gw_preV hG hT hmd1.2.1 rfl) rfl rfl hl.1 rfl (lv_room (Nat.le_of_ble_eq_true rfl)) dL_law_1074 ⟨show 48 + 11 * t + 4 + 0 ≤ 601024 by omega, show 54728 + 662 * t + 24 + 0 ≤ 7293034 by omega⟩) hG (fun r_526 M_527 H locs hw hG => ?_)
      obtain ⟨hv2, hmd2, hf2⟩ := hw
      have heq9 : r0 = r_526 := (dot_eq (hv.trans (if_neg (by rw [hq]; decide))) (veq_mko (ii := xs (i + 4)) (hrel.1 rk h6) (hInv.nng (vin_h h6)) (pl := ks * 16 + ke) (b := (414 * rk + 6 + 6 * (16 * ks + ke))) (by omega) (by omega)) (fun j hj => (dmv (hrel.1 rk h6) (hInv.nng (vin_h h6)) (pl := ks * 16 + ke) (b := (414 * rk + 6 + 6 * (16 * ks + ke))) (by omega) (by omega) j hj).1)).trans hv2.symm
      obtain ⟨hCS2, hao2⟩ := LJ_mod hCS1 hmd1 hao1 hLR1 hf2
      refine lv_istore (lv' := [(6, .int r_526), (5, .int (nI 0)), (4, .int (nI i)), (3, .ref ao), (2, .ref mo), (1, .ref x), (0, .ref b)]) hx hb dL_law_1077 hl (by decide) rfl (fun ls hl => ?_)
      refine lv_aload_n hx hb dL_law_1079 rfl (lv_at hl 4 rfl) ?_
      refine gw_calli (va_runV (As := []) (rest := []) ⟨hx, hb, hml, hown, hts⟩ (c_thrown l K M_527 mo ad _ _ _ _ _ _ _ _ hmd2) (cwV 0 hts gL_law_X3_thrown rfl rfl rfl (by decide +kernel) ⟨Nat.le_of_ble_eq_true rfl, Nat.le_of_ble_eq_true rfl⟩) (gw_preV hG hT hmd2.2.1 rfl) rfl rfl hl.1 rfl (lv_room (Nat.le_of_ble_eq_true rfl)) dL_law_1080 ⟨show 48 + 11 * t + 4 + 0 ≤ 601024 by omega, show 54728 + 662 * t + 24 + 0 ≤ 7293034 by omega⟩) hG (fun r_528 M_529 H locs hw hG => ?_)
      rw [hw.1] at hG
      refine gw_as hw.2 ?_
      refine lv_iload hx hb dL_law_1083 (lv_at hl 1 rfl) ?_
      refine lv_icmp_eq hx hb (tgt := 1090) dL_law_1085 (by decide) (fun hc => ?_) (fun hc => absurd rfl hc)
      refine lv_iload hx hb dL_law_1090 (lv_at hl 1 rfl) ?_
      refine lv_if_ne hx hb (tgt := 1107) dL_law_1092 (by decide) (fun hc => absurd rfl hc) (fun hc => ?_)
      refine lv_aload_n hx hb dL_law_1095 rfl (lv_at hl 3 rfl) ?_
      refine lv_iconst (v := nI 0) hx hb dL_law_1096 (by decide) ?_
      refine gw_lald_n hx hb hK hG hao2 1 rfl (by omega) (by omega) dL_law_1097 ?_
      refine gw_asl (y := r0.toInt64) (if_pos rfl) ?_
      refine lv_iload hx hb dL_law_1098 (lv_at hl 0 rfl) ?_
      refine lv_i2l hx hb dL_law_1100 rfl ?_
      refine W.lcmp hx hb dL_law_1101 ?_
      refine lv_if_eq hx hb (tgt := 1107) dL_law_1102 (by decide) (fun hc => ?_) (fun hc => absurd (lcmp_of (congrArg Int32.toInt64 heq9)) hc)
      refine lv_goto (tgt := 1549) hx hb dL_law_1107 (by decide) ?_
      refine W.widen (k := 48 + 11 * (t + 1)) (n := 54728 + 662 * (t + 1)) (by omega) (by omega) ?_
      exact kk S M_527 ro _ _ ls ⟨hCS2, ⟨_, _, _, _, _, _, hmd2, hrel⟩, ⟨_, hao2⟩, hLR1, (hInv).mono (Nat.le_succ t)⟩ hG (lv_sub hl [2, 3, 4, 5, 6] rfl)
