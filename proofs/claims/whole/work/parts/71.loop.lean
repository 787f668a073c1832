theorem lw_gt {L i : Nat} (hL : L ≤ 3072) (hi : i ≤ 3072) : nI L - nI 6 < nI i ↔ L < i + 6 := by
  rw [Int32.lt_iff_toInt_lt, nI_toInt (show i < 2 ^ 31 by omega)]
  have e : (nI L - nI 6).toInt = (L : Int) - 6 := by
    by_cases h : 6 ≤ L
    · rw [pk_sub h, nI_toInt (by omega)]
      omega
    · rcases (show L = 0 ∨ L = 1 ∨ L = 2 ∨ L = 3 ∨ L = 4 ∨ L = 5 by omega) with rfl | rfl | rfl | rfl | rfl | rfl <;> decide
  rw [e]
  omega
theorem and31 (v : Int32) : ∃ k, k < 32 ∧ v &&& nI 31 = nI k := by
  refine ⟨(v.toBitVec &&& 31#32).toNat, ?_, ?_⟩
  · rw [BitVec.toNat_and]
    exact Nat.lt_succ_of_le Nat.and_le_right
  · apply Int32.toBitVec.inj
    show v.toBitVec &&& (nI 31).toBitVec = (Int32.ofNat (v.toBitVec &&& 31#32).toNat).toBitVec
    rw [Int32.toBitVec_ofNat']
    rw [show (nI 31).toBitVec = 31#32 from rfl]
    rw [BitVec.ofNat_toNat, BitVec.setWidth_eq]
theorem inc6 (t : Nat) : nI (6 * t) + Int32.ofInt 6 = nI (6 * (t + 1)) := by
  have h : Int32.ofInt 6 = nI 6 := by decide
  rw [h, nI_add]
  rfl
theorem md_grow {K : gw_C} {M M1 : gw_M} {mo : Nat} {ad : Nat → Nat} {cd : Int32} {nn kk : Nat} {tb vb : Nat → Int32} {sb : Nat → Int64} {fm tq : Nat → Int32} (h : md K M mo ad cd nn kk tb vb sb fm tq) (hk : ∀ q e, M q = some e → M1 q = some e) : md K M1 mo ad cd nn kk tb vb sb fm tq := by
  obtain ⟨a0, a1, a2, a3, a4, a5, a6, a7⟩ := h
  exact ⟨a0, hk _ _ a1, hk _ _ a2, hk _ _ a3, hk _ _ a4, hk _ _ a5, hk _ _ a6, a7⟩
set_option maxHeartbeats 4000000 in
set_option maxRecDepth 100000 in
theorem law_loop {p : Program} {e : Env} {s : State} {m : MethodId} {below : List Frame} {meth : Method} {c : Code} (l : Launch) (hnt : l.stackTraces = false) {b L : Nat} {xs : Nat → Int32} (K : gw_C) (x mo ao : Nat) (ad : Nat → Nat) (C0 : LC p s m meth c b L xs K) : ∀ (n t : Nat) (S : gst) (M : gw_M) (ro : Nat → Nat) (H : Heap) (locs : List Loc) (ls : Array Slot), 6 * t ≤ L → L + 1 ≤ 6 * t + n → LJ K x mo ao ad S t M ro → gw_B K M s.heap H locs → lv_has ls 7 [(4, .int (nI (6 * t))), (3, .ref ao), (2, .ref mo), (1, .ref x), (0, .ref b)] → W p l e room_1 s m #[Value.ref b] below meth c H locs (48 + 11 * t) (54728 + 662 * t) (lw_Z below #[Value.ref b] s) (F0 m 23 ls []) := by
  obtain ⟨C1, hT, hA0, hL⟩ := id C0
  obtain ⟨hx, hb, hr, hml, hown9, htsA, hX, hbl, hlocks, hgv⟩ := id C1
  have hown : s.vm.findClass RL = some m.cls := hown9
  have hts : ∀ w ∈ wsL_law, w.before #[Value.ref b] s = true := fun w h => htsA w (wsL_law_in w h)
  have hK := hT.K
  have hbA : ¬ gw_A K b := fun q => Nat.not_le.mpr hbl (by rw [← hA0]; exact q)
  intro n
  induction n with
  | zero =>
    intro t S M ro H locs ls h1 h2
    exact absurd h2 (by omega)
  | succ n ih =>
    intro t S M ro H locs ls h1 h2 hJ hG hl
    refine lv_iload hx hb dL_law_23 (lv_at hl 0 rfl) ?_
    refine lv_aload_n hx hb dL_law_25 rfl (lv_at hl 4 rfl) ?_
    refine va_slen hx hb hX hbl hbA hG.S dL_law_26 ?_
    refine lv_bipush (v := nI 6) hx hb dL_law_27 (by decide) ?_
    refine lv_isub hx hb dL_law_29 ?_
    refine lv_icmp_gt hx hb (tgt := 1555) dL_law_30 (by decide) (fun hc => ?_) (fun hc => ?_)
    · refine lv_iconst (v := 1) hx hb dL_law_1555 (by decide) ?_
      refine va_forget (fun q hq => by rw [← hA0]; exact hG.S.2.2 q hq) ?_
      refine W.widen (k := 601024) (n := 7293034) (by omega) (by omega) ?_
      exact lw_ret hx hb hr hlocks dL_law_1556
    · have hi6 : 6 * t + 6 ≤ L := Nat.le_of_not_lt (fun q => hc ((lw_gt hL (by omega)).mpr q))
      have ht511 : t ≤ 511 := by omega
      have kk : LK p l e s m below meth c b K x mo ao ad t (6 * t) := by
        intro S1 M1 ro1 H1 locs1 ls1 hJ1 hG1 hl1
        refine lv_iinc (v := nI (6 * (t + 1))) (lv' := [(4, .int (nI (6 * (t + 1)))), (3, .ref ao), (2, .ref mo), (1, .ref x), (0, .ref b)]) hx hb dL_law_1549 hl1 (k := 0) rfl (inc6 t) (by decide) rfl (fun ls hl => ?_)
        refine lv_goto (tgt := 23) hx hb dL_law_1552 (by decide) ?_
        exact ih (t + 1) S1 M1 ro1 H1 locs1 ls (by omega) (by omega) hJ1 hG1 hl
      refine lv_aload_n hx hb dL_law_33 rfl (lv_at hl 4 rfl) ?_
      refine lv_iload hx hb dL_law_34 (lv_at hl 0 rfl) ?_
      refine va_sld hx hb hX hbl hbA hG.S (gw_in (j := 6 * t) (by omega) (by omega)) dL_law_36 ?_
      refine lv_bipush (v := nI 31) hx hb dL_law_37 (by decide) ?_
      refine lv_iand hx hb dL_law_39 ?_
      obtain ⟨k, hk, hke⟩ := and31 (xs (nI (6 * t)).toNatClampNeg)
      refine gw_as hke ?_
      by_cases hk20 : k < 20
      · rcases (show k = 0 ∨ k = 1 ∨ k = 2 ∨ k = 3 ∨ k = 4 ∨ k = 5 ∨ k = 6 ∨ k = 7 ∨ k = 8 ∨ k = 9 ∨ k = 10 ∨ k = 11 ∨ k = 12 ∨ k = 13 ∨ k = 14 ∨ k = 15 ∨ k = 16 ∨ k = 17 ∨ k = 18 ∨ k = 19 by omega) with rfl | rfl | rfl | rfl | rfl | rfl | rfl | rfl | rfl | rfl | rfl | rfl | rfl | rfl | rfl | rfl | rfl | rfl | rfl | rfl
        · refine lv_tableIn (off := 96) (tgt := 136) hx hb dL_law_40 (by decide) (by decide) rfl (by decide) ?_
          exact law_open l hnt K x mo ao ad S t (6 * t) M ro C0 (by omega) ht511 hJ hG hl kk
        · refine lv_tableIn (off := 132) (tgt := 172) hx hb dL_law_40 (by decide) (by decide) rfl (by decide) ?_
          exact law_add l hnt K x mo ao ad S t (6 * t) M ro C0 (by omega) ht511 hJ hG hl kk
        · refine lv_tableIn (off := 212) (tgt := 252) hx hb dL_law_40 (by decide) (by decide) rfl (by decide) ?_
          exact law_remove l hnt K x mo ao ad S t (6 * t) M ro C0 (by omega) ht511 hJ hG hl kk
        · refine lv_tableIn (off := 292) (tgt := 332) hx hb dL_law_40 (by decide) (by decide) rfl (by decide) ?_
          exact law_clear l hnt K x mo ao ad S t (6 * t) M ro C0 (by omega) ht511 hJ hG hl kk
        · refine lv_tableIn (off := 360) (tgt := 400) hx hb dL_law_40 (by decide) (by decide) rfl (by decide) ?_
          exact law_write l hnt K x mo ao ad S t (6 * t) M ro C0 (by omega) ht511 hJ hG hl kk
        · refine lv_tableIn (off := 440) (tgt := 480) hx hb dL_law_40 (by decide) (by decide) rfl (by decide) ?_
          exact law_count l hnt K x mo ao ad S t (6 * t) M ro C0 (by omega) ht511 hJ hG hl kk
        · refine lv_tableIn (off := 520) (tgt := 560) hx hb dL_law_40 (by decide) (by decide) rfl (by decide) ?_
          exact law_gossip l hnt K x mo ao ad S t (6 * t) M ro C0 (by omega) ht511 hJ hG hl kk
        · refine lv_tableIn (off := 588) (tgt := 628) hx hb dL_law_40 (by decide) (by decide) rfl (by decide) ?_
          exact law_deliver l hnt K x mo ao ad S t (6 * t) M ro C0 (by omega) ht511 hJ hG hl kk
        · refine lv_tableIn (off := 644) (tgt := 684) hx hb dL_law_40 (by decide) (by decide) rfl (by decide) ?_
          exact law_drop l hnt K x mo ao ad S t (6 * t) M ro C0 (by omega) ht511 hJ hG hl kk
        · refine lv_tableIn (off := 700) (tgt := 740) hx hb dL_law_40 (by decide) (by decide) rfl (by decide) ?_
          exact law_copy l hnt K x mo ao ad S t (6 * t) M ro C0 (by omega) ht511 hJ hG hl kk
        · refine lv_tableIn (off := 763) (tgt := 803) hx hb dL_law_40 (by decide) (by decide) rfl (by decide) ?_
          exact law_turn l hnt K x mo ao ad S t (6 * t) M ro C0 (by omega) ht511 hJ hG hl kk
        · refine lv_tableIn (off := 811) (tgt := 851) hx hb dL_law_40 (by decide) (by decide) rfl (by decide) ?_
          exact law_contains l hnt K x mo ao ad S t (6 * t) M ro C0 (by omega) ht511 hJ hG hl kk
        · refine lv_tableIn (off := 898) (tgt := 938) hx hb dL_law_40 (by decide) (by decide) rfl (by decide) ?_
          exact law_size l hnt K x mo ao ad S t (6 * t) M ro C0 (by omega) ht511 hJ hG hl kk
        · refine lv_tableIn (off := 966) (tgt := 1006) hx hb dL_law_40 (by decide) (by decide) rfl (by decide) ?_
          exact law_dot l hnt K x mo ao ad S t (6 * t) M ro C0 (by omega) ht511 hJ hG hl kk
        · refine lv_tableIn (off := 1070) (tgt := 1110) hx hb dL_law_40 (by decide) (by decide) rfl (by decide) ?_
          exact law_value l hnt K x mo ao ad S t (6 * t) M ro C0 (by omega) ht511 hJ hG hl kk
        · refine lv_tableIn (off := 1162) (tgt := 1202) hx hb dL_law_40 (by decide) (by decide) rfl (by decide) ?_
          exact law_values l hnt K x mo ao ad S t (6 * t) M ro C0 (by omega) ht511 hJ hG hl kk
        · refine lv_tableIn (off := 1230) (tgt := 1270) hx hb dL_law_40 (by decide) (by decide) rfl (by decide) ?_
          exact law_total l hnt K x mo ao ad S t (6 * t) M ro C0 (by omega) ht511 hJ hG hl kk
        · refine lv_tableIn (off := 1298) (tgt := 1338) hx hb dL_law_40 (by decide) (by decide) rfl (by decide) ?_
          exact law_vector l hnt K x mo ao ad S t (6 * t) M ro C0 (by omega) ht511 hJ hG hl kk
        · refine lv_tableIn (off := 1366) (tgt := 1406) hx hb dL_law_40 (by decide) (by decide) rfl (by decide) ?_
          exact law_same l hnt K x mo ao ad S t (6 * t) M ro C0 (by omega) ht511 hJ hG hl kk
        · refine lv_tableIn (off := 1441) (tgt := 1481) hx hb dL_law_40 (by decide) (by decide) rfl (by decide) ?_
          exact law_message l hnt K x mo ao ad S t (6 * t) M ro C0 (by omega) ht511 hJ hG hl kk
      · refine lv_tableOut (tgt := 1549) hx hb dL_law_40 (Or.inr (by rw [nI_toInt (by omega)]; omega)) (by decide) ?_
        refine W.widen (k := 48 + 11 * (t + 1)) (n := 54728 + 662 * (t + 1)) (by omega) (by omega) ?_
        exact kk S M ro H locs ls ⟨hJ.1, hJ.2.1, hJ.2.2.1, hJ.2.2.2.1, hJ.2.2.2.2.mono (Nat.le_succ t)⟩ hG hl
set_option maxHeartbeats 4000000 in
set_option maxRecDepth 100000 in
theorem whole_start {p : Program} {e : Env} {s : State} {m : MethodId} {below : List Frame} {meth : Method} {c : Code} (l : Launch) (hnt : l.stackTraces = false) {b L : Nat} {xs : Nat → Int32} (hL : L ≤ 3072) (C9 : lw_At p s m meth c b L xs) : W p l e room_1 s m #[Value.ref b] below meth c s.heap [] 0 0 (lw_Z below #[Value.ref b] s) (entryFrame m ([Value.ref b] : List Value).toArray 7) := by
  obtain ⟨K, hT0, hA9⟩ := gw_start C9
  have C0 : LC p s m meth c b L xs K := ⟨C9, hT0, hA9, hL⟩
  obtain ⟨C1, hT, hA0, hL⟩ := id C0
  obtain ⟨hx, hb, hr, hml, hown9, htsA, hX, hbl, hlocks, hgv⟩ := id C1
  have hown : s.vm.findClass RL = some m.cls := hown9
  have hts : ∀ w ∈ wsL_law, w.before #[Value.ref b] s = true := fun w h => htsA w (wsL_law_in w h)
  have hK := hT.K
  have hbA : ¬ gw_A K b := fun q => Nat.not_le.mpr hbl (by rw [← hA0]; exact q)
  obtain ⟨M, hM00⟩ : ∃ M : gw_M, M = fun _ => none := ⟨_, rfl⟩
  have hG : gw_B K M s.heap s.heap [] := ⟨[], fun a e => ⟨(fun q => by rw [hM00] at q; cases q), (fun ⟨k, q⟩ => by simp at q)⟩, fun k q h => by simp at h, ⟨fun i j p q h => by simp at h, fun k q h => by simp at h⟩, va_S.rf, by rw [hA0]; exact Nat.le_refl _⟩
  have hl := lv_entry ([.ref b]) (n := 7) (Nat.le_of_ble_eq_true rfl)
  rw [lg_entry_eq]
  generalize (lg_sl ([.ref b]) ++ List.replicate (7 - (lg_sl ([.ref b])).length) Slot.unset).toArray = ls at hl ⊢
  have hl : lv_has ls 7 [(0, .ref b)] := hl
  refine gw_new (ci := 3) (fs := [.null, .null, .int 0]) (C := RX2) (T := TX2) (N := 3) hx hb hts inlX2 tyX2 tyX2_ok hown (hts (.classLink RL 8 RX2) (by decide +kernel)) (hts (.instantiable RX2 3) (by decide +kernel)) (hts (.initialized RX2) (by decide +kernel)) hK hG rfl (fun j hj => by rcases (show j = 0 ∨ j = 1 ∨ j = 2 by omega) with rfl | rfl | rfl <;> rfl) (show 0 + 1 ≤ 601024 by omega) (show 0 + 3 ≤ 7293034 by omega) dL_law_0 (fun x H hn_x hG => ?_)
  obtain ⟨M_378, hM_379⟩ : ∃ M1 : gw_M, M1 = gw_up M x (.inr (3, [.null, .null, .int 0])) := ⟨_, rfl⟩
  have hG : gw_B K M_378 s.heap H [] := by rw [hM_379]; exact hG
  have hc_380 : M_378 x = some (.inr (3, [.null, .null, .int 0])) := (congrFun hM_379 _).trans gw_s
  refine lv_dup hx hb dL_law_3 rfl ?_
  refine gw_callv (va_runI (As := []) (rest := [.ref x]) ⟨hx, hb, hml, hown, hts⟩ (c_init l K M_378 x (fun _ => 0) hc_380) (cwI 0 hts gL_law_X2_init rfl rfl rfl (hts (.initialized RX2) (by decide +kernel)) (hts (.methodLink RL 83 yX2_init) (by decide +kernel)) (hts (.instanceMethod yX2_init) (by decide +kernel)) rfl (by decide +kernel) ⟨Nat.le_of_ble_eq_true rfl, Nat.le_of_ble_eq_true rfl⟩) (gw_preS hG hT) rfl rfl hl.1 rfl (lv_room (Nat.le_of_ble_eq_true rfl)) dL_law_4 ⟨show 0 + 1 + 40 ≤ 601024 by omega, show 0 + 3 + 3000 ≤ 7293034 by omega⟩) hG (fun M_382 H locs hw hG => ?_)
  obtain ⟨ro, hCS, -⟩ := hw
  refine lv_astore_n (lv' := [(1, .ref x), (0, .ref b)]) hx hb dL_law_7 rfl hl (by decide) rfl (fun ls hl => ?_)
  refine gw_new (ci := 4) (fs := [.int 0, .int 0, .int 0, .null, .null, .null, .null, .null]) (C := RX3) (T := TX3) (N := 8) hx hb hts inlX3 tyX3 tyX3_ok hown (hts (.classLink RL 84 RX3) (by decide +kernel)) (hts (.instantiable RX3 8) (by decide +kernel)) (hts (.initialized RX3) (by decide +kernel)) hK hG rfl (fun j hj => by rcases (show j = 0 ∨ j = 1 ∨ j = 2 ∨ j = 3 ∨ j = 4 ∨ j = 5 ∨ j = 6 ∨ j = 7 by omega) with rfl | rfl | rfl | rfl | rfl | rfl | rfl | rfl <;> rfl) (show 0 + 1 + 40 + 1 ≤ 601024 by omega) (show 0 + 3 + 3000 + 8 ≤ 7293034 by omega) dL_law_8 (fun mo H hn_mo hG => ?_)
  obtain ⟨M_383, hM_384⟩ : ∃ M1 : gw_M, M1 = gw_up M_382 mo (.inr (4, [.int 0, .int 0, .int 0, .null, .null, .null, .null, .null])) := ⟨_, rfl⟩
  have hG : gw_B K M_383 s.heap H locs := by rw [hM_384]; exact hG
  have hc_385 : M_383 mo = some (.inr (4, [.int 0, .int 0, .int 0, .null, .null, .null, .null, .null])) := (congrFun hM_384 _).trans gw_s
  refine lv_dup hx hb dL_law_11 rfl ?_
  refine gw_callv (va_runI (As := []) (rest := [.ref mo]) ⟨hx, hb, hml, hown, hts⟩ (c_mdinit l K M_383 mo hc_385) (cwI 0 hts gL_law_X3_init rfl rfl rfl (hts (.initialized RX3) (by decide +kernel)) (hts (.methodLink RL 86 yX3_init) (by decide +kernel)) (hts (.instanceMethod yX3_init) (by decide +kernel)) rfl (by decide +kernel) ⟨Nat.le_of_ble_eq_true rfl, Nat.le_of_ble_eq_true rfl⟩) (gw_preS hG hT) rfl rfl hl.1 rfl (lv_room (Nat.le_of_ble_eq_true rfl)) dL_law_12 ⟨show 0 + 1 + 40 + 1 + 5 ≤ 601024 by omega, show 0 + 3 + 3000 + 8 + 51716 ≤ 7293034 by omega⟩) hG (fun M_387 H locs hw hG => ?_)
  obtain ⟨ad, hmd, hkf, hfr9⟩ := hw
  refine lv_astore_n (lv' := [(2, .ref mo), (1, .ref x), (0, .ref b)]) hx hb dL_law_15 rfl hl (by decide) rfl (fun ls hl => ?_)
  refine lv_iconst (v := nI 1) hx hb dL_law_16 (by decide) ?_
  refine gw_newa (atype := .long) (ty := .long) (a0 := (1, .inr (.inl (fun _ => 0)))) (n := nI 1) (N' := 1) hx hb (hts (.arrayClass .long) (by decide +kernel)) rfl hK hG 1 rfl (fun _ => rfl) (by decide) (by decide) (by decide) (show 0 + 1 + 40 + 1 + 5 + 1 ≤ 601024 by omega) (show 0 + 3 + 3000 + 8 + 51716 + 1 ≤ 7293034 by omega) dL_law_17 (fun ao H hn_ao hG => ?_)
  obtain ⟨M_388, hM_389⟩ : ∃ M1 : gw_M, M1 = gw_up M_387 ao (.inl (K.2.1 1, 1, .inr (.inl (fun _ => 0)))) := ⟨_, rfl⟩
  have hG : gw_B K M_388 s.heap H locs := by rw [hM_389]; exact hG
  have hc_390 : M_388 ao = some (.inl (K.2.1 1, 1, .inr (.inl (fun _ => 0)))) := (congrFun hM_389 _).trans gw_s
  refine lv_astore_n (lv' := [(3, .ref ao), (2, .ref mo), (1, .ref x), (0, .ref b)]) hx hb dL_law_19 rfl hl (by decide) rfl (fun ls hl => ?_)
  refine lv_iconst (v := nI 0) hx hb dL_law_20 (by decide) ?_
  refine lv_istore (lv' := [(4, .int (nI 0)), (3, .ref ao), (2, .ref mo), (1, .ref x), (0, .ref b)]) hx hb dL_law_21 hl (by decide) rfl (fun ls hl => ?_)
  have g1 : ∀ q e, M_382 q = some e → M_387 q = some e := fun q e he => hkf q e (gw_ne hn_mo he) ((congrFun hM_384 q).trans (gw_o hn_mo he))
  have g2 : ∀ q e, M_387 q = some e → M_388 q = some e := fun q e he => (congrFun hM_389 q).trans (gw_o hn_ao he)
  have na : ∀ i, i < 5 → M_382 (ad i) = none := fun i hi => by
    cases hz : M_382 (ad i) with
    | none => rfl
    | some e9 =>
      have h8 := hfr9 i hi
      rw [(congrFun hM_384 (ad i)).trans (gw_o hn_mo hz)] at h8
      cases h8
  have nao : M_382 ao = none := by
    cases hz : M_382 ao with
    | none => rfl
    | some e9 =>
      have h8 := g1 ao e9 hz
      rw [hn_ao] at h8
      cases h8
  obtain ⟨⟨em, hem⟩, hes⟩ := md_some hmd
  have nmo : mo ≠ ao := gw_ne hn_ao hem
  have nda : ∀ i, i < 5 → ad i ≠ ao := fun i hi => (hes i hi).elim (fun e9 h9 => gw_ne hn_ao h9)
  have ndm : ∀ i, i < 5 → ad i ≠ mo := fun i hi z => by
    have h8 := hfr9 i hi
    rw [z, congrFun hM_384 mo, gw_s] at h8
    cases h8
  have hinj := hmd.2.2.2.2.2.2.2
  obtain ⟨ro9, hro9⟩ : ∃ r : Nat → Nat, r = (fun q => if q = mo then 100 else if q = ao then 60 else if q = ad 0 then 101 + 0 else if q = ad 1 then 101 + 1 else if q = ad 2 then 101 + 2 else if q = ad 3 then 101 + 3 else if q = ad 4 then 101 + 4 else ro q) := ⟨_, rfl⟩
  have hro : ∀ q, ro9 q = if q = mo then 100 else if q = ao then 60 else if q = ad 0 then 101 + 0 else if q = ad 1 then 101 + 1 else if q = ad 2 then 101 + 2 else if q = ad 3 then 101 + 3 else if q = ad 4 then 101 + 4 else ro q := fun q => congrFun hro9 q
  have r1 : ro9 mo = 100 := by rw [hro, if_pos rfl]
  have r2 : ro9 ao = 60 := by rw [hro, if_neg (Ne.symm nmo), if_pos rfl]
  have r3 : ∀ i, i < 5 → ro9 (ad i) = 101 + i := by
    intro i hi
    rw [hro, if_neg (ndm i hi), if_neg (nda i hi)]
    rcases (show i = 0 ∨ i = 1 ∨ i = 2 ∨ i = 3 ∨ i = 4 by omega) with rfl | rfl | rfl | rfl | rfl
    · rw [if_pos rfl]
    · rw [if_neg (fun z => absurd (hinj 1 0 (by decide) (by decide) z) (by decide)), if_pos rfl]
    · rw [if_neg (fun z => absurd (hinj 2 0 (by decide) (by decide) z) (by decide)), if_neg (fun z => absurd (hinj 2 1 (by decide) (by decide) z) (by decide)), if_pos rfl]
    · rw [if_neg (fun z => absurd (hinj 3 0 (by decide) (by decide) z) (by decide)), if_neg (fun z => absurd (hinj 3 1 (by decide) (by decide) z) (by decide)), if_neg (fun z => absurd (hinj 3 2 (by decide) (by decide) z) (by decide)), if_pos rfl]
    · rw [if_neg (fun z => absurd (hinj 4 0 (by decide) (by decide) z) (by decide)), if_neg (fun z => absurd (hinj 4 1 (by decide) (by decide) z) (by decide)), if_neg (fun z => absurd (hinj 4 2 (by decide) (by decide) z) (by decide)), if_neg (fun z => absurd (hinj 4 3 (by decide) (by decide) z) (by decide)), if_pos rfl]
  have r4 : ∀ q e, M_382 q = some e → ro9 q = ro q := fun q e he => by
    rw [hro, if_neg (gw_ne hn_mo he), if_neg (gw_ne nao he), if_neg (gw_ne (na 0 (by decide)) he), if_neg (gw_ne (na 1 (by decide)) he), if_neg (gw_ne (na 2 (by decide)) he), if_neg (gw_ne (na 3 (by decide)) he), if_neg (gw_ne (na 4 (by decide)) he)]
  obtain ⟨aH, wl, la, cap, mc9, g, lf, ho, had, my, sn, sad, hcs, hrs⟩ := hCS
  obtain ⟨hcs9, hrs9⟩ := cs_grow (ro1 := ro9) hcs hrs (fun q e he => ⟨g2 q e (g1 q e he), r4 q e he⟩) (gw_ntE hG hT)
  have hJ : LJ K x mo ao ad snew 0 M_388 ro9 := ⟨⟨aH, wl, la, cap, mc9, g, lf, ho, had, my, sn, sad, hcs9, hrs9⟩, ⟨0, _, _, _, _, _, md_grow hmd g2, rel_new⟩, ⟨_, hc_390⟩, ⟨r1, r3, r2⟩, Inv_new⟩
  refine W.widen (k := 48 + 11 * 0) (n := 54728 + 662 * 0) (by omega) (by omega) ?_
  exact law_loop l hnt K x mo ao ad C0 (L + 1) 0 snew M_388 ro9 _ _ ls (by omega) (by omega) hJ hG (lv_sub hl [0, 1, 2, 3, 4] rfl)
