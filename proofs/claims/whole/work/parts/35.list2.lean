def alrem (K : gw_C) (M M1 : gw_M) (w a cap sz k : Nat) (mc : Int32) (f : Nat → Option Nat) : Prop :=
  ∃ f1 : Nat → Option Nat, al K M1 w a cap (sz - 1) mc f1 ∧ (∀ j, j < k → f1 j = f j) ∧ (∀ j, k ≤ j → j < sz - 1 → f1 j = f (j + 1)) ∧ ∀ q e, q ≠ w → q ≠ a → M q = some e → M1 q = some e
set_option maxHeartbeats 4000000 in
set_option maxRecDepth 100000 in
/-- fastRemove(es, i) -/
theorem c_frem (l : Launch) (K : gw_C) (M : gw_M) (w a cap sz : Nat) (mc : Int32) (f : Nat → Option Nat) (k : Nat) (hal : al K M w a cap sz mc f) (hel : ael M sz f) (hk : k < sz) : Met l yJx4a65c_fastRemove_b59b0 wsJx4a65c_fastRemove_b59b0 ({ frames := 1, cells := 0, slots := 0, locals := 26 } : Room) (va_Pc [.ref w, .ref a, .int (nI k)] (gw_I K M)) (va_Qv (fun M1 => alrem K M M1 w a cap sz k (mc + nI 1) f) (gw_I K) (gw_A K)) 0 0 (gw_A K) := by
  refine Met.ofW (cc := cJx4a65c_fastRemove_b59b0) (maxL := 4) (ret := none) (by decide) rfl ?_
  intro p e s m args below meth c s₁ B hml hv
  obtain ⟨hav, hI⟩ := hv
  have hx := B.exec
  have hb := B.bytes
  have hr := B.returns
  have hts := atoms_spec (ws := wsJx4a65c_fastRemove_b59b0) B.pre
  have hown : s.vm.findClass RJx4a65c = some m.cls := findClass_of_methodNamed B.named
  have hlocks : meth.locks = false := B.notSynchronized
  have hT := hI.2.2
  have hK := hT.K
  have hG := hI.B
  have hf48 := hts (.fieldLink RJx4a65c 48 "java/util/ArrayList" "size" "I") (by decide +kernel)
  have hf63 := hts (.fieldLink RJx4a65c 63 "java/util/ArrayList" "modCount" "I") (by decide +kernel)
  have hinJx4a65c : ∀ w ∈ wsJx4a65c0, w ∈ wsJx4a65c_fastRemove_b59b0 := by decide +kernel
  have hE : entryFrame m args 4 = entryFrame m ([.ref w, .ref a, .int (nI k)] : List Value).toArray 4 := by rw [hav]
  rw [hE]
  have hl := lv_entry ([.ref w, .ref a, .int (nI k)]) (n := 4) (Nat.le_of_ble_eq_true rfl)
  rw [lg_entry_eq]
  generalize (lg_sl ([.ref w, .ref a, .int (nI k)]) ++ List.replicate (4 - (lg_sl ([.ref w, .ref a, .int (nI k)])).length) Slot.unset).toArray = ls at hl ⊢
  have hl : lv_has ls 4 [(0, .ref w), (1, .ref a), (2, .int (nI k))] := hl
  have hsf63 := hts (.sameField "java/util/ArrayList" "java/util/AbstractList" "modCount" "I") (by decide +kernel)
  obtain ⟨hw0, hs, hd9 | ⟨ha, h1, h2, h3⟩⟩ := id hal
  · exact absurd hk (by omega)
  have hwa : w ≠ a := gw_io hw0 ha
  refine lv_aload_n hx hb dJx4a65c_fastRemove_b59b0_0 rfl (lv_at hl 0 rfl) ?_
  refine lv_dup hx hb dJx4a65c_fastRemove_b59b0_1 rfl ?_
  refine gw_get (ci := 0) (C := RJx4a65c) (T := TJx4a65c) (N := 3) hx hb hts hinJx4a65c hown hK hG hw0 rfl 0 (by decide) hf63 (fun x9 h9 => u_same hsf63 x9 h9) rfl dJx4a65c_fastRemove_b59b0_2 ?_
  refine lv_iconst (v := nI 1) hx hb dJx4a65c_fastRemove_b59b0_5 (by decide) ?_
  refine lv_iadd hx hb dJx4a65c_fastRemove_b59b0_6 ?_
  refine gw_put (ci := 0) (v := .int (mc + (nI 1))) (ty := .int) (C := RJx4a65c) (T := TJx4a65c) (N := 3) hx hb hts hinJx4a65c tyJx4a65c tyJx4a65c_ok nmJx4a65c hown hK hG hw0 rfl 0 (by decide) hf63 (fun x9 h9 => u_same hsf63 x9 h9) rfl (by decide +kernel) rfl rfl (Nat.le_of_ble_eq_true rfl) dJx4a65c_fastRemove_b59b0_7 (fun H locs hG => ?_)
  obtain ⟨M_91, hM_92⟩ : ∃ M1 : gw_M, M1 = gw_up M w (.inr (0, [.int (mc + (nI 1)), .ref a, .int (nI sz)])) := ⟨_, rfl⟩
  have hG : gw_B K M_91 s.heap H locs := by rw [hM_92]; exact hG
  have hc_93 : M_91 w = some (.inr (0, [.int (mc + (nI 1)), .ref a, .int (nI sz)])) := (congrFun hM_92 _).trans gw_s
  have hc_94 := (congrFun hM_92 a).trans (gw_k (Ne.symm hwa) ha)
  refine lv_aload_n hx hb dJx4a65c_fastRemove_b59b0_10 rfl (lv_at hl 0 rfl) ?_
  refine gw_get (ci := 0) (C := RJx4a65c) (T := TJx4a65c) (N := 3) hx hb hts hinJx4a65c hown hK hG hc_93 rfl 2 (by decide) hf48 (fun _ h9 => h9) rfl dJx4a65c_fastRemove_b59b0_11 ?_
  refine lv_iconst (v := nI 1) hx hb dJx4a65c_fastRemove_b59b0_14 (by decide) ?_
  refine gw_isub hx hb (by omega) dJx4a65c_fastRemove_b59b0_15 ?_
  refine lv_dup hx hb dJx4a65c_fastRemove_b59b0_16 rfl ?_
  refine lv_istore_n (lv' := [(3, .int (nI (sz - 1))), (0, .ref w), (1, .ref a), (2, .int (nI k))]) hx hb dJx4a65c_fastRemove_b59b0_17 rfl hl (by decide) rfl (fun ls hl => ?_)
  refine lv_iload_n hx hb dJx4a65c_fastRemove_b59b0_18 rfl (lv_at hl 3 rfl) ?_
  refine gw_icmp_le hx hb (by omega) (by omega) (tgt := 34) dJx4a65c_fastRemove_b59b0_19 (by decide) (fun hc => ?_) (fun hc => ?_)
  · refine lv_aload_n hx hb dJx4a65c_fastRemove_b59b0_34 rfl (lv_at hl 2 rfl) ?_
    refine lv_aload_n hx hb dJx4a65c_fastRemove_b59b0_35 rfl (lv_at hl 1 rfl) ?_
    refine lv_iload_n hx hb dJx4a65c_fastRemove_b59b0_36 rfl (lv_at hl 0 rfl) ?_
    refine lv_dup_x1 hx hb dJx4a65c_fastRemove_b59b0_37 rfl rfl ?_
    refine gw_put (ci := 0) (v := .int (nI (sz - 1))) (ty := .int) (C := RJx4a65c) (T := TJx4a65c) (N := 3) hx hb hts hinJx4a65c tyJx4a65c tyJx4a65c_ok nmJx4a65c hown hK hG hc_93 rfl 2 (by decide) hf48 (fun _ h9 => h9) rfl (by decide +kernel) rfl rfl (Nat.le_of_ble_eq_true rfl) dJx4a65c_fastRemove_b59b0_38 (fun H locs hG => ?_)
    obtain ⟨M_95, hM_96⟩ : ∃ M1 : gw_M, M1 = gw_up M_91 w (.inr (0, [.int (mc + (nI 1)), .ref a, .int (nI (sz - 1))])) := ⟨_, rfl⟩
    have hG : gw_B K M_95 s.heap H locs := by rw [hM_96]; exact hG
    have hc_97 : M_95 w = some (.inr (0, [.int (mc + (nI 1)), .ref a, .int (nI (sz - 1))])) := (congrFun hM_96 _).trans gw_s
    have hc_98 := (congrFun hM_96 a).trans (gw_k (Ne.symm hwa) hc_94)
    refine lv_null hx hb dJx4a65c_fastRemove_b59b0_41 ?_
    refine gw_astn_n hx hb hK hG hc_98 3 rfl (by omega) (by omega) dJx4a65c_fastRemove_b59b0_42 (fun H locs hG => ?_)
    obtain ⟨M_99, hM_100⟩ : ∃ M1 : gw_M, M1 = gw_up M_95 a (.inl (K.2.1 3, cap, .inr (.inr (.inr (.inr (va_up f (sz - 1) none)))))) := ⟨_, rfl⟩
    have hG : gw_B K M_99 s.heap H locs := by rw [hM_100]; exact hG
    have hc_101 := (congrFun hM_100 w).trans (gw_k hwa hc_97)
    have hc_102 : M_99 a = some (.inl (K.2.1 3, cap, .inr (.inr (.inr (.inr (va_up f (sz - 1) none)))))) := (congrFun hM_100 _).trans gw_s
    exact gw_vret hx hb hr hlocks hG hT (by omega) (by omega) dJx4a65c_fastRemove_b59b0_43 ⟨_, ⟨hc_101, by omega, Or.inr ⟨hc_102, by omega, h2, h3⟩⟩, fun j hj => va_up_ne _ _ (by omega), fun j h8 h9 => absurd h9 (by omega), fun q9 e9 g1 g2 g3 => (congrFun hM_100 q9).trans (gw_k g2 ((congrFun hM_96 q9).trans (gw_k g1 ((congrFun hM_92 q9).trans (gw_k g1 g3)))))⟩
  · refine lv_aload_n hx hb dJx4a65c_fastRemove_b59b0_22 rfl (lv_at hl 2 rfl) ?_
    refine lv_iload_n hx hb dJx4a65c_fastRemove_b59b0_23 rfl (lv_at hl 3 rfl) ?_
    refine lv_iconst (v := nI 1) hx hb dJx4a65c_fastRemove_b59b0_24 (by decide) ?_
    refine gw_iadd hx hb dJx4a65c_fastRemove_b59b0_25 ?_
    refine lv_aload_n hx hb dJx4a65c_fastRemove_b59b0_26 rfl (lv_at hl 2 rfl) ?_
    refine lv_iload_n hx hb dJx4a65c_fastRemove_b59b0_27 rfl (lv_at hl 3 rfl) ?_
    refine lv_iload_n hx hb dJx4a65c_fastRemove_b59b0_28 rfl (lv_at hl 0 rfl) ?_
    refine lv_iload_n hx hb dJx4a65c_fastRemove_b59b0_29 rfl (lv_at hl 3 rfl) ?_
    refine gw_isub hx hb (by omega) dJx4a65c_fastRemove_b59b0_30 ?_
    have hel9 : ∀ i : Nat, i < sz - 1 - k → ∀ y : Nat, f (k + 1 + i) = some y → va_Any "java/lang/Object" s H y := by
      intro i hi y hy
      obtain ⟨y9, vs, e1, e2⟩ := hel (k + 1 + i) (by omega)
      rw [e1] at hy
      rw [← Option.some.inj hy]
      exact gw_any (ci := 2) hK hG ((congrFun hM_92 y9).trans (gw_k (fun z => by rw [z, hw0] at e2; cases e2) e2)) rfl hT.2.2.2.2.1.2
    refine gw_copyq (sp := k + 1) (dp := k) (nn := sz - 1 - k) hx hb (hml.trans hl.1.symm) hown (hts (.methodLink RJx4a65c 112 arraycopyName) (by decide +kernel)) (hts (.native arraycopyName) (by decide +kernel)) (hts (.static arraycopyName) (by decide +kernel)) (hts (.initialized "java/lang/System") (by decide +kernel)) hK hG hc_94 hc_94 3 rfl (by omega) (by omega) (by omega) (by omega) hel9 (Nat.le_of_ble_eq_true rfl) (Nat.le_of_ble_eq_true rfl) dJx4a65c_fastRemove_b59b0_31 (fun H locs hG => ?_)
    obtain ⟨M_103, hM_104⟩ : ∃ M1 : gw_M, M1 = gw_up M_91 a (.inl (K.2.1 3, cap, .inr (.inr (.inr (.inr (va_cpy f f (k + 1) k (sz - 1 - k))))))) := ⟨_, rfl⟩
    have hG : gw_B K M_103 s.heap H locs := by rw [hM_104]; exact hG
    have hc_105 := (congrFun hM_104 w).trans (gw_k hwa hc_93)
    have hc_106 : M_103 a = some (.inl (K.2.1 3, cap, .inr (.inr (.inr (.inr (va_cpy f f (k + 1) k (sz - 1 - k))))))) := (congrFun hM_104 _).trans gw_s
    refine lv_aload_n hx hb dJx4a65c_fastRemove_b59b0_34 rfl (lv_at hl 2 rfl) ?_
    refine lv_aload_n hx hb dJx4a65c_fastRemove_b59b0_35 rfl (lv_at hl 1 rfl) ?_
    refine lv_iload_n hx hb dJx4a65c_fastRemove_b59b0_36 rfl (lv_at hl 0 rfl) ?_
    refine lv_dup_x1 hx hb dJx4a65c_fastRemove_b59b0_37 rfl rfl ?_
    refine gw_put (ci := 0) (v := .int (nI (sz - 1))) (ty := .int) (C := RJx4a65c) (T := TJx4a65c) (N := 3) hx hb hts hinJx4a65c tyJx4a65c tyJx4a65c_ok nmJx4a65c hown hK hG hc_105 rfl 2 (by decide) hf48 (fun _ h9 => h9) rfl (by decide +kernel) rfl rfl (Nat.le_of_ble_eq_true rfl) dJx4a65c_fastRemove_b59b0_38 (fun H locs hG => ?_)
    obtain ⟨M_107, hM_108⟩ : ∃ M1 : gw_M, M1 = gw_up M_103 w (.inr (0, [.int (mc + (nI 1)), .ref a, .int (nI (sz - 1))])) := ⟨_, rfl⟩
    have hG : gw_B K M_107 s.heap H locs := by rw [hM_108]; exact hG
    have hc_109 : M_107 w = some (.inr (0, [.int (mc + (nI 1)), .ref a, .int (nI (sz - 1))])) := (congrFun hM_108 _).trans gw_s
    have hc_110 := (congrFun hM_108 a).trans (gw_k (Ne.symm hwa) hc_106)
    refine lv_null hx hb dJx4a65c_fastRemove_b59b0_41 ?_
    refine gw_astn_n hx hb hK hG hc_110 3 rfl (by omega) (by omega) dJx4a65c_fastRemove_b59b0_42 (fun H locs hG => ?_)
    obtain ⟨M_111, hM_112⟩ : ∃ M1 : gw_M, M1 = gw_up M_107 a (.inl (K.2.1 3, cap, .inr (.inr (.inr (.inr (va_up (va_cpy f f (k + 1) k (sz - 1 - k)) (sz - 1) none)))))) := ⟨_, rfl⟩
    have hG : gw_B K M_111 s.heap H locs := by rw [hM_112]; exact hG
    have hc_113 := (congrFun hM_112 w).trans (gw_k hwa hc_109)
    have hc_114 : M_111 a = some (.inl (K.2.1 3, cap, .inr (.inr (.inr (.inr (va_up (va_cpy f f (k + 1) k (sz - 1 - k)) (sz - 1) none)))))) := (congrFun hM_112 _).trans gw_s
    exact gw_vret hx hb hr hlocks hG hT (by omega) (by omega) dJx4a65c_fastRemove_b59b0_43 ⟨_, ⟨hc_113, by omega, Or.inr ⟨hc_114, by omega, h2, h3⟩⟩, fun j hj => by rw [va_up_ne _ _ (by omega), pk_cpy_out (by omega)], fun j h8 h9 => by rw [va_up_ne _ _ (by omega), pk_cpy_in (by omega) (by omega)]; congr 1; omega, fun q9 e9 g1 g2 g3 => (congrFun hM_112 q9).trans (gw_k g2 ((congrFun hM_108 q9).trans (gw_k g1 ((congrFun hM_104 q9).trans (gw_k g2 ((congrFun hM_92 q9).trans (gw_k g1 g3)))))))⟩

set_option maxHeartbeats 4000000 in
set_option maxRecDepth 100000 in
/-- remove(i) -/
theorem c_alrem (l : Launch) (K : gw_C) (M : gw_M) (w a cap sz : Nat) (mc : Int32) (f : Nat → Option Nat) (k y : Nat) (hal : al K M w a cap sz mc f) (hel : ael M sz f) (hk : k < sz) (hy : f k = some y) : Met l yJx4a65c_remove_915e3 wsJx4a65c_remove_915e3 ({ frames := 2, cells := 0, slots := 0, locals := 49 } : Room) (va_Pc [.ref w, .int (nI k)] (gw_I K M)) (va_Qq (fun r M1 => r = some y ∧ alrem K M M1 w a cap sz k (mc + nI 1) f) (gw_I K) (gw_A K)) 0 0 (gw_A K) := by
  refine Met.ofW (cc := cJx4a65c_remove_915e3) (maxL := 4) (ret := (some (.object "java/lang/Object"))) (by decide) rfl ?_
  intro p e s m args below meth c s₁ B hml hv
  obtain ⟨hav, hI⟩ := hv
  have hx := B.exec
  have hb := B.bytes
  have hr := B.returns
  have hts := atoms_spec (ws := wsJx4a65c_remove_915e3) B.pre
  have hown : s.vm.findClass RJx4a65c = some m.cls := findClass_of_methodNamed B.named
  have hlocks : meth.locks = false := B.notSynchronized
  have hT := hI.2.2
  have hK := hT.K
  have hG := hI.B
  have hf9 := hts (.fieldLink RJx4a65c 9 "java/util/ArrayList" "elementData" "[Ljava/lang/Object;") (by decide +kernel)
  have hf48 := hts (.fieldLink RJx4a65c 48 "java/util/ArrayList" "size" "I") (by decide +kernel)
  have hf63 := hts (.fieldLink RJx4a65c 63 "java/util/ArrayList" "modCount" "I") (by decide +kernel)
  have hinJx4a65c : ∀ w ∈ wsJx4a65c0, w ∈ wsJx4a65c_remove_915e3 := by decide +kernel
  have hE : entryFrame m args 4 = entryFrame m ([.ref w, .int (nI k)] : List Value).toArray 4 := by rw [hav]
  rw [hE]
  have hl := lv_entry ([.ref w, .int (nI k)]) (n := 4) (Nat.le_of_ble_eq_true rfl)
  rw [lg_entry_eq]
  generalize (lg_sl ([.ref w, .int (nI k)]) ++ List.replicate (4 - (lg_sl ([.ref w, .int (nI k)])).length) Slot.unset).toArray = ls at hl ⊢
  have hl : lv_has ls 4 [(0, .ref w), (1, .int (nI k))] := hl
  obtain ⟨hw0, hs, hd9 | ⟨ha, h1, h2, h3⟩⟩ := id hal
  · exact absurd hk (by omega)
  refine lv_iload_n hx hb dJx4a65c_remove_915e3_0 rfl (lv_at hl 1 rfl) ?_
  refine lv_aload_n hx hb dJx4a65c_remove_915e3_1 rfl (lv_at hl 0 rfl) ?_
  refine gw_get (ci := 0) (C := RJx4a65c) (T := TJx4a65c) (N := 3) hx hb hts hinJx4a65c hown hK hG hw0 rfl 2 (by decide) hf48 (fun _ h9 => h9) rfl dJx4a65c_remove_915e3_2 ?_
  refine gw_calli (va_runS (As := [.int (nI k), .int (nI sz)]) (rest := []) ⟨hx, hb, hml, hown, hts⟩ (c_ck l K M k sz hk (by omega)) (va_cwS 2 hts gJx4a65c_remove_915e3_J15_checkIndex_7cf53 rfl rfl rfl (by decide +kernel) ⟨Nat.le_of_ble_eq_true rfl, Nat.le_of_ble_eq_true rfl⟩) (gw_preS hG hT) rfl rfl hl.1 rfl (lv_room (Nat.le_of_ble_eq_true rfl)) dJx4a65c_remove_915e3_5 ⟨Nat.le_of_ble_eq_true rfl, Nat.le_of_ble_eq_true rfl⟩) hG (fun r_115 M_116 H locs hw hG => ?_)
  rw [hw.1] at hG
  refine gw_as hw.2 ?_
  refine lv_pop hx hb dJx4a65c_remove_915e3_8 rfl ?_
  refine lv_aload_n hx hb dJx4a65c_remove_915e3_9 rfl (lv_at hl 0 rfl) ?_
  refine gw_get (ci := 0) (C := RJx4a65c) (T := TJx4a65c) (N := 3) hx hb hts hinJx4a65c hown hK hG hw0 rfl 1 (by decide) hf9 (fun _ h9 => h9) rfl dJx4a65c_remove_915e3_10 ?_
  refine lv_astore_n (lv' := [(2, .ref a), (0, .ref w), (1, .int (nI k))]) hx hb dJx4a65c_remove_915e3_13 rfl hl (by decide) rfl (fun ls hl => ?_)
  refine lv_aload_n hx hb dJx4a65c_remove_915e3_14 rfl (lv_at hl 0 rfl) ?_
  refine lv_iload_n hx hb dJx4a65c_remove_915e3_15 rfl (lv_at hl 2 rfl) ?_
  refine gw_aldq_n (v := some y) hx hb hK hG ha 3 rfl (by omega) (by omega) hy dJx4a65c_remove_915e3_16 ?_
  refine lv_astore_n (lv' := [(3, .ref y), (2, .ref a), (0, .ref w), (1, .int (nI k))]) hx hb dJx4a65c_remove_915e3_17 rfl hl (by decide) rfl (fun ls hl => ?_)
  refine lv_aload_n hx hb dJx4a65c_remove_915e3_18 rfl (lv_at hl 2 rfl) ?_
  refine lv_aload_n hx hb dJx4a65c_remove_915e3_19 rfl (lv_at hl 1 rfl) ?_
  refine lv_iload_n hx hb dJx4a65c_remove_915e3_20 rfl (lv_at hl 3 rfl) ?_
  refine gw_callv (va_runV (As := [.ref a, .int (nI k)]) (rest := []) ⟨hx, hb, hml, hown, hts⟩ (c_frem l K M w a cap sz mc f k hal hel hk) (cwV 2 hts gJx4a65c_remove_915e3_Jx4a65c_fastRemove_b59b0 rfl rfl rfl (by decide +kernel) ⟨Nat.le_of_ble_eq_true rfl, Nat.le_of_ble_eq_true rfl⟩) (gw_preV hG hT hw0 rfl) rfl rfl hl.1 rfl (lv_room (Nat.le_of_ble_eq_true rfl)) dJx4a65c_remove_915e3_21 ⟨Nat.le_of_ble_eq_true rfl, Nat.le_of_ble_eq_true rfl⟩) hG (fun M_118 H locs hw hG => ?_)
  refine lv_aload_n hx hb dJx4a65c_remove_915e3_24 rfl (lv_at hl 0 rfl) ?_
  exact gw_aret (v := some y) hx hb hr (Or.inl ⟨_, rfl⟩) hlocks hG hT (by omega) (by omega) dJx4a65c_remove_915e3_25 ⟨rfl, hw⟩

set_option maxHeartbeats 4000000 in
set_option maxRecDepth 100000 in
/-- clear() -/
theorem c_alclear (l : Launch) (K : gw_C) (M : gw_M) (w a cap sz : Nat) (mc : Int32) (f : Nat → Option Nat) (hal : al K M w a cap sz mc f) : Met l yJx4a65c_clear_da8c8 wsJx4a65c_clear_da8c8 ({ frames := 0, cells := 0, slots := 0, locals := 0 } : Room) (va_Pc [.ref w] (gw_I K M)) (va_Qv (fun M1 => ∃ f1, al K M1 w a cap 0 (mc + nI 1) f1 ∧ ∀ q e, q ≠ w → q ≠ a → M q = some e → M1 q = some e) (gw_I K) (gw_A K)) 0 0 (gw_A K) := by
  refine Met.ofW (cc := cJx4a65c_clear_da8c8) (maxL := 4) (ret := none) (by decide) rfl ?_
  intro p e s m args below meth c s₁ B hml hv
  obtain ⟨hav, hI⟩ := hv
  have hx := B.exec
  have hb := B.bytes
  have hr := B.returns
  have hts := atoms_spec (ws := wsJx4a65c_clear_da8c8) B.pre
  have hown : s.vm.findClass RJx4a65c = some m.cls := findClass_of_methodNamed B.named
  have hlocks : meth.locks = false := B.notSynchronized
  have hT := hI.2.2
  have hK := hT.K
  have hG := hI.B
  have hf9 := hts (.fieldLink RJx4a65c 9 "java/util/ArrayList" "elementData" "[Ljava/lang/Object;") (by decide +kernel)
  have hf48 := hts (.fieldLink RJx4a65c 48 "java/util/ArrayList" "size" "I") (by decide +kernel)
  have hf63 := hts (.fieldLink RJx4a65c 63 "java/util/ArrayList" "modCount" "I") (by decide +kernel)
  have hinJx4a65c : ∀ w ∈ wsJx4a65c0, w ∈ wsJx4a65c_clear_da8c8 := by decide +kernel
  have hE : entryFrame m args 4 = entryFrame m ([.ref w] : List Value).toArray 4 := by rw [hav]
  rw [hE]
  have hl := lv_entry ([.ref w]) (n := 4) (Nat.le_of_ble_eq_true rfl)
  rw [lg_entry_eq]
  generalize (lg_sl ([.ref w]) ++ List.replicate (4 - (lg_sl ([.ref w])).length) Slot.unset).toArray = ls at hl ⊢
  have hl : lv_has ls 4 [(0, .ref w)] := hl
  have hsf63 := hts (.sameField "java/util/ArrayList" "java/util/AbstractList" "modCount" "I") (by decide +kernel)
  obtain ⟨hw0, hs, hcase⟩ := id hal
  refine lv_aload_n hx hb dJx4a65c_clear_da8c8_0 rfl (lv_at hl 0 rfl) ?_
  refine lv_dup hx hb dJx4a65c_clear_da8c8_1 rfl ?_
  refine gw_get (ci := 0) (C := RJx4a65c) (T := TJx4a65c) (N := 3) hx hb hts hinJx4a65c hown hK hG hw0 rfl 0 (by decide) hf63 (fun x9 h9 => u_same hsf63 x9 h9) rfl dJx4a65c_clear_da8c8_2 ?_
  refine lv_iconst (v := nI 1) hx hb dJx4a65c_clear_da8c8_5 (by decide) ?_
  refine lv_iadd hx hb dJx4a65c_clear_da8c8_6 ?_
  refine gw_put (ci := 0) (v := .int (mc + (nI 1))) (ty := .int) (C := RJx4a65c) (T := TJx4a65c) (N := 3) hx hb hts hinJx4a65c tyJx4a65c tyJx4a65c_ok nmJx4a65c hown hK hG hw0 rfl 0 (by decide) hf63 (fun x9 h9 => u_same hsf63 x9 h9) rfl (by decide +kernel) rfl rfl (Nat.le_of_ble_eq_true rfl) dJx4a65c_clear_da8c8_7 (fun H locs hG => ?_)
  obtain ⟨M_119, hM_120⟩ : ∃ M1 : gw_M, M1 = gw_up M w (.inr (0, [.int (mc + (nI 1)), .ref a, .int (nI sz)])) := ⟨_, rfl⟩
  have hG : gw_B K M_119 s.heap H locs := by rw [hM_120]; exact hG
  have hc_121 : M_119 w = some (.inr (0, [.int (mc + (nI 1)), .ref a, .int (nI sz)])) := (congrFun hM_120 _).trans gw_s
  refine lv_aload_n hx hb dJx4a65c_clear_da8c8_10 rfl (lv_at hl 0 rfl) ?_
  refine gw_get (ci := 0) (C := RJx4a65c) (T := TJx4a65c) (N := 3) hx hb hts hinJx4a65c hown hK hG hc_121 rfl 1 (by decide) hf9 (fun _ h9 => h9) rfl dJx4a65c_clear_da8c8_11 ?_
  refine lv_astore_n (lv' := [(1, .ref a), (0, .ref w)]) hx hb dJx4a65c_clear_da8c8_14 rfl hl (by decide) rfl (fun ls hl => ?_)
  refine lv_aload_n hx hb dJx4a65c_clear_da8c8_15 rfl (lv_at hl 1 rfl) ?_
  refine gw_get (ci := 0) (C := RJx4a65c) (T := TJx4a65c) (N := 3) hx hb hts hinJx4a65c hown hK hG hc_121 rfl 2 (by decide) hf48 (fun _ h9 => h9) rfl dJx4a65c_clear_da8c8_16 ?_
  refine lv_istore_n (lv' := [(2, .int (nI sz)), (1, .ref a), (0, .ref w)]) hx hb dJx4a65c_clear_da8c8_19 rfl hl (by decide) rfl (fun ls hl => ?_)
  refine lv_aload_n hx hb dJx4a65c_clear_da8c8_20 rfl (lv_at hl 2 rfl) ?_
  refine lv_iconst (v := nI 0) hx hb dJx4a65c_clear_da8c8_21 (by decide) ?_
  refine lv_dup_x1 hx hb dJx4a65c_clear_da8c8_22 rfl rfl ?_
  refine gw_put (ci := 0) (v := .int (nI 0)) (ty := .int) (C := RJx4a65c) (T := TJx4a65c) (N := 3) hx hb hts hinJx4a65c tyJx4a65c tyJx4a65c_ok nmJx4a65c hown hK hG hc_121 rfl 2 (by decide) hf48 (fun _ h9 => h9) rfl (by decide +kernel) rfl rfl (Nat.le_of_ble_eq_true rfl) dJx4a65c_clear_da8c8_23 (fun H locs hG => ?_)
  obtain ⟨M_122, hM_123⟩ : ∃ M1 : gw_M, M1 = gw_up M_119 w (.inr (0, [.int (mc + (nI 1)), .ref a, .int (nI 0)])) := ⟨_, rfl⟩
  have hG : gw_B K M_122 s.heap H locs := by rw [hM_123]; exact hG
  have hc_124 : M_122 w = some (.inr (0, [.int (mc + (nI 1)), .ref a, .int (nI 0)])) := (congrFun hM_123 _).trans gw_s
  refine lv_istore_n (lv' := [(3, .int (nI 0)), (2, .int (nI sz)), (1, .ref a), (0, .ref w)]) hx hb dJx4a65c_clear_da8c8_26 rfl hl (by decide) rfl (fun ls hl => ?_)
  have hloop : ∀ (n : Nat) (i : Nat), i ≤ sz → sz + 1 ≤ i + n → ∀ (Mi : gw_M), (∃ f1, (Mi w = some (.inr (0, [.int (mc + nI 1), .ref a, .int (nI 0)])) ∧ ((a = K.2.2.2.1 ∧ cap = 0 ∧ sz = 0) ∨ (Mi a = some (.inl (K.2.1 3, cap, .inr (.inr (.inr (.inr f1))))) ∧ sz ≤ cap ∧ 10 ≤ cap ∧ cap ≤ 150))) ∧ ∀ q e, q ≠ w → q ≠ a → M q = some e → Mi q = some e) → ∀ (H : Heap) (locs : List Loc), gw_B K Mi s.heap H locs → ∀ (ls : Array Slot), lv_has ls 4 [(3, .int (nI i)), (2, .int (nI sz)), (1, .ref a), (0, .ref w)] → W p l e ({ frames := 0, cells := 0, slots := 0, locals := 0 } : Room) s m args below meth c H locs 0 0 (MQ below (va_Qv (fun M1 => ∃ f1, al K M1 w a cap 0 (mc + nI 1) f1 ∧ ∀ q e, q ≠ w → q ≠ a → M q = some e → M1 q = some e) (gw_I K) (gw_A K)) args s 0 0 (gw_A K)) (F0 m 27 ls []) := by
    intro n
    induction n with
    | zero =>
      intro i hg0 hm
      exact absurd hm (by omega)
    | succ n ih =>
      intro i hg0 hm Mi hMi H locs hG ls hl
      obtain ⟨f1, ⟨z0, z1⟩, z2⟩ := hMi
      refine lv_iload_n hx hb dJx4a65c_clear_da8c8_27 rfl (lv_at hl 0 rfl) ?_
      refine lv_iload_n hx hb dJx4a65c_clear_da8c8_28 rfl (lv_at hl 1 rfl) ?_
      refine gw_icmp_ge hx hb (by omega) (by omega) (tgt := 42) dJx4a65c_clear_da8c8_29 (by decide) (fun hc => ?_) (fun hc => ?_)
      · exact gw_vret hx hb hr hlocks hG hT (by omega) (by omega) dJx4a65c_clear_da8c8_42 ⟨f1, ⟨z0, by omega, z1.imp (fun z => ⟨z.1, z.2.1, rfl⟩) (fun z => ⟨z.1, by omega, z.2.2.1, z.2.2.2⟩)⟩, z2⟩
      · rcases z1 with z1 | ⟨g0, g1, g2, g3⟩
        · exact absurd hc (by omega)
        have hwa : w ≠ a := gw_io z0 g0
        refine lv_aload_n hx hb dJx4a65c_clear_da8c8_32 rfl (lv_at hl 2 rfl) ?_
        refine lv_iload_n hx hb dJx4a65c_clear_da8c8_33 rfl (lv_at hl 0 rfl) ?_
        refine lv_null hx hb dJx4a65c_clear_da8c8_34 ?_
        refine gw_astn_n hx hb hK hG g0 3 rfl (by omega) (by omega) dJx4a65c_clear_da8c8_35 (fun H locs hG => ?_)
        obtain ⟨M_125, hM_126⟩ : ∃ M1 : gw_M, M1 = gw_up Mi a (.inl (K.2.1 3, cap, .inr (.inr (.inr (.inr (va_up f1 i none)))))) := ⟨_, rfl⟩
        have hG : gw_B K M_125 s.heap H locs := by rw [hM_126]; exact hG
        have hc_127 := (congrFun hM_126 w).trans (gw_k hwa z0)
        have hc_128 : M_125 a = some (.inl (K.2.1 3, cap, .inr (.inr (.inr (.inr (va_up f1 i none)))))) := (congrFun hM_126 _).trans gw_s
        refine lv_iinc (v := nI (i + 1)) (lv' := [(3, .int (nI (i + 1))), (2, .int (nI sz)), (1, .ref a), (0, .ref w)]) hx hb dJx4a65c_clear_da8c8_36 hl (k := 0) rfl (gw_inc _) (by decide) rfl (fun ls hl => ?_)
        refine lv_goto (tgt := 27) hx hb dJx4a65c_clear_da8c8_39 (by decide) ?_
        exact ih (i + 1) (by omega) (by omega) _ ⟨_, ⟨hc_127, Or.inr ⟨hc_128, g1, g2, g3⟩⟩, fun q e9 k1 k2 k3 => (congrFun hM_126 q).trans (gw_k k2 (z2 q e9 k1 k2 k3))⟩ _ _ hG ls (lv_sub hl [0, 1, 2, 3] rfl)
  exact hloop (sz + 1) 0 (by omega) (by omega) _ ⟨f, ⟨hc_124, hcase.imp id (fun z => ⟨(congrFun hM_123 a).trans (gw_k (Ne.symm (gw_io hw0 z.1)) ((congrFun hM_120 a).trans (gw_k (Ne.symm (gw_io hw0 z.1)) z.1))), z.2⟩)⟩, fun q e9 k1 k2 k3 => (congrFun hM_123 q).trans (gw_k k1 ((congrFun hM_120 q).trans (gw_k k1 k3)))⟩ _ _ hG ls (lv_sub hl [0, 1, 2, 3] rfl)
