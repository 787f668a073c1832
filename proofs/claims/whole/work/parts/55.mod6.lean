theorem tq_0 {a : Int32} {Q : Prop} {P : Nat → Prop} (h : tst a Q) : tst a (Q ∧ ∀ k, k < 0 → P k) := h.elim (fun z => Or.inl ⟨z.1, z.2, fun k hk => absurd hk (Nat.not_lt_zero k)⟩) (fun z => Or.inr ⟨z.1, fun q => z.2 q.1⟩)
theorem tq_z {a : Int32} {Q : Prop} {P : Nat → Prop} {i : Nat} (h : tst a (Q ∧ ∀ k, k < i → P k)) (hz : a = 0) : tst (nI 0) (Q ∧ ∀ k, k < i + 1 → P k) := Or.inr ⟨rfl, fun q => tst_z h hz ⟨q.1, fun k hk => q.2 k (by omega)⟩⟩
theorem tq_y {a : Int32} {Q : Prop} {P : Nat → Prop} {i : Nat} (h : tst a (Q ∧ ∀ k, k < i → P k)) (hz : ¬ a = 0) (hp : P i) : tst (nI 1) (Q ∧ ∀ k, k < i + 1 → P k) := Or.inl ⟨rfl, (tst_o h hz).1, fun k hk => if z : k = i then (by rw [z]; exact hp) else (tst_o h hz).2 k (by omega)⟩
theorem tq_n {Q : Prop} {P : Nat → Prop} {i : Nat} (hp : ¬ P i) : tst (nI 0) (Q ∧ ∀ k, k < i + 1 → P k) := Or.inr ⟨rfl, fun q => hp (q.2 i (by omega))⟩
/-- what same asks -/
def sm1 (tb : Nat → Int32) (ra rb k : Nat) : Prop := tb (414 * ra + k) = tb (414 * rb + k)
def sm2 (tb vb : Nat → Int32) (ra rb k : Nat) : Prop := tb (414 * ra + 6 + 6 * 64 + k) ≤ 0 ∨ vb (24 * ra + k) = vb (24 * rb + k)
def sm3 (sb : Nat → Int64) (ra rb k : Nat) : Prop := sb (48 * ra + k) = sb (48 * rb + k)
set_option maxHeartbeats 4000000 in
set_option maxRecDepth 100000 in
/-- m_same -/
theorem m_same (l : Launch) (K : gw_C) (M : gw_M) (mo : Nat) (ad : Nat → Nat) (cd : Int32) (nn kk : Nat) (tb vb : Nat → Int32) (sb : Nat → Int64) (fm tq : Nat → Int32) (ra rb : Nat)  (hm : md K M mo ad cd nn kk tb vb sb fm tq) (hra : ra < nn) (hrb : rb < nn) : Met l yX3_same wsX3_same ({ frames := 6, cells := 0, slots := 0, locals := 160 } : Room) (va_Pc [.ref mo, .int (nI ra), .int (nI rb)] (gw_I K M)) (va_Qi (fun r M1 => tst r (((True ∧ ∀ k, k < 414 → sm1 tb ra rb k) ∧ ∀ k, k < 24 → sm2 tb vb ra rb k) ∧ ∀ k, k < 48 → sm3 sb ra rb k) ∧ md K M1 mo ad (nI 0) nn kk tb vb sb fm tq ∧ mfr M M1 mo ad) (gw_I K) (gw_A K)) 0 0 (gw_A K) := by
  refine Met.ofW (cc := cX3_same) (maxL := 6) (ret := (some .boolean)) (by decide) rfl ?_
  intro p e s m args below meth c s₁ B hml hv
  obtain ⟨hav, hI⟩ := hv
  have hx := B.exec
  have hb := B.bytes
  have hr := B.returns
  have hts := atoms_spec (ws := wsX3_same) B.pre
  have hown : s.vm.findClass RX3 = some m.cls := findClass_of_methodNamed B.named
  have hlocks : meth.locks = false := B.notSynchronized
  have hT := hI.2.2
  have hK := hT.K
  have hG := hI.B
  have hf7 := hts (.fieldLink RX3 7 "DotGossipModel" "replicas" "I") (by decide +kernel)
  have hf14 := hts (.fieldLink RX3 14 "DotGossipModel" "table" "[I") (by decide +kernel)
  have hf18 := hts (.fieldLink RX3 18 "DotGossipModel" "values" "[I") (by decide +kernel)
  have hf21 := hts (.fieldLink RX3 21 "DotGossipModel" "sums" "[J") (by decide +kernel)
  have hf31 := hts (.fieldLink RX3 31 "DotGossipModel" "code" "I") (by decide +kernel)
  have hinX3 : ∀ w ∈ wsX30, w ∈ wsX3_same := by decide +kernel
  have hE : entryFrame m args 6 = entryFrame m ([.ref mo, .int (nI ra), .int (nI rb)] : List Value).toArray 6 := by rw [hav]
  rw [hE]
  have hl := lv_entry ([.ref mo, .int (nI ra), .int (nI rb)]) (n := 6) (Nat.le_of_ble_eq_true rfl)
  rw [lg_entry_eq]
  generalize (lg_sl ([.ref mo, .int (nI ra), .int (nI rb)]) ++ List.replicate (6 - (lg_sl ([.ref mo, .int (nI ra), .int (nI rb)])).length) Slot.unset).toArray = ls at hl ⊢
  have hl : lv_has ls 6 [(0, .ref mo), (1, .int (nI ra)), (2, .int (nI rb))] := hl
  obtain ⟨p0_b, p0_o, p0_0, p0_1, p0_2, p0_3, p0_4, p0_ne⟩ := id hm
  have ne_o0 : mo ≠ ad 0 := gw_io p0_o p0_0
  have ne_o1 : mo ≠ ad 1 := gw_io p0_o p0_1
  have ne_o2 : mo ≠ ad 2 := gw_io p0_o p0_2
  have ne_o3 : mo ≠ ad 3 := gw_io p0_o p0_3
  have ne_o4 : mo ≠ ad 4 := gw_io p0_o p0_4
  have hn6 := p0_b.1
  refine lv_aload_n hx hb dX3_same_0 rfl (lv_at hl 0 rfl) ?_
  refine lv_aload_n hx hb dX3_same_1 rfl (lv_at hl 0 rfl) ?_
  refine lv_iload_n hx hb dX3_same_2 rfl (lv_at hl 1 rfl) ?_
  refine gw_calli (va_runV (As := [.int (nI ra)]) (rest := [.ref mo]) ⟨hx, hb, hml, hown, hts⟩ (c_isRep l K M mo ad _ _ _ _ _ _ _ _ (nI ra) hm) (cwV 1 hts gX3_same_X3_isReplica rfl rfl rfl (by decide +kernel) ⟨Nat.le_of_ble_eq_true rfl, Nat.le_of_ble_eq_true rfl⟩) (gw_preV hG hT p0_o rfl) rfl rfl hl.1 rfl (lv_room (Nat.le_of_ble_eq_true rfl)) dX3_same_3 ⟨Nat.le_of_ble_eq_true rfl, Nat.le_of_ble_eq_true rfl⟩) hG (fun r_617 M_618 H locs hw hG => ?_)
  rw [hw.1] at hG
  refine gw_as (tst_y hw.2 ⟨ra, hra, rfl⟩) ?_
  refine lv_if_eq hx hb (tgt := 21) dX3_same_6 (by decide) (fun hc => absurd hc (by decide)) (fun hc => ?_)
  refine lv_aload_n hx hb dX3_same_9 rfl (lv_at hl 0 rfl) ?_
  refine lv_iload_n hx hb dX3_same_10 rfl (lv_at hl 2 rfl) ?_
  refine gw_calli (va_runV (As := [.int (nI rb)]) (rest := [.ref mo]) ⟨hx, hb, hml, hown, hts⟩ (c_isRep l K M mo ad _ _ _ _ _ _ _ _ (nI rb) hm) (cwV 1 hts gX3_same_X3_isReplica rfl rfl rfl (by decide +kernel) ⟨Nat.le_of_ble_eq_true rfl, Nat.le_of_ble_eq_true rfl⟩) (gw_preV hG hT p0_o rfl) rfl rfl hl.1 rfl (lv_room (Nat.le_of_ble_eq_true rfl)) dX3_same_11 ⟨Nat.le_of_ble_eq_true rfl, Nat.le_of_ble_eq_true rfl⟩) hG (fun r_619 M_620 H locs hw hG => ?_)
  rw [hw.1] at hG
  refine gw_as (tst_y hw.2 ⟨rb, hrb, rfl⟩) ?_
  refine lv_if_eq hx hb (tgt := 21) dX3_same_14 (by decide) (fun hc => absurd hc (by decide)) (fun hc => ?_)
  refine lv_iconst (v := nI 0) hx hb dX3_same_17 (by decide) ?_
  refine lv_goto (tgt := 22) hx hb dX3_same_18 (by decide) ?_
  refine gw_calli (va_runV (As := [.int (nI 0)]) (rest := []) ⟨hx, hb, hml, hown, hts⟩ (c_ref0 l K M mo ad _ _ _ _ _ _ _ _ 0 hm) (cwV 1 hts gX3_same_X3_refuses rfl rfl rfl (by decide +kernel) ⟨Nat.le_of_ble_eq_true rfl, Nat.le_of_ble_eq_true rfl⟩) (gw_preV hG hT p0_o rfl) rfl rfl hl.1 rfl (lv_room (Nat.le_of_ble_eq_true rfl)) dX3_same_22 ⟨Nat.le_of_ble_eq_true rfl, Nat.le_of_ble_eq_true rfl⟩) hG (fun r_621 M_622 H locs hw hG => ?_)
  rw [hw.1]
  obtain ⟨hm_623, fr_624⟩ := hw.2
  have fr_625 : mfr M M_622 mo ad := mfr.tr mfr.rf fr_624
  obtain ⟨p_626_b, p_626_o, p_626_0, p_626_1, p_626_2, p_626_3, p_626_4, p_626_ne⟩ := id hm_623
  refine lv_if_eq hx hb (tgt := 30) dX3_same_25 (by decide) (fun hc => ?_) (fun hc => absurd (by decide) hc)
  refine lv_iconst (v := nI 1) hx hb dX3_same_30 (by decide) ?_
  refine lv_istore_n (lv' := [(3, .int (nI 1)), (0, .ref mo), (1, .int (nI ra)), (2, .int (nI rb))]) hx hb dX3_same_31 rfl hl (by decide) rfl (fun ls hl => ?_)
  refine lv_iconst (v := nI 0) hx hb dX3_same_32 (by decide) ?_
  refine lv_istore (lv' := [(4, .int (nI 0)), (3, .int (nI 1)), (0, .ref mo), (1, .int (nI ra)), (2, .int (nI rb))]) hx hb dX3_same_33 hl (by decide) rfl (fun ls hl => ?_)
  have hl3 : ∀ (z9 : Nat) (i : Nat) (a9 : Int32), i ≤ 48 → tst a9 (((True ∧ ∀ k, k < 414 → sm1 tb ra rb k) ∧ ∀ k, k < 24 → sm2 tb vb ra rb k) ∧ ∀ k, k < i → sm3 sb ra rb k) → 48 + 1 ≤ i + z9 → ∀ (Mi : gw_M), Mi = M_622 → ∀ (H : Heap) (locs : List Loc), gw_B K Mi s.heap H locs → ∀ (ls : Array Slot), lv_has ls 6 [(4, .int (nI i)), (3, .int a9), (0, .ref mo), (1, .int (nI ra)), (2, .int (nI rb))] → W p l e ({ frames := 6, cells := 0, slots := 0, locals := 160 } : Room) s m args below meth c H locs (0) (0) (MQ below (va_Qi (fun r M1 => tst r (((True ∧ ∀ k, k < 414 → sm1 tb ra rb k) ∧ ∀ k, k < 24 → sm2 tb vb ra rb k) ∧ ∀ k, k < 48 → sm3 sb ra rb k) ∧ md K M1 mo ad (nI 0) nn kk tb vb sb fm tq ∧ mfr M M1 mo ad) (gw_I K) (gw_A K)) args s 0 0 (gw_A K)) (F0 m 173 ls []) := by
    intro z9
    induction z9 with
    | zero =>
      intro i a9 hg0 hg1 hm
      exact absurd hm (by omega)
    | succ z9 ih =>
      intro i a9 hg0 hg1 hm Mi hMi H locs hG ls hl
      rw [hMi] at hG
      refine lv_iload hx hb dX3_same_173 (lv_at hl 0 rfl) ?_
      refine lv_bipush (v := nI 48) hx hb dX3_same_175 (by decide) ?_
      refine gw_icmp_ge hx hb (by omega) (by omega) (tgt := 224) dX3_same_177 (by decide) (fun hc => ?_) (fun hc => ?_)
      · have e6 : i = 48 := by omega
        rw [e6] at hg1
        refine lv_iload_n hx hb dX3_same_224 rfl (lv_at hl 1 rfl) ?_
        exact gw_zret hx hb hr hlocks hG hT (by omega) (by omega) dX3_same_225 (hg1.elim (fun z => Or.inr z.1) (fun z => Or.inl z.1)) ⟨hg1, ⟨p0_b, p_626_o, p_626_0, p_626_1, p_626_2, p_626_3, p_626_4, p0_ne⟩, fr_625⟩
      · refine lv_iload_n hx hb dX3_same_180 rfl (lv_at hl 1 rfl) ?_
        refine lv_if_eq hx hb (tgt := 216) dX3_same_181 (by decide) (fun hz => ?_) (fun hz => ?_)
        · refine lv_iconst (v := nI 0) hx hb dX3_same_216 (by decide) ?_
          refine lv_istore_n (lv' := [(3, .int (nI 0)), (4, .int (nI i)), (0, .ref mo), (1, .int (nI ra)), (2, .int (nI rb))]) hx hb dX3_same_217 rfl hl (by decide) rfl (fun ls hl => ?_)
          refine lv_iinc (v := nI (i + 1)) (lv' := [(4, .int (nI (i + 1))), (3, .int (nI 0)), (0, .ref mo), (1, .int (nI ra)), (2, .int (nI rb))]) hx hb dX3_same_218 hl (k := 1) rfl (gw_inc _) (by decide) rfl (fun ls hl => ?_)
          refine lv_goto (tgt := 173) hx hb dX3_same_221 (by decide) ?_
          exact ih (i + 1) _ (by omega) (tq_z hg1 hz) (by omega) _ rfl _ _ hG ls (lv_sub hl [0, 1, 2, 3, 4] rfl)
        · refine lv_aload_n hx hb dX3_same_184 rfl (lv_at hl 2 rfl) ?_
          refine gw_get (ci := 4) (C := RX3) (T := TX3) (N := 8) hx hb hts hinX3 hown hK hG p_626_o rfl 5 (by decide) hf21 (fun _ h9 => h9) rfl dX3_same_185 ?_
          refine lv_bipush (v := nI 48) hx hb dX3_same_188 (by decide) ?_
          refine lv_iload_n hx hb dX3_same_190 rfl (lv_at hl 3 rfl) ?_
          refine gw_imul hx hb dX3_same_191 ?_
          refine lv_iload hx hb dX3_same_192 (lv_at hl 0 rfl) ?_
          refine gw_iadd hx hb dX3_same_194 ?_
          refine gw_lald_n hx hb hK hG p_626_2 1 rfl (by omega) (by omega) dX3_same_195 ?_
          refine lv_aload_n hx hb dX3_same_196 rfl (lv_at hl 2 rfl) ?_
          refine gw_get (ci := 4) (C := RX3) (T := TX3) (N := 8) hx hb hts hinX3 hown hK hG p_626_o rfl 5 (by decide) hf21 (fun _ h9 => h9) rfl dX3_same_197 ?_
          refine lv_bipush (v := nI 48) hx hb dX3_same_200 (by decide) ?_
          refine lv_iload_n hx hb dX3_same_202 rfl (lv_at hl 4 rfl) ?_
          refine gw_imul hx hb dX3_same_203 ?_
          refine lv_iload hx hb dX3_same_204 (lv_at hl 0 rfl) ?_
          refine gw_iadd hx hb dX3_same_206 ?_
          refine gw_lald_n hx hb hK hG p_626_2 1 rfl (by omega) (by omega) dX3_same_207 ?_
          refine W.lcmp hx hb dX3_same_208 ?_
          refine lv_if_ne hx hb (tgt := 216) dX3_same_209 (by decide) (fun hq => ?_) (fun hq => ?_)
          · refine lv_iconst (v := nI 0) hx hb dX3_same_216 (by decide) ?_
            refine lv_istore_n (lv' := [(3, .int (nI 0)), (4, .int (nI i)), (0, .ref mo), (1, .int (nI ra)), (2, .int (nI rb))]) hx hb dX3_same_217 rfl hl (by decide) rfl (fun ls hl => ?_)
            refine lv_iinc (v := nI (i + 1)) (lv' := [(4, .int (nI (i + 1))), (3, .int (nI 0)), (0, .ref mo), (1, .int (nI ra)), (2, .int (nI rb))]) hx hb dX3_same_218 hl (k := 1) rfl (gw_inc _) (by decide) rfl (fun ls hl => ?_)
            refine lv_goto (tgt := 173) hx hb dX3_same_221 (by decide) ?_
            exact ih (i + 1) _ (by omega) (tq_n (fun z => hq (lcmp_of z))) (by omega) _ rfl _ _ hG ls (lv_sub hl [0, 1, 2, 3, 4] rfl)
          · refine lv_iconst (v := nI 1) hx hb dX3_same_212 (by decide) ?_
            refine lv_goto (tgt := 217) hx hb dX3_same_213 (by decide) ?_
            refine lv_istore_n (lv' := [(3, .int (nI 1)), (4, .int (nI i)), (0, .ref mo), (1, .int (nI ra)), (2, .int (nI rb))]) hx hb dX3_same_217 rfl hl (by decide) rfl (fun ls hl => ?_)
            refine lv_iinc (v := nI (i + 1)) (lv' := [(4, .int (nI (i + 1))), (3, .int (nI 1)), (0, .ref mo), (1, .int (nI ra)), (2, .int (nI rb))]) hx hb dX3_same_218 hl (k := 1) rfl (gw_inc _) (by decide) rfl (fun ls hl => ?_)
            refine lv_goto (tgt := 173) hx hb dX3_same_221 (by decide) ?_
            exact ih (i + 1) _ (by omega) (tq_y hg1 hz (lcmp_eq hq)) (by omega) _ rfl _ _ hG ls (lv_sub hl [0, 1, 2, 3, 4] rfl)
  have hl2 : ∀ (z9 : Nat) (i : Nat) (a9 : Int32), i ≤ 24 → tst a9 ((True ∧ ∀ k, k < 414 → sm1 tb ra rb k) ∧ ∀ k, k < i → sm2 tb vb ra rb k) → 24 + 1 ≤ i + z9 → ∀ (Mi : gw_M), Mi = M_622 → ∀ (H : Heap) (locs : List Loc), gw_B K Mi s.heap H locs → ∀ (ls : Array Slot), lv_has ls 6 [(4, .int (nI i)), (3, .int a9), (0, .ref mo), (1, .int (nI ra)), (2, .int (nI rb))] → W p l e ({ frames := 6, cells := 0, slots := 0, locals := 160 } : Room) s m args below meth c H locs (0) (0) (MQ below (va_Qi (fun r M1 => tst r (((True ∧ ∀ k, k < 414 → sm1 tb ra rb k) ∧ ∀ k, k < 24 → sm2 tb vb ra rb k) ∧ ∀ k, k < 48 → sm3 sb ra rb k) ∧ md K M1 mo ad (nI 0) nn kk tb vb sb fm tq ∧ mfr M M1 mo ad) (gw_I K) (gw_A K)) args s 0 0 (gw_A K)) (F0 m 91 ls []) := by
    intro z9
    induction z9 with
    | zero =>
      intro i a9 hg0 hg1 hm
      exact absurd hm (by omega)
    | succ z9 ih =>
      intro i a9 hg0 hg1 hm Mi hMi H locs hG ls hl
      rw [hMi] at hG
      refine lv_iload hx hb dX3_same_91 (lv_at hl 0 rfl) ?_
      refine lv_bipush (v := nI 24) hx hb dX3_same_93 (by decide) ?_
      refine gw_icmp_ge hx hb (by omega) (by omega) (tgt := 170) dX3_same_95 (by decide) (fun hc => ?_) (fun hc => ?_)
      · have e6 : i = 24 := by omega
        rw [e6] at hg1
        refine lv_iconst (v := nI 0) hx hb dX3_same_170 (by decide) ?_
        refine lv_istore (lv' := [(4, .int (nI 0)), (3, .int a9), (0, .ref mo), (1, .int (nI ra)), (2, .int (nI rb))]) hx hb dX3_same_171 hl (by decide) rfl (fun ls hl => ?_)
        exact hl3 49 0 a9 (by omega) (tq_0 hg1) (by omega) _ rfl _ _ hG ls (lv_sub hl [0, 1, 2, 3, 4] rfl)
      · refine lv_aload_n hx hb dX3_same_98 rfl (lv_at hl 2 rfl) ?_
        refine gw_get (ci := 4) (C := RX3) (T := TX3) (N := 8) hx hb hts hinX3 hown hK hG p_626_o rfl 3 (by decide) hf14 (fun _ h9 => h9) rfl dX3_same_99 ?_
        refine lv_iload_n hx hb dX3_same_102 rfl (lv_at hl 3 rfl) ?_
        refine lv_bipush (v := nI 64) hx hb dX3_same_103 (by decide) ?_
        refine gw_calli (va_runS (As := [.int (nI ra), .int (nI 64)]) (rest := [.ref (ad 0)]) ⟨hx, hb, hml, hown, hts⟩ (c_dots l K M_622 ra 64) (va_cwS 2 hts gX3_same_X3_dots rfl rfl rfl (by decide +kernel) ⟨Nat.le_of_ble_eq_true rfl, Nat.le_of_ble_eq_true rfl⟩) (gw_preS hG hT) rfl rfl hl.1 rfl (lv_room (Nat.le_of_ble_eq_true rfl)) dX3_same_105 ⟨Nat.le_of_ble_eq_true rfl, Nat.le_of_ble_eq_true rfl⟩) hG (fun r_627 M_628 H locs hw hG => ?_)
        rw [hw.1] at hG
        refine gw_as hw.2 ?_
        refine lv_iload hx hb dX3_same_108 (lv_at hl 0 rfl) ?_
        refine gw_iadd hx hb dX3_same_110 ?_
        refine gw_iald_n hx hb hK hG p_626_0 0 rfl (by omega) (by omega) dX3_same_111 ?_
        refine lv_if_le hx hb (tgt := 119) dX3_same_112 (by decide) (fun hd => ?_) (fun hd => ?_)
        · refine lv_iconst (v := nI 0) hx hb dX3_same_119 (by decide) ?_
          refine lv_istore (lv' := [(5, .int (nI 0)), (4, .int (nI i)), (3, .int a9), (0, .ref mo), (1, .int (nI ra)), (2, .int (nI rb))]) hx hb dX3_same_120 hl (by decide) rfl (fun ls hl => ?_)
          refine lv_iload_n hx hb dX3_same_122 rfl (lv_at hl 2 rfl) ?_
          refine lv_if_eq hx hb (tgt := 162) dX3_same_123 (by decide) (fun hz => ?_) (fun hz => ?_)
          · refine lv_iconst (v := nI 0) hx hb dX3_same_162 (by decide) ?_
            refine lv_istore_n (lv' := [(3, .int (nI 0)), (5, .int (nI 0)), (4, .int (nI i)), (0, .ref mo), (1, .int (nI ra)), (2, .int (nI rb))]) hx hb dX3_same_163 rfl hl (by decide) rfl (fun ls hl => ?_)
            refine lv_iinc (v := nI (i + 1)) (lv' := [(4, .int (nI (i + 1))), (3, .int (nI 0)), (5, .int (nI 0)), (0, .ref mo), (1, .int (nI ra)), (2, .int (nI rb))]) hx hb dX3_same_164 hl (k := 2) rfl (gw_inc _) (by decide) rfl (fun ls hl => ?_)
            refine lv_goto (tgt := 91) hx hb dX3_same_167 (by decide) ?_
            exact ih (i + 1) _ (by omega) (tq_z hg1 hz) (by omega) _ rfl _ _ hG ls (lv_sub hl [0, 1, 3, 4, 5] rfl)
          · refine lv_iload hx hb dX3_same_126 (lv_at hl 0 rfl) ?_
            refine lv_if_eq hx hb (tgt := 158) dX3_same_128 (by decide) (fun hc => ?_) (fun hc => absurd (by decide) hc)
            refine lv_iconst (v := nI 1) hx hb dX3_same_158 (by decide) ?_
            refine lv_goto (tgt := 163) hx hb dX3_same_159 (by decide) ?_
            refine lv_istore_n (lv' := [(3, .int (nI 1)), (5, .int (nI 0)), (4, .int (nI i)), (0, .ref mo), (1, .int (nI ra)), (2, .int (nI rb))]) hx hb dX3_same_163 rfl hl (by decide) rfl (fun ls hl => ?_)
            refine lv_iinc (v := nI (i + 1)) (lv' := [(4, .int (nI (i + 1))), (3, .int (nI 1)), (5, .int (nI 0)), (0, .ref mo), (1, .int (nI ra)), (2, .int (nI rb))]) hx hb dX3_same_164 hl (k := 2) rfl (gw_inc _) (by decide) rfl (fun ls hl => ?_)
            refine lv_goto (tgt := 91) hx hb dX3_same_167 (by decide) ?_
            exact ih (i + 1) _ (by omega) (tq_y hg1 hz (Or.inl hd)) (by omega) _ rfl _ _ hG ls (lv_sub hl [0, 1, 3, 4, 5] rfl)
        · refine lv_iconst (v := nI 1) hx hb dX3_same_115 (by decide) ?_
          refine lv_goto (tgt := 120) hx hb dX3_same_116 (by decide) ?_
          refine lv_istore (lv' := [(5, .int (nI 1)), (4, .int (nI i)), (3, .int a9), (0, .ref mo), (1, .int (nI ra)), (2, .int (nI rb))]) hx hb dX3_same_120 hl (by decide) rfl (fun ls hl => ?_)
          refine lv_iload_n hx hb dX3_same_122 rfl (lv_at hl 2 rfl) ?_
          refine lv_if_eq hx hb (tgt := 162) dX3_same_123 (by decide) (fun hz => ?_) (fun hz => ?_)
          · refine lv_iconst (v := nI 0) hx hb dX3_same_162 (by decide) ?_
            refine lv_istore_n (lv' := [(3, .int (nI 0)), (5, .int (nI 1)), (4, .int (nI i)), (0, .ref mo), (1, .int (nI ra)), (2, .int (nI rb))]) hx hb dX3_same_163 rfl hl (by decide) rfl (fun ls hl => ?_)
            refine lv_iinc (v := nI (i + 1)) (lv' := [(4, .int (nI (i + 1))), (3, .int (nI 0)), (5, .int (nI 1)), (0, .ref mo), (1, .int (nI ra)), (2, .int (nI rb))]) hx hb dX3_same_164 hl (k := 2) rfl (gw_inc _) (by decide) rfl (fun ls hl => ?_)
            refine lv_goto (tgt := 91) hx hb dX3_same_167 (by decide) ?_
            exact ih (i + 1) _ (by omega) (tq_z hg1 hz) (by omega) _ rfl _ _ hG ls (lv_sub hl [0, 1, 3, 4, 5] rfl)
          · refine lv_iload hx hb dX3_same_126 (lv_at hl 0 rfl) ?_
            refine lv_if_eq hx hb (tgt := 158) dX3_same_128 (by decide) (fun hc => absurd hc (by decide)) (fun hc => ?_)
            refine lv_aload_n hx hb dX3_same_131 rfl (lv_at hl 3 rfl) ?_
            refine gw_get (ci := 4) (C := RX3) (T := TX3) (N := 8) hx hb hts hinX3 hown hK hG p_626_o rfl 4 (by decide) hf18 (fun _ h9 => h9) rfl dX3_same_132 ?_
            refine lv_bipush (v := nI 24) hx hb dX3_same_135 (by decide) ?_
            refine lv_iload_n hx hb dX3_same_137 rfl (lv_at hl 4 rfl) ?_
            refine gw_imul hx hb dX3_same_138 ?_
            refine lv_iload hx hb dX3_same_139 (lv_at hl 1 rfl) ?_
            refine gw_iadd hx hb dX3_same_141 ?_
            refine gw_iald_n hx hb hK hG p_626_1 0 rfl (by omega) (by omega) dX3_same_142 ?_
            refine lv_aload_n hx hb dX3_same_143 rfl (lv_at hl 3 rfl) ?_
            refine gw_get (ci := 4) (C := RX3) (T := TX3) (N := 8) hx hb hts hinX3 hown hK hG p_626_o rfl 4 (by decide) hf18 (fun _ h9 => h9) rfl dX3_same_144 ?_
            refine lv_bipush (v := nI 24) hx hb dX3_same_147 (by decide) ?_
            refine lv_iload_n hx hb dX3_same_149 rfl (lv_at hl 5 rfl) ?_
            refine gw_imul hx hb dX3_same_150 ?_
            refine lv_iload hx hb dX3_same_151 (lv_at hl 1 rfl) ?_
            refine gw_iadd hx hb dX3_same_153 ?_
            refine gw_iald_n hx hb hK hG p_626_1 0 rfl (by omega) (by omega) dX3_same_154 ?_
            refine lv_icmp_ne hx hb (tgt := 162) dX3_same_155 (by decide) (fun hq => ?_) (fun hq => ?_)
            · refine lv_iconst (v := nI 0) hx hb dX3_same_162 (by decide) ?_
              refine lv_istore_n (lv' := [(3, .int (nI 0)), (5, .int (nI 1)), (4, .int (nI i)), (0, .ref mo), (1, .int (nI ra)), (2, .int (nI rb))]) hx hb dX3_same_163 rfl hl (by decide) rfl (fun ls hl => ?_)
              refine lv_iinc (v := nI (i + 1)) (lv' := [(4, .int (nI (i + 1))), (3, .int (nI 0)), (5, .int (nI 1)), (0, .ref mo), (1, .int (nI ra)), (2, .int (nI rb))]) hx hb dX3_same_164 hl (k := 2) rfl (gw_inc _) (by decide) rfl (fun ls hl => ?_)
              refine lv_goto (tgt := 91) hx hb dX3_same_167 (by decide) ?_
              exact ih (i + 1) _ (by omega) (tq_n (fun z => z.elim hd hq)) (by omega) _ rfl _ _ hG ls (lv_sub hl [0, 1, 3, 4, 5] rfl)
            · refine lv_iconst (v := nI 1) hx hb dX3_same_158 (by decide) ?_
              refine lv_goto (tgt := 163) hx hb dX3_same_159 (by decide) ?_
              refine lv_istore_n (lv' := [(3, .int (nI 1)), (5, .int (nI 1)), (4, .int (nI i)), (0, .ref mo), (1, .int (nI ra)), (2, .int (nI rb))]) hx hb dX3_same_163 rfl hl (by decide) rfl (fun ls hl => ?_)
              refine lv_iinc (v := nI (i + 1)) (lv' := [(4, .int (nI (i + 1))), (3, .int (nI 1)), (5, .int (nI 1)), (0, .ref mo), (1, .int (nI ra)), (2, .int (nI rb))]) hx hb dX3_same_164 hl (k := 2) rfl (gw_inc _) (by decide) rfl (fun ls hl => ?_)
              refine lv_goto (tgt := 91) hx hb dX3_same_167 (by decide) ?_
              exact ih (i + 1) _ (by omega) (tq_y hg1 hz (Or.inr hq)) (by omega) _ rfl _ _ hG ls (lv_sub hl [0, 1, 3, 4, 5] rfl)
  have hl1 : ∀ (z9 : Nat) (i : Nat) (a9 : Int32), i ≤ 414 → tst a9 (True ∧ ∀ k, k < i → sm1 tb ra rb k) → 414 + 1 ≤ i + z9 → ∀ (Mi : gw_M), Mi = M_622 → ∀ (H : Heap) (locs : List Loc), gw_B K Mi s.heap H locs → ∀ (ls : Array Slot), lv_has ls 6 [(4, .int (nI i)), (3, .int a9), (0, .ref mo), (1, .int (nI ra)), (2, .int (nI rb))] → W p l e ({ frames := 6, cells := 0, slots := 0, locals := 160 } : Room) s m args below meth c H locs (0) (0) (MQ below (va_Qi (fun r M1 => tst r (((True ∧ ∀ k, k < 414 → sm1 tb ra rb k) ∧ ∀ k, k < 24 → sm2 tb vb ra rb k) ∧ ∀ k, k < 48 → sm3 sb ra rb k) ∧ md K M1 mo ad (nI 0) nn kk tb vb sb fm tq ∧ mfr M M1 mo ad) (gw_I K) (gw_A K)) args s 0 0 (gw_A K)) (F0 m 35 ls []) := by
    intro z9
    induction z9 with
    | zero =>
      intro i a9 hg0 hg1 hm
      exact absurd hm (by omega)
    | succ z9 ih =>
      intro i a9 hg0 hg1 hm Mi hMi H locs hG ls hl
      rw [hMi] at hG
      refine lv_iload hx hb dX3_same_35 (lv_at hl 0 rfl) ?_
      refine lv_sipush (v := nI 414) hx hb dX3_same_37 (by decide) ?_
      refine gw_icmp_ge hx hb (by omega) (by omega) (tgt := 88) dX3_same_40 (by decide) (fun hc => ?_) (fun hc => ?_)
      · have e6 : i = 414 := by omega
        rw [e6] at hg1
        refine lv_iconst (v := nI 0) hx hb dX3_same_88 (by decide) ?_
        refine lv_istore (lv' := [(4, .int (nI 0)), (3, .int a9), (0, .ref mo), (1, .int (nI ra)), (2, .int (nI rb))]) hx hb dX3_same_89 hl (by decide) rfl (fun ls hl => ?_)
        exact hl2 25 0 a9 (by omega) (tq_0 hg1) (by omega) _ rfl _ _ hG ls (lv_sub hl [0, 1, 2, 3, 4] rfl)
      · refine lv_iload_n hx hb dX3_same_43 rfl (lv_at hl 1 rfl) ?_
        refine lv_if_eq hx hb (tgt := 80) dX3_same_44 (by decide) (fun hz => ?_) (fun hz => ?_)
        · refine lv_iconst (v := nI 0) hx hb dX3_same_80 (by decide) ?_
          refine lv_istore_n (lv' := [(3, .int (nI 0)), (4, .int (nI i)), (0, .ref mo), (1, .int (nI ra)), (2, .int (nI rb))]) hx hb dX3_same_81 rfl hl (by decide) rfl (fun ls hl => ?_)
          refine lv_iinc (v := nI (i + 1)) (lv' := [(4, .int (nI (i + 1))), (3, .int (nI 0)), (0, .ref mo), (1, .int (nI ra)), (2, .int (nI rb))]) hx hb dX3_same_82 hl (k := 1) rfl (gw_inc _) (by decide) rfl (fun ls hl => ?_)
          refine lv_goto (tgt := 35) hx hb dX3_same_85 (by decide) ?_
          exact ih (i + 1) _ (by omega) (tq_z hg1 hz) (by omega) _ rfl _ _ hG ls (lv_sub hl [0, 1, 2, 3, 4] rfl)
        · refine lv_aload_n hx hb dX3_same_47 rfl (lv_at hl 2 rfl) ?_
          refine gw_get (ci := 4) (C := RX3) (T := TX3) (N := 8) hx hb hts hinX3 hown hK hG p_626_o rfl 3 (by decide) hf14 (fun _ h9 => h9) rfl dX3_same_48 ?_
          refine lv_sipush (v := nI 414) hx hb dX3_same_51 (by decide) ?_
          refine lv_iload_n hx hb dX3_same_54 rfl (lv_at hl 3 rfl) ?_
          refine gw_imul hx hb dX3_same_55 ?_
          refine lv_iload hx hb dX3_same_56 (lv_at hl 0 rfl) ?_
          refine gw_iadd hx hb dX3_same_58 ?_
          refine gw_iald_n hx hb hK hG p_626_0 0 rfl (by omega) (by omega) dX3_same_59 ?_
          refine lv_aload_n hx hb dX3_same_60 rfl (lv_at hl 2 rfl) ?_
          refine gw_get (ci := 4) (C := RX3) (T := TX3) (N := 8) hx hb hts hinX3 hown hK hG p_626_o rfl 3 (by decide) hf14 (fun _ h9 => h9) rfl dX3_same_61 ?_
          refine lv_sipush (v := nI 414) hx hb dX3_same_64 (by decide) ?_
          refine lv_iload_n hx hb dX3_same_67 rfl (lv_at hl 4 rfl) ?_
          refine gw_imul hx hb dX3_same_68 ?_
          refine lv_iload hx hb dX3_same_69 (lv_at hl 0 rfl) ?_
          refine gw_iadd hx hb dX3_same_71 ?_
          refine gw_iald_n hx hb hK hG p_626_0 0 rfl (by omega) (by omega) dX3_same_72 ?_
          refine lv_icmp_ne hx hb (tgt := 80) dX3_same_73 (by decide) (fun hq => ?_) (fun hq => ?_)
          · refine lv_iconst (v := nI 0) hx hb dX3_same_80 (by decide) ?_
            refine lv_istore_n (lv' := [(3, .int (nI 0)), (4, .int (nI i)), (0, .ref mo), (1, .int (nI ra)), (2, .int (nI rb))]) hx hb dX3_same_81 rfl hl (by decide) rfl (fun ls hl => ?_)
            refine lv_iinc (v := nI (i + 1)) (lv' := [(4, .int (nI (i + 1))), (3, .int (nI 0)), (0, .ref mo), (1, .int (nI ra)), (2, .int (nI rb))]) hx hb dX3_same_82 hl (k := 1) rfl (gw_inc _) (by decide) rfl (fun ls hl => ?_)
            refine lv_goto (tgt := 35) hx hb dX3_same_85 (by decide) ?_
            exact ih (i + 1) _ (by omega) (tq_n hq) (by omega) _ rfl _ _ hG ls (lv_sub hl [0, 1, 2, 3, 4] rfl)
          · refine lv_iconst (v := nI 1) hx hb dX3_same_76 (by decide) ?_
            refine lv_goto (tgt := 81) hx hb dX3_same_77 (by decide) ?_
            refine lv_istore_n (lv' := [(3, .int (nI 1)), (4, .int (nI i)), (0, .ref mo), (1, .int (nI ra)), (2, .int (nI rb))]) hx hb dX3_same_81 rfl hl (by decide) rfl (fun ls hl => ?_)
            refine lv_iinc (v := nI (i + 1)) (lv' := [(4, .int (nI (i + 1))), (3, .int (nI 1)), (0, .ref mo), (1, .int (nI ra)), (2, .int (nI rb))]) hx hb dX3_same_82 hl (k := 1) rfl (gw_inc _) (by decide) rfl (fun ls hl => ?_)
            refine lv_goto (tgt := 35) hx hb dX3_same_85 (by decide) ?_
            exact ih (i + 1) _ (by omega) (tq_y hg1 hz hq) (by omega) _ rfl _ _ hG ls (lv_sub hl [0, 1, 2, 3, 4] rfl)
  exact hl1 415 0 _ (by omega) (tq_0 (Or.inl ⟨rfl, trivial⟩)) (by omega) _ rfl _ _ hG ls (lv_sub hl [0, 1, 2, 3, 4] rfl)

set_option maxHeartbeats 4000000 in
set_option maxRecDepth 100000 in
/-- m_messageN -/
theorem m_messageN (l : Launch) (K : gw_C) (M : gw_M) (mo : Nat) (ad : Nat → Nat) (cd : Int32) (nn kk : Nat) (tb vb : Nat → Int32) (sb : Nat → Int64) (fm tq : Nat → Int32) (i9 : Int32)  (hm : md K M mo ad cd nn kk tb vb sb fm tq)  : Met l yX3_message wsX3_message ({ frames := 6, cells := 0, slots := 0, locals := 160 } : Room) (va_Pc [.ref mo, .int i9, .int ((-1))] (gw_I K M)) (va_Qi (fun r M1 => r = nI nn ∧ md K M1 mo ad (nI 0) nn kk tb vb sb fm tq ∧ mfr M M1 mo ad) (gw_I K) (gw_A K)) 0 0 (gw_A K) := by
  refine Met.ofW (cc := cX3_message) (maxL := 3) (ret := (some .int)) (by decide) rfl ?_
  intro p e s m args below meth c s₁ B hml hv
  obtain ⟨hav, hI⟩ := hv
  have hx := B.exec
  have hb := B.bytes
  have hr := B.returns
  have hts := atoms_spec (ws := wsX3_message) B.pre
  have hown : s.vm.findClass RX3 = some m.cls := findClass_of_methodNamed B.named
  have hlocks : meth.locks = false := B.notSynchronized
  have hT := hI.2.2
  have hK := hT.K
  have hG := hI.B
  have hf7 := hts (.fieldLink RX3 7 "DotGossipModel" "replicas" "I") (by decide +kernel)
  have hf14 := hts (.fieldLink RX3 14 "DotGossipModel" "table" "[I") (by decide +kernel)
  have hf25 := hts (.fieldLink RX3 25 "DotGossipModel" "from" "[I") (by decide +kernel)
  have hf28 := hts (.fieldLink RX3 28 "DotGossipModel" "to" "[I") (by decide +kernel)
  have hf31 := hts (.fieldLink RX3 31 "DotGossipModel" "code" "I") (by decide +kernel)
  have hf41 := hts (.fieldLink RX3 41 "DotGossipModel" "messages" "I") (by decide +kernel)
  have hinX3 : ∀ w ∈ wsX30, w ∈ wsX3_message := by decide +kernel
  have hE : entryFrame m args 3 = entryFrame m ([.ref mo, .int i9, .int ((-1))] : List Value).toArray 3 := by rw [hav]
  rw [hE]
  have hl := lv_entry ([.ref mo, .int i9, .int ((-1))]) (n := 3) (Nat.le_of_ble_eq_true rfl)
  rw [lg_entry_eq]
  generalize (lg_sl ([.ref mo, .int i9, .int ((-1))]) ++ List.replicate (3 - (lg_sl ([.ref mo, .int i9, .int ((-1))])).length) Slot.unset).toArray = ls at hl ⊢
  have hl : lv_has ls 3 [(0, .ref mo), (1, .int i9), (2, .int ((-1)))] := hl
  obtain ⟨p0_b, p0_o, p0_0, p0_1, p0_2, p0_3, p0_4, p0_ne⟩ := id hm
  have ne_o0 : mo ≠ ad 0 := gw_io p0_o p0_0
  have ne_o1 : mo ≠ ad 1 := gw_io p0_o p0_1
  have ne_o2 : mo ≠ ad 2 := gw_io p0_o p0_2
  have ne_o3 : mo ≠ ad 3 := gw_io p0_o p0_3
  have ne_o4 : mo ≠ ad 4 := gw_io p0_o p0_4
  refine lv_iload_n hx hb dX3_message_0 rfl (lv_at hl 2 rfl) ?_
  refine lv_iconst (v := (-1)) hx hb dX3_message_1 (by decide) ?_
  refine lv_icmp_eq hx hb (tgt := 11) dX3_message_2 (by decide) (fun hc => ?_) (fun hc => absurd rfl hc)
  refine lv_aload_n hx hb dX3_message_11 rfl (lv_at hl 0 rfl) ?_
  refine lv_iconst (v := nI 0) hx hb dX3_message_12 (by decide) ?_
  refine gw_put (ci := 4) (v := .int (nI 0)) (ty := .int) (C := RX3) (T := TX3) (N := 8) hx hb hts hinX3 tyX3 tyX3_ok nmX3 hown hK hG p0_o rfl 0 (by decide) hf31 (fun _ h9 => h9) rfl (by decide +kernel) rfl rfl (Nat.le_of_ble_eq_true rfl) dX3_message_13 (fun H locs hG => ?_)
  obtain ⟨M_629, hM_630⟩ : ∃ M1 : gw_M, M1 = gw_up M mo (.inr (4, [.int (nI 0), .int (nI nn), .int (nI kk), .ref (ad 0), .ref (ad 1), .ref (ad 2), .ref (ad 3), .ref (ad 4)])) := ⟨_, rfl⟩
  have hG : gw_B K M_629 s.heap H locs := by rw [hM_630]; exact hG
  have hc_631 : M_629 mo = some (.inr (4, [.int (nI 0), .int (nI nn), .int (nI kk), .ref (ad 0), .ref (ad 1), .ref (ad 2), .ref (ad 3), .ref (ad 4)])) := (congrFun hM_630 _).trans gw_s
  have hc_632 := (congrFun hM_630 (ad 0)).trans (gw_k (Ne.symm ne_o0) p0_0)
  have hc_633 := (congrFun hM_630 (ad 1)).trans (gw_k (Ne.symm ne_o1) p0_1)
  have hc_634 := (congrFun hM_630 (ad 2)).trans (gw_k (Ne.symm ne_o2) p0_2)
  have hc_635 := (congrFun hM_630 (ad 3)).trans (gw_k (Ne.symm ne_o3) p0_3)
  have hc_636 := (congrFun hM_630 (ad 4)).trans (gw_k (Ne.symm ne_o4) p0_4)
  have fr_637 : mfr M M_629 mo ad := fun q h1 h2 => ((congrFun hM_630 q).trans (gw_n h1)).trans (mfr.rf q h1 h2)
  refine lv_iload_n hx hb dX3_message_16 rfl (lv_at hl 2 rfl) ?_
  refine lv_iconst (v := (-1)) hx hb dX3_message_17 (by decide) ?_
  refine lv_icmp_ne hx hb (tgt := 28) dX3_message_18 (by decide) (fun hc => absurd rfl hc) (fun hc => ?_)
  refine lv_aload_n hx hb dX3_message_21 rfl (lv_at hl 0 rfl) ?_
  refine gw_get (ci := 4) (C := RX3) (T := TX3) (N := 8) hx hb hts hinX3 hown hK hG hc_631 rfl 1 (by decide) hf7 (fun _ h9 => h9) rfl dX3_message_22 ?_
  refine lv_goto (tgt := 32) hx hb dX3_message_25 (by decide) ?_
  exact gw_iret hx hb hr hlocks hG hT (by omega) (by omega) dX3_message_32 ⟨rfl, ⟨p0_b, hc_631, hc_632, hc_633, hc_634, hc_635, hc_636, p0_ne⟩, fr_637⟩

set_option maxHeartbeats 4000000 in
set_option maxRecDepth 100000 in
/-- m_messageM -/
theorem m_messageM (l : Launch) (K : gw_C) (M : gw_M) (mo : Nat) (ad : Nat → Nat) (cd : Int32) (nn kk : Nat) (tb vb : Nat → Int32) (sb : Nat → Int64) (fm tq : Nat → Int32) (i9 : Int32)  (hm : md K M mo ad cd nn kk tb vb sb fm tq)  : Met l yX3_message wsX3_message ({ frames := 6, cells := 0, slots := 0, locals := 160 } : Room) (va_Pc [.ref mo, .int i9, .int ((-2))] (gw_I K M)) (va_Qi (fun r M1 => r = nI kk ∧ md K M1 mo ad (nI 0) nn kk tb vb sb fm tq ∧ mfr M M1 mo ad) (gw_I K) (gw_A K)) 0 0 (gw_A K) := by
  refine Met.ofW (cc := cX3_message) (maxL := 3) (ret := (some .int)) (by decide) rfl ?_
  intro p e s m args below meth c s₁ B hml hv
  obtain ⟨hav, hI⟩ := hv
  have hx := B.exec
  have hb := B.bytes
  have hr := B.returns
  have hts := atoms_spec (ws := wsX3_message) B.pre
  have hown : s.vm.findClass RX3 = some m.cls := findClass_of_methodNamed B.named
  have hlocks : meth.locks = false := B.notSynchronized
  have hT := hI.2.2
  have hK := hT.K
  have hG := hI.B
  have hf7 := hts (.fieldLink RX3 7 "DotGossipModel" "replicas" "I") (by decide +kernel)
  have hf14 := hts (.fieldLink RX3 14 "DotGossipModel" "table" "[I") (by decide +kernel)
  have hf25 := hts (.fieldLink RX3 25 "DotGossipModel" "from" "[I") (by decide +kernel)
  have hf28 := hts (.fieldLink RX3 28 "DotGossipModel" "to" "[I") (by decide +kernel)
  have hf31 := hts (.fieldLink RX3 31 "DotGossipModel" "code" "I") (by decide +kernel)
  have hf41 := hts (.fieldLink RX3 41 "DotGossipModel" "messages" "I") (by decide +kernel)
  have hinX3 : ∀ w ∈ wsX30, w ∈ wsX3_message := by decide +kernel
  have hE : entryFrame m args 3 = entryFrame m ([.ref mo, .int i9, .int ((-2))] : List Value).toArray 3 := by rw [hav]
  rw [hE]
  have hl := lv_entry ([.ref mo, .int i9, .int ((-2))]) (n := 3) (Nat.le_of_ble_eq_true rfl)
  rw [lg_entry_eq]
  generalize (lg_sl ([.ref mo, .int i9, .int ((-2))]) ++ List.replicate (3 - (lg_sl ([.ref mo, .int i9, .int ((-2))])).length) Slot.unset).toArray = ls at hl ⊢
  have hl : lv_has ls 3 [(0, .ref mo), (1, .int i9), (2, .int ((-2)))] := hl
  obtain ⟨p0_b, p0_o, p0_0, p0_1, p0_2, p0_3, p0_4, p0_ne⟩ := id hm
  have ne_o0 : mo ≠ ad 0 := gw_io p0_o p0_0
  have ne_o1 : mo ≠ ad 1 := gw_io p0_o p0_1
  have ne_o2 : mo ≠ ad 2 := gw_io p0_o p0_2
  have ne_o3 : mo ≠ ad 3 := gw_io p0_o p0_3
  have ne_o4 : mo ≠ ad 4 := gw_io p0_o p0_4
  refine lv_iload_n hx hb dX3_message_0 rfl (lv_at hl 2 rfl) ?_
  refine lv_iconst (v := (-1)) hx hb dX3_message_1 (by decide) ?_
  refine lv_icmp_eq hx hb (tgt := 11) dX3_message_2 (by decide) (fun hc => absurd hc (by decide)) (fun hc => ?_)
  refine lv_iload_n hx hb dX3_message_5 rfl (lv_at hl 2 rfl) ?_
  refine lv_bipush (v := (-2)) hx hb dX3_message_6 (by decide) ?_
  refine lv_icmp_ne hx hb (tgt := 33) dX3_message_8 (by decide) (fun hc => absurd rfl hc) (fun hc => ?_)
  refine lv_aload_n hx hb dX3_message_11 rfl (lv_at hl 0 rfl) ?_
  refine lv_iconst (v := nI 0) hx hb dX3_message_12 (by decide) ?_
  refine gw_put (ci := 4) (v := .int (nI 0)) (ty := .int) (C := RX3) (T := TX3) (N := 8) hx hb hts hinX3 tyX3 tyX3_ok nmX3 hown hK hG p0_o rfl 0 (by decide) hf31 (fun _ h9 => h9) rfl (by decide +kernel) rfl rfl (Nat.le_of_ble_eq_true rfl) dX3_message_13 (fun H locs hG => ?_)
  obtain ⟨M_638, hM_639⟩ : ∃ M1 : gw_M, M1 = gw_up M mo (.inr (4, [.int (nI 0), .int (nI nn), .int (nI kk), .ref (ad 0), .ref (ad 1), .ref (ad 2), .ref (ad 3), .ref (ad 4)])) := ⟨_, rfl⟩
  have hG : gw_B K M_638 s.heap H locs := by rw [hM_639]; exact hG
  have hc_640 : M_638 mo = some (.inr (4, [.int (nI 0), .int (nI nn), .int (nI kk), .ref (ad 0), .ref (ad 1), .ref (ad 2), .ref (ad 3), .ref (ad 4)])) := (congrFun hM_639 _).trans gw_s
  have hc_641 := (congrFun hM_639 (ad 0)).trans (gw_k (Ne.symm ne_o0) p0_0)
  have hc_642 := (congrFun hM_639 (ad 1)).trans (gw_k (Ne.symm ne_o1) p0_1)
  have hc_643 := (congrFun hM_639 (ad 2)).trans (gw_k (Ne.symm ne_o2) p0_2)
  have hc_644 := (congrFun hM_639 (ad 3)).trans (gw_k (Ne.symm ne_o3) p0_3)
  have hc_645 := (congrFun hM_639 (ad 4)).trans (gw_k (Ne.symm ne_o4) p0_4)
  have fr_646 : mfr M M_638 mo ad := fun q h1 h2 => ((congrFun hM_639 q).trans (gw_n h1)).trans (mfr.rf q h1 h2)
  refine lv_iload_n hx hb dX3_message_16 rfl (lv_at hl 2 rfl) ?_
  refine lv_iconst (v := (-1)) hx hb dX3_message_17 (by decide) ?_
  refine lv_icmp_ne hx hb (tgt := 28) dX3_message_18 (by decide) (fun hc => ?_) (fun hc => absurd hc (by decide))
  refine lv_aload_n hx hb dX3_message_28 rfl (lv_at hl 0 rfl) ?_
  refine gw_get (ci := 4) (C := RX3) (T := TX3) (N := 8) hx hb hts hinX3 hown hK hG hc_640 rfl 2 (by decide) hf41 (fun _ h9 => h9) rfl dX3_message_29 ?_
  exact gw_iret hx hb hr hlocks hG hT (by omega) (by omega) dX3_message_32 ⟨rfl, ⟨p0_b, hc_640, hc_641, hc_642, hc_643, hc_644, hc_645, p0_ne⟩, fr_646⟩

set_option maxHeartbeats 4000000 in
set_option maxRecDepth 100000 in
/-- m_message0 -/
theorem m_message0 (l : Launch) (K : gw_C) (M : gw_M) (mo : Nat) (ad : Nat → Nat) (cd : Int32) (nn kk : Nat) (tb vb : Nat → Int32) (sb : Nat → Int64) (fm tq : Nat → Int32) (ii q : Nat)  (hm : md K M mo ad cd nn kk tb vb sb fm tq) (hii : ii < kk) (hq : q < nn) : Met l yX3_message wsX3_message ({ frames := 6, cells := 0, slots := 0, locals := 160 } : Room) (va_Pc [.ref mo, .int (nI ii), .int (nI 0)] (gw_I K M)) (va_Qi (fun r M1 => r = fm ii ∧ md K M1 mo ad (nI 0) nn kk tb vb sb fm tq ∧ mfr M M1 mo ad) (gw_I K) (gw_A K)) 0 0 (gw_A K) := by
  refine Met.ofW (cc := cX3_message) (maxL := 3) (ret := (some .int)) (by decide) rfl ?_
  intro p e s m args below meth c s₁ B hml hv
  obtain ⟨hav, hI⟩ := hv
  have hx := B.exec
  have hb := B.bytes
  have hr := B.returns
  have hts := atoms_spec (ws := wsX3_message) B.pre
  have hown : s.vm.findClass RX3 = some m.cls := findClass_of_methodNamed B.named
  have hlocks : meth.locks = false := B.notSynchronized
  have hT := hI.2.2
  have hK := hT.K
  have hG := hI.B
  have hf7 := hts (.fieldLink RX3 7 "DotGossipModel" "replicas" "I") (by decide +kernel)
  have hf14 := hts (.fieldLink RX3 14 "DotGossipModel" "table" "[I") (by decide +kernel)
  have hf25 := hts (.fieldLink RX3 25 "DotGossipModel" "from" "[I") (by decide +kernel)
  have hf28 := hts (.fieldLink RX3 28 "DotGossipModel" "to" "[I") (by decide +kernel)
  have hf31 := hts (.fieldLink RX3 31 "DotGossipModel" "code" "I") (by decide +kernel)
  have hf41 := hts (.fieldLink RX3 41 "DotGossipModel" "messages" "I") (by decide +kernel)
  have hinX3 : ∀ w ∈ wsX30, w ∈ wsX3_message := by decide +kernel
  have hE : entryFrame m args 3 = entryFrame m ([.ref mo, .int (nI ii), .int (nI 0)] : List Value).toArray 3 := by rw [hav]
  rw [hE]
  have hl := lv_entry ([.ref mo, .int (nI ii), .int (nI 0)]) (n := 3) (Nat.le_of_ble_eq_true rfl)
  rw [lg_entry_eq]
  generalize (lg_sl ([.ref mo, .int (nI ii), .int (nI 0)]) ++ List.replicate (3 - (lg_sl ([.ref mo, .int (nI ii), .int (nI 0)])).length) Slot.unset).toArray = ls at hl ⊢
  have hl : lv_has ls 3 [(0, .ref mo), (1, .int (nI ii)), (2, .int (nI 0))] := hl
  obtain ⟨p0_b, p0_o, p0_0, p0_1, p0_2, p0_3, p0_4, p0_ne⟩ := id hm
  have ne_o0 : mo ≠ ad 0 := gw_io p0_o p0_0
  have ne_o1 : mo ≠ ad 1 := gw_io p0_o p0_1
  have ne_o2 : mo ≠ ad 2 := gw_io p0_o p0_2
  have ne_o3 : mo ≠ ad 3 := gw_io p0_o p0_3
  have ne_o4 : mo ≠ ad 4 := gw_io p0_o p0_4
  have hn6 := p0_b.1
  have hk100 := p0_b.2
  refine lv_iload_n hx hb dX3_message_0 rfl (lv_at hl 2 rfl) ?_
  refine lv_iconst (v := (-1)) hx hb dX3_message_1 (by decide) ?_
  refine lv_icmp_eq hx hb (tgt := 11) dX3_message_2 (by decide) (fun hc => absurd hc (nI_ne1 (by omega))) (fun hc => ?_)
  refine lv_iload_n hx hb dX3_message_5 rfl (lv_at hl 2 rfl) ?_
  refine lv_bipush (v := (-2)) hx hb dX3_message_6 (by decide) ?_
  refine lv_icmp_ne hx hb (tgt := 33) dX3_message_8 (by decide) (fun hc => ?_) (fun hc => absurd hc (nI_ne2 (by omega)))
  refine lv_aload_n hx hb dX3_message_33 rfl (lv_at hl 0 rfl) ?_
  refine lv_aload_n hx hb dX3_message_34 rfl (lv_at hl 0 rfl) ?_
  refine lv_iload_n hx hb dX3_message_35 rfl (lv_at hl 1 rfl) ?_
  refine gw_calli (va_runV (As := [.int (nI ii)]) (rest := [.ref mo]) ⟨hx, hb, hml, hown, hts⟩ (c_isMsg l K M mo ad _ _ _ _ _ _ _ _ (nI ii) hm) (cwV 1 hts gX3_message_X3_isMessage rfl rfl rfl (by decide +kernel) ⟨Nat.le_of_ble_eq_true rfl, Nat.le_of_ble_eq_true rfl⟩) (gw_preV hG hT p0_o rfl) rfl rfl hl.1 rfl (lv_room (Nat.le_of_ble_eq_true rfl)) dX3_message_36 ⟨Nat.le_of_ble_eq_true rfl, Nat.le_of_ble_eq_true rfl⟩) hG (fun r_647 M_648 H locs hw hG => ?_)
  rw [hw.1] at hG
  refine gw_as (tst_y hw.2 ⟨ii, hii, rfl⟩) ?_
  refine lv_if_eq hx hb (tgt := 60) dX3_message_39 (by decide) (fun hc => absurd hc (by decide)) (fun hc => ?_)
  refine lv_iload_n hx hb dX3_message_42 rfl (lv_at hl 2 rfl) ?_
  refine lv_if_lt hx hb (tgt := 60) dX3_message_43 (by decide) (fun hc => absurd hc (nI_pos (by omega))) (fun hc => ?_)
  refine lv_iload_n hx hb dX3_message_46 rfl (lv_at hl 2 rfl) ?_
  refine lv_aload_n hx hb dX3_message_47 rfl (lv_at hl 0 rfl) ?_
  refine gw_get (ci := 4) (C := RX3) (T := TX3) (N := 8) hx hb hts hinX3 hown hK hG p0_o rfl 1 (by decide) hf7 (fun _ h9 => h9) rfl dX3_message_48 ?_
  refine lv_iconst (v := nI 2) hx hb dX3_message_51 (by decide) ?_
  refine gw_iadd hx hb dX3_message_52 ?_
  refine gw_icmp_ge hx hb (by omega) (by omega) (tgt := 60) dX3_message_53 (by decide) (fun hc => absurd hc (by omega)) (fun hc => ?_)
  refine lv_iconst (v := nI 0) hx hb dX3_message_56 (by decide) ?_
  refine lv_goto (tgt := 61) hx hb dX3_message_57 (by decide) ?_
  refine gw_calli (va_runV (As := [.int (nI 0)]) (rest := []) ⟨hx, hb, hml, hown, hts⟩ (c_ref0 l K M mo ad _ _ _ _ _ _ _ _ 0 hm) (cwV 1 hts gX3_message_X3_refuses rfl rfl rfl (by decide +kernel) ⟨Nat.le_of_ble_eq_true rfl, Nat.le_of_ble_eq_true rfl⟩) (gw_preV hG hT p0_o rfl) rfl rfl hl.1 rfl (lv_room (Nat.le_of_ble_eq_true rfl)) dX3_message_61 ⟨Nat.le_of_ble_eq_true rfl, Nat.le_of_ble_eq_true rfl⟩) hG (fun r_649 M_650 H locs hw hG => ?_)
  rw [hw.1]
  obtain ⟨hm_651, fr_652⟩ := hw.2
  have fr_653 : mfr M M_650 mo ad := mfr.tr mfr.rf fr_652
  obtain ⟨p_654_b, p_654_o, p_654_0, p_654_1, p_654_2, p_654_3, p_654_4, p_654_ne⟩ := id hm_651
  refine lv_if_eq hx hb (tgt := 69) dX3_message_64 (by decide) (fun hc => ?_) (fun hc => absurd (by decide) hc)
  refine lv_iload_n hx hb dX3_message_69 rfl (lv_at hl 2 rfl) ?_
  refine lv_if_ne hx hb (tgt := 82) dX3_message_70 (by decide) (fun hc => absurd rfl hc) (fun hc => ?_)
  refine lv_aload_n hx hb dX3_message_73 rfl (lv_at hl 0 rfl) ?_
  refine gw_get (ci := 4) (C := RX3) (T := TX3) (N := 8) hx hb hts hinX3 hown hK hG p_654_o rfl 6 (by decide) hf25 (fun _ h9 => h9) rfl dX3_message_74 ?_
  refine lv_iload_n hx hb dX3_message_77 rfl (lv_at hl 1 rfl) ?_
  refine gw_iald_n hx hb hK hG p_654_3 0 rfl (by omega) (by omega) dX3_message_78 ?_
  refine lv_goto (tgt := 111) hx hb dX3_message_79 (by decide) ?_
  exact gw_iret hx hb hr hlocks hG hT (by omega) (by omega) dX3_message_111 ⟨rfl, ⟨p0_b, p_654_o, p_654_0, p_654_1, p_654_2, p_654_3, p_654_4, p0_ne⟩, fr_653⟩

set_option maxHeartbeats 4000000 in
set_option maxRecDepth 100000 in
/-- m_message1 -/
theorem m_message1 (l : Launch) (K : gw_C) (M : gw_M) (mo : Nat) (ad : Nat → Nat) (cd : Int32) (nn kk : Nat) (tb vb : Nat → Int32) (sb : Nat → Int64) (fm tq : Nat → Int32) (ii q : Nat)  (hm : md K M mo ad cd nn kk tb vb sb fm tq) (hii : ii < kk) (hq : q < nn) : Met l yX3_message wsX3_message ({ frames := 6, cells := 0, slots := 0, locals := 160 } : Room) (va_Pc [.ref mo, .int (nI ii), .int (nI 1)] (gw_I K M)) (va_Qi (fun r M1 => r = tq ii ∧ md K M1 mo ad (nI 0) nn kk tb vb sb fm tq ∧ mfr M M1 mo ad) (gw_I K) (gw_A K)) 0 0 (gw_A K) := by
  refine Met.ofW (cc := cX3_message) (maxL := 3) (ret := (some .int)) (by decide) rfl ?_
  intro p e s m args below meth c s₁ B hml hv
  obtain ⟨hav, hI⟩ := hv
  have hx := B.exec
  have hb := B.bytes
  have hr := B.returns
  have hts := atoms_spec (ws := wsX3_message) B.pre
  have hown : s.vm.findClass RX3 = some m.cls := findClass_of_methodNamed B.named
  have hlocks : meth.locks = false := B.notSynchronized
  have hT := hI.2.2
  have hK := hT.K
  have hG := hI.B
  have hf7 := hts (.fieldLink RX3 7 "DotGossipModel" "replicas" "I") (by decide +kernel)
  have hf14 := hts (.fieldLink RX3 14 "DotGossipModel" "table" "[I") (by decide +kernel)
  have hf25 := hts (.fieldLink RX3 25 "DotGossipModel" "from" "[I") (by decide +kernel)
  have hf28 := hts (.fieldLink RX3 28 "DotGossipModel" "to" "[I") (by decide +kernel)
  have hf31 := hts (.fieldLink RX3 31 "DotGossipModel" "code" "I") (by decide +kernel)
  have hf41 := hts (.fieldLink RX3 41 "DotGossipModel" "messages" "I") (by decide +kernel)
  have hinX3 : ∀ w ∈ wsX30, w ∈ wsX3_message := by decide +kernel
  have hE : entryFrame m args 3 = entryFrame m ([.ref mo, .int (nI ii), .int (nI 1)] : List Value).toArray 3 := by rw [hav]
  rw [hE]
  have hl := lv_entry ([.ref mo, .int (nI ii), .int (nI 1)]) (n := 3) (Nat.le_of_ble_eq_true rfl)
  rw [lg_entry_eq]
  generalize (lg_sl ([.ref mo, .int (nI ii), .int (nI 1)]) ++ List.replicate (3 - (lg_sl ([.ref mo, .int (nI ii), .int (nI 1)])).length) Slot.unset).toArray = ls at hl ⊢
  have hl : lv_has ls 3 [(0, .ref mo), (1, .int (nI ii)), (2, .int (nI 1))] := hl
  obtain ⟨p0_b, p0_o, p0_0, p0_1, p0_2, p0_3, p0_4, p0_ne⟩ := id hm
  have ne_o0 : mo ≠ ad 0 := gw_io p0_o p0_0
  have ne_o1 : mo ≠ ad 1 := gw_io p0_o p0_1
  have ne_o2 : mo ≠ ad 2 := gw_io p0_o p0_2
  have ne_o3 : mo ≠ ad 3 := gw_io p0_o p0_3
  have ne_o4 : mo ≠ ad 4 := gw_io p0_o p0_4
  have hn6 := p0_b.1
  have hk100 := p0_b.2
  refine lv_iload_n hx hb dX3_message_0 rfl (lv_at hl 2 rfl) ?_
  refine lv_iconst (v := (-1)) hx hb dX3_message_1 (by decide) ?_
  refine lv_icmp_eq hx hb (tgt := 11) dX3_message_2 (by decide) (fun hc => absurd hc (nI_ne1 (by omega))) (fun hc => ?_)
  refine lv_iload_n hx hb dX3_message_5 rfl (lv_at hl 2 rfl) ?_
  refine lv_bipush (v := (-2)) hx hb dX3_message_6 (by decide) ?_
  refine lv_icmp_ne hx hb (tgt := 33) dX3_message_8 (by decide) (fun hc => ?_) (fun hc => absurd hc (nI_ne2 (by omega)))
  refine lv_aload_n hx hb dX3_message_33 rfl (lv_at hl 0 rfl) ?_
  refine lv_aload_n hx hb dX3_message_34 rfl (lv_at hl 0 rfl) ?_
  refine lv_iload_n hx hb dX3_message_35 rfl (lv_at hl 1 rfl) ?_
  refine gw_calli (va_runV (As := [.int (nI ii)]) (rest := [.ref mo]) ⟨hx, hb, hml, hown, hts⟩ (c_isMsg l K M mo ad _ _ _ _ _ _ _ _ (nI ii) hm) (cwV 1 hts gX3_message_X3_isMessage rfl rfl rfl (by decide +kernel) ⟨Nat.le_of_ble_eq_true rfl, Nat.le_of_ble_eq_true rfl⟩) (gw_preV hG hT p0_o rfl) rfl rfl hl.1 rfl (lv_room (Nat.le_of_ble_eq_true rfl)) dX3_message_36 ⟨Nat.le_of_ble_eq_true rfl, Nat.le_of_ble_eq_true rfl⟩) hG (fun r_655 M_656 H locs hw hG => ?_)
  rw [hw.1] at hG
  refine gw_as (tst_y hw.2 ⟨ii, hii, rfl⟩) ?_
  refine lv_if_eq hx hb (tgt := 60) dX3_message_39 (by decide) (fun hc => absurd hc (by decide)) (fun hc => ?_)
  refine lv_iload_n hx hb dX3_message_42 rfl (lv_at hl 2 rfl) ?_
  refine lv_if_lt hx hb (tgt := 60) dX3_message_43 (by decide) (fun hc => absurd hc (nI_pos (by omega))) (fun hc => ?_)
  refine lv_iload_n hx hb dX3_message_46 rfl (lv_at hl 2 rfl) ?_
  refine lv_aload_n hx hb dX3_message_47 rfl (lv_at hl 0 rfl) ?_
  refine gw_get (ci := 4) (C := RX3) (T := TX3) (N := 8) hx hb hts hinX3 hown hK hG p0_o rfl 1 (by decide) hf7 (fun _ h9 => h9) rfl dX3_message_48 ?_
  refine lv_iconst (v := nI 2) hx hb dX3_message_51 (by decide) ?_
  refine gw_iadd hx hb dX3_message_52 ?_
  refine gw_icmp_ge hx hb (by omega) (by omega) (tgt := 60) dX3_message_53 (by decide) (fun hc => absurd hc (by omega)) (fun hc => ?_)
  refine lv_iconst (v := nI 0) hx hb dX3_message_56 (by decide) ?_
  refine lv_goto (tgt := 61) hx hb dX3_message_57 (by decide) ?_
  refine gw_calli (va_runV (As := [.int (nI 0)]) (rest := []) ⟨hx, hb, hml, hown, hts⟩ (c_ref0 l K M mo ad _ _ _ _ _ _ _ _ 0 hm) (cwV 1 hts gX3_message_X3_refuses rfl rfl rfl (by decide +kernel) ⟨Nat.le_of_ble_eq_true rfl, Nat.le_of_ble_eq_true rfl⟩) (gw_preV hG hT p0_o rfl) rfl rfl hl.1 rfl (lv_room (Nat.le_of_ble_eq_true rfl)) dX3_message_61 ⟨Nat.le_of_ble_eq_true rfl, Nat.le_of_ble_eq_true rfl⟩) hG (fun r_657 M_658 H locs hw hG => ?_)
  rw [hw.1]
  obtain ⟨hm_659, fr_660⟩ := hw.2
  have fr_661 : mfr M M_658 mo ad := mfr.tr mfr.rf fr_660
  obtain ⟨p_662_b, p_662_o, p_662_0, p_662_1, p_662_2, p_662_3, p_662_4, p_662_ne⟩ := id hm_659
  refine lv_if_eq hx hb (tgt := 69) dX3_message_64 (by decide) (fun hc => ?_) (fun hc => absurd (by decide) hc)
  refine lv_iload_n hx hb dX3_message_69 rfl (lv_at hl 2 rfl) ?_
  refine lv_if_ne hx hb (tgt := 82) dX3_message_70 (by decide) (fun hc => ?_) (fun hc => absurd hc (nI_ne0 (by omega) (by omega)))
  refine lv_iload_n hx hb dX3_message_82 rfl (lv_at hl 2 rfl) ?_
  refine lv_iconst (v := nI 1) hx hb dX3_message_83 (by decide) ?_
  refine gw_icmp_ne hx hb (by omega) (by omega) (tgt := 96) dX3_message_84 (by decide) (fun hc => absurd rfl hc) (fun hc => ?_)
  refine lv_aload_n hx hb dX3_message_87 rfl (lv_at hl 0 rfl) ?_
  refine gw_get (ci := 4) (C := RX3) (T := TX3) (N := 8) hx hb hts hinX3 hown hK hG p_662_o rfl 7 (by decide) hf28 (fun _ h9 => h9) rfl dX3_message_88 ?_
  refine lv_iload_n hx hb dX3_message_91 rfl (lv_at hl 1 rfl) ?_
  refine gw_iald_n hx hb hK hG p_662_4 0 rfl (by omega) (by omega) dX3_message_92 ?_
  refine lv_goto (tgt := 111) hx hb dX3_message_93 (by decide) ?_
  exact gw_iret hx hb hr hlocks hG hT (by omega) (by omega) dX3_message_111 ⟨rfl, ⟨p0_b, p_662_o, p_662_0, p_662_1, p_662_2, p_662_3, p_662_4, p0_ne⟩, fr_661⟩

set_option maxHeartbeats 4000000 in
set_option maxRecDepth 100000 in
/-- m_messageV -/
theorem m_messageV (l : Launch) (K : gw_C) (M : gw_M) (mo : Nat) (ad : Nat → Nat) (cd : Int32) (nn kk : Nat) (tb vb : Nat → Int32) (sb : Nat → Int64) (fm tq : Nat → Int32) (ii q : Nat)  (hm : md K M mo ad cd nn kk tb vb sb fm tq) (hii : ii < kk) (hq : q < nn) : Met l yX3_message wsX3_message ({ frames := 6, cells := 0, slots := 0, locals := 160 } : Room) (va_Pc [.ref mo, .int (nI ii), .int (nI (q + 2))] (gw_I K M)) (va_Qi (fun r M1 => r = tb (414 * (6 + ii) + q) ∧ md K M1 mo ad (nI 0) nn kk tb vb sb fm tq ∧ mfr M M1 mo ad) (gw_I K) (gw_A K)) 0 0 (gw_A K) := by
  refine Met.ofW (cc := cX3_message) (maxL := 3) (ret := (some .int)) (by decide) rfl ?_
  intro p e s m args below meth c s₁ B hml hv
  obtain ⟨hav, hI⟩ := hv
  have hx := B.exec
  have hb := B.bytes
  have hr := B.returns
  have hts := atoms_spec (ws := wsX3_message) B.pre
  have hown : s.vm.findClass RX3 = some m.cls := findClass_of_methodNamed B.named
  have hlocks : meth.locks = false := B.notSynchronized
  have hT := hI.2.2
  have hK := hT.K
  have hG := hI.B
  have hf7 := hts (.fieldLink RX3 7 "DotGossipModel" "replicas" "I") (by decide +kernel)
  have hf14 := hts (.fieldLink RX3 14 "DotGossipModel" "table" "[I") (by decide +kernel)
  have hf25 := hts (.fieldLink RX3 25 "DotGossipModel" "from" "[I") (by decide +kernel)
  have hf28 := hts (.fieldLink RX3 28 "DotGossipModel" "to" "[I") (by decide +kernel)
  have hf31 := hts (.fieldLink RX3 31 "DotGossipModel" "code" "I") (by decide +kernel)
  have hf41 := hts (.fieldLink RX3 41 "DotGossipModel" "messages" "I") (by decide +kernel)
  have hinX3 : ∀ w ∈ wsX30, w ∈ wsX3_message := by decide +kernel
  have hE : entryFrame m args 3 = entryFrame m ([.ref mo, .int (nI ii), .int (nI (q + 2))] : List Value).toArray 3 := by rw [hav]
  rw [hE]
  have hl := lv_entry ([.ref mo, .int (nI ii), .int (nI (q + 2))]) (n := 3) (Nat.le_of_ble_eq_true rfl)
  rw [lg_entry_eq]
  generalize (lg_sl ([.ref mo, .int (nI ii), .int (nI (q + 2))]) ++ List.replicate (3 - (lg_sl ([.ref mo, .int (nI ii), .int (nI (q + 2))])).length) Slot.unset).toArray = ls at hl ⊢
  have hl : lv_has ls 3 [(0, .ref mo), (1, .int (nI ii)), (2, .int (nI (q + 2)))] := hl
  obtain ⟨p0_b, p0_o, p0_0, p0_1, p0_2, p0_3, p0_4, p0_ne⟩ := id hm
  have ne_o0 : mo ≠ ad 0 := gw_io p0_o p0_0
  have ne_o1 : mo ≠ ad 1 := gw_io p0_o p0_1
  have ne_o2 : mo ≠ ad 2 := gw_io p0_o p0_2
  have ne_o3 : mo ≠ ad 3 := gw_io p0_o p0_3
  have ne_o4 : mo ≠ ad 4 := gw_io p0_o p0_4
  have hn6 := p0_b.1
  have hk100 := p0_b.2
  refine lv_iload_n hx hb dX3_message_0 rfl (lv_at hl 2 rfl) ?_
  refine lv_iconst (v := (-1)) hx hb dX3_message_1 (by decide) ?_
  refine lv_icmp_eq hx hb (tgt := 11) dX3_message_2 (by decide) (fun hc => absurd hc (nI_ne1 (by omega))) (fun hc => ?_)
  refine lv_iload_n hx hb dX3_message_5 rfl (lv_at hl 2 rfl) ?_
  refine lv_bipush (v := (-2)) hx hb dX3_message_6 (by decide) ?_
  refine lv_icmp_ne hx hb (tgt := 33) dX3_message_8 (by decide) (fun hc => ?_) (fun hc => absurd hc (nI_ne2 (by omega)))
  refine lv_aload_n hx hb dX3_message_33 rfl (lv_at hl 0 rfl) ?_
  refine lv_aload_n hx hb dX3_message_34 rfl (lv_at hl 0 rfl) ?_
  refine lv_iload_n hx hb dX3_message_35 rfl (lv_at hl 1 rfl) ?_
  refine gw_calli (va_runV (As := [.int (nI ii)]) (rest := [.ref mo]) ⟨hx, hb, hml, hown, hts⟩ (c_isMsg l K M mo ad _ _ _ _ _ _ _ _ (nI ii) hm) (cwV 1 hts gX3_message_X3_isMessage rfl rfl rfl (by decide +kernel) ⟨Nat.le_of_ble_eq_true rfl, Nat.le_of_ble_eq_true rfl⟩) (gw_preV hG hT p0_o rfl) rfl rfl hl.1 rfl (lv_room (Nat.le_of_ble_eq_true rfl)) dX3_message_36 ⟨Nat.le_of_ble_eq_true rfl, Nat.le_of_ble_eq_true rfl⟩) hG (fun r_663 M_664 H locs hw hG => ?_)
  rw [hw.1] at hG
  refine gw_as (tst_y hw.2 ⟨ii, hii, rfl⟩) ?_
  refine lv_if_eq hx hb (tgt := 60) dX3_message_39 (by decide) (fun hc => absurd hc (by decide)) (fun hc => ?_)
  refine lv_iload_n hx hb dX3_message_42 rfl (lv_at hl 2 rfl) ?_
  refine lv_if_lt hx hb (tgt := 60) dX3_message_43 (by decide) (fun hc => absurd hc (nI_pos (by omega))) (fun hc => ?_)
  refine lv_iload_n hx hb dX3_message_46 rfl (lv_at hl 2 rfl) ?_
  refine lv_aload_n hx hb dX3_message_47 rfl (lv_at hl 0 rfl) ?_
  refine gw_get (ci := 4) (C := RX3) (T := TX3) (N := 8) hx hb hts hinX3 hown hK hG p0_o rfl 1 (by decide) hf7 (fun _ h9 => h9) rfl dX3_message_48 ?_
  refine lv_iconst (v := nI 2) hx hb dX3_message_51 (by decide) ?_
  refine gw_iadd hx hb dX3_message_52 ?_
  refine gw_icmp_ge hx hb (by omega) (by omega) (tgt := 60) dX3_message_53 (by decide) (fun hc => absurd hc (by omega)) (fun hc => ?_)
  refine lv_iconst (v := nI 0) hx hb dX3_message_56 (by decide) ?_
  refine lv_goto (tgt := 61) hx hb dX3_message_57 (by decide) ?_
  refine gw_calli (va_runV (As := [.int (nI 0)]) (rest := []) ⟨hx, hb, hml, hown, hts⟩ (c_ref0 l K M mo ad _ _ _ _ _ _ _ _ 0 hm) (cwV 1 hts gX3_message_X3_refuses rfl rfl rfl (by decide +kernel) ⟨Nat.le_of_ble_eq_true rfl, Nat.le_of_ble_eq_true rfl⟩) (gw_preV hG hT p0_o rfl) rfl rfl hl.1 rfl (lv_room (Nat.le_of_ble_eq_true rfl)) dX3_message_61 ⟨Nat.le_of_ble_eq_true rfl, Nat.le_of_ble_eq_true rfl⟩) hG (fun r_665 M_666 H locs hw hG => ?_)
  rw [hw.1]
  obtain ⟨hm_667, fr_668⟩ := hw.2
  have fr_669 : mfr M M_666 mo ad := mfr.tr mfr.rf fr_668
  obtain ⟨p_670_b, p_670_o, p_670_0, p_670_1, p_670_2, p_670_3, p_670_4, p_670_ne⟩ := id hm_667
  refine lv_if_eq hx hb (tgt := 69) dX3_message_64 (by decide) (fun hc => ?_) (fun hc => absurd (by decide) hc)
  refine lv_iload_n hx hb dX3_message_69 rfl (lv_at hl 2 rfl) ?_
  refine lv_if_ne hx hb (tgt := 82) dX3_message_70 (by decide) (fun hc => ?_) (fun hc => absurd hc (nI_ne0 (by omega) (by omega)))
  refine lv_iload_n hx hb dX3_message_82 rfl (lv_at hl 2 rfl) ?_
  refine lv_iconst (v := nI 1) hx hb dX3_message_83 (by decide) ?_
  refine gw_icmp_ne hx hb (by omega) (by omega) (tgt := 96) dX3_message_84 (by decide) (fun hc => ?_) (fun hc => absurd hc (by omega))
  refine lv_aload_n hx hb dX3_message_96 rfl (lv_at hl 0 rfl) ?_
  refine gw_get (ci := 4) (C := RX3) (T := TX3) (N := 8) hx hb hts hinX3 hown hK hG p_670_o rfl 3 (by decide) hf14 (fun _ h9 => h9) rfl dX3_message_97 ?_
  refine lv_bipush (v := nI 6) hx hb dX3_message_100 (by decide) ?_
  refine lv_iload_n hx hb dX3_message_102 rfl (lv_at hl 1 rfl) ?_
  refine gw_iadd hx hb dX3_message_103 ?_
  refine lv_iload_n hx hb dX3_message_104 rfl (lv_at hl 2 rfl) ?_
  refine lv_iconst (v := nI 2) hx hb dX3_message_105 (by decide) ?_
  refine gw_isub hx hb (by omega) dX3_message_106 ?_
  rw [show q + 2 - 2 = q by omega]
  refine gw_calli (va_runS (As := [.int (nI (6 + ii)), .int (nI q)]) (rest := [.ref (ad 0)]) ⟨hx, hb, hml, hown, hts⟩ (c_vectorAt l K M_666 (6 + ii) q) (va_cwS 2 hts gX3_message_X3_vectorAt rfl rfl rfl (by decide +kernel) ⟨Nat.le_of_ble_eq_true rfl, Nat.le_of_ble_eq_true rfl⟩) (gw_preS hG hT) rfl rfl hl.1 rfl (lv_room (Nat.le_of_ble_eq_true rfl)) dX3_message_107 ⟨Nat.le_of_ble_eq_true rfl, Nat.le_of_ble_eq_true rfl⟩) hG (fun r_671 M_672 H locs hw hG => ?_)
  rw [hw.1] at hG
  refine gw_as hw.2 ?_
  refine gw_iald_n hx hb hK hG p_670_0 0 rfl (by omega) (by omega) dX3_message_110 ?_
  exact gw_iret hx hb hr hlocks hG hT (by omega) (by omega) dX3_message_111 ⟨rfl, ⟨p0_b, p_670_o, p_670_0, p_670_1, p_670_2, p_670_3, p_670_4, p0_ne⟩, fr_669⟩

set_option maxHeartbeats 4000000 in
set_option maxRecDepth 100000 in
/-- m_message_no -/
theorem m_message_no (l : Launch) (K : gw_C) (M : gw_M) (mo : Nat) (ad : Nat → Nat) (cd : Int32) (nn kk : Nat) (tb vb : Nat → Int32) (sb : Nat → Int64) (fm tq : Nat → Int32) (i9 q9 : Int32)  (hm : md K M mo ad cd nn kk tb vb sb fm tq) (hq1 : q9 ≠ -1) (hq2 : q9 ≠ -2) (hP : ¬ (inN i9 kk ∧ inN q9 (nn + 2))) : Met l yX3_message wsX3_message ({ frames := 6, cells := 0, slots := 0, locals := 160 } : Room) (va_Pc [.ref mo, .int i9, .int q9] (gw_I K M)) (va_Qi (fun r M1 => md K M1 mo ad (nI 1) nn kk tb vb sb fm tq ∧ mfr M M1 mo ad) (gw_I K) (gw_A K)) 0 0 (gw_A K) := by
  refine Met.ofW (cc := cX3_message) (maxL := 3) (ret := (some .int)) (by decide) rfl ?_
  intro p e s m args below meth c s₁ B hml hv
  obtain ⟨hav, hI⟩ := hv
  have hx := B.exec
  have hb := B.bytes
  have hr := B.returns
  have hts := atoms_spec (ws := wsX3_message) B.pre
  have hown : s.vm.findClass RX3 = some m.cls := findClass_of_methodNamed B.named
  have hlocks : meth.locks = false := B.notSynchronized
  have hT := hI.2.2
  have hK := hT.K
  have hG := hI.B
  have hf7 := hts (.fieldLink RX3 7 "DotGossipModel" "replicas" "I") (by decide +kernel)
  have hf14 := hts (.fieldLink RX3 14 "DotGossipModel" "table" "[I") (by decide +kernel)
  have hf25 := hts (.fieldLink RX3 25 "DotGossipModel" "from" "[I") (by decide +kernel)
  have hf28 := hts (.fieldLink RX3 28 "DotGossipModel" "to" "[I") (by decide +kernel)
  have hf31 := hts (.fieldLink RX3 31 "DotGossipModel" "code" "I") (by decide +kernel)
  have hf41 := hts (.fieldLink RX3 41 "DotGossipModel" "messages" "I") (by decide +kernel)
  have hinX3 : ∀ w ∈ wsX30, w ∈ wsX3_message := by decide +kernel
  have hE : entryFrame m args 3 = entryFrame m ([.ref mo, .int i9, .int q9] : List Value).toArray 3 := by rw [hav]
  rw [hE]
  have hl := lv_entry ([.ref mo, .int i9, .int q9]) (n := 3) (Nat.le_of_ble_eq_true rfl)
  rw [lg_entry_eq]
  generalize (lg_sl ([.ref mo, .int i9, .int q9]) ++ List.replicate (3 - (lg_sl ([.ref mo, .int i9, .int q9])).length) Slot.unset).toArray = ls at hl ⊢
  have hl : lv_has ls 3 [(0, .ref mo), (1, .int i9), (2, .int q9)] := hl
  obtain ⟨p0_b, p0_o, p0_0, p0_1, p0_2, p0_3, p0_4, p0_ne⟩ := id hm
  have ne_o0 : mo ≠ ad 0 := gw_io p0_o p0_0
  have ne_o1 : mo ≠ ad 1 := gw_io p0_o p0_1
  have ne_o2 : mo ≠ ad 2 := gw_io p0_o p0_2
  have ne_o3 : mo ≠ ad 3 := gw_io p0_o p0_3
  have ne_o4 : mo ≠ ad 4 := gw_io p0_o p0_4
  have hn6 := p0_b.1
  refine lv_iload_n hx hb dX3_message_0 rfl (lv_at hl 2 rfl) ?_
  refine lv_iconst (v := (-1)) hx hb dX3_message_1 (by decide) ?_
  refine lv_icmp_eq hx hb (tgt := 11) dX3_message_2 (by decide) (fun hc => absurd hc hq1) (fun hc => ?_)
  refine lv_iload_n hx hb dX3_message_5 rfl (lv_at hl 2 rfl) ?_
  refine lv_bipush (v := (-2)) hx hb dX3_message_6 (by decide) ?_
  refine lv_icmp_ne hx hb (tgt := 33) dX3_message_8 (by decide) (fun hc => ?_) (fun hc => absurd hc hq2)
  refine lv_aload_n hx hb dX3_message_33 rfl (lv_at hl 0 rfl) ?_
  refine lv_aload_n hx hb dX3_message_34 rfl (lv_at hl 0 rfl) ?_
  refine lv_iload_n hx hb dX3_message_35 rfl (lv_at hl 1 rfl) ?_
  refine gw_calli (va_runV (As := [.int i9]) (rest := [.ref mo]) ⟨hx, hb, hml, hown, hts⟩ (c_isMsg l K M mo ad _ _ _ _ _ _ _ _ i9 hm) (cwV 1 hts gX3_message_X3_isMessage rfl rfl rfl (by decide +kernel) ⟨Nat.le_of_ble_eq_true rfl, Nat.le_of_ble_eq_true rfl⟩) (gw_preV hG hT p0_o rfl) rfl rfl hl.1 rfl (lv_room (Nat.le_of_ble_eq_true rfl)) dX3_message_36 ⟨Nat.le_of_ble_eq_true rfl, Nat.le_of_ble_eq_true rfl⟩) hG (fun r_673 M_674 H locs hw hG => ?_)
  have h1 := hw.2
  rw [hw.1] at hG
  refine lv_if_eq hx hb (tgt := 60) dX3_message_39 (by decide) (fun hz1 => ?_) (fun hz1 => ?_)
  · refine lv_iconst (v := nI 1) hx hb dX3_message_60 (by decide) ?_
    refine gw_calli (va_runV (As := [.int (nI 1)]) (rest := []) ⟨hx, hb, hml, hown, hts⟩ (c_refp l K M mo ad _ _ _ _ _ _ _ _ 1 hm (by decide)) (cwV 1 hts gX3_message_X3_refuses rfl rfl rfl (by decide +kernel) ⟨Nat.le_of_ble_eq_true rfl, Nat.le_of_ble_eq_true rfl⟩) (gw_preV hG hT p0_o rfl) rfl rfl hl.1 rfl (lv_room (Nat.le_of_ble_eq_true rfl)) dX3_message_61 ⟨Nat.le_of_ble_eq_true rfl, Nat.le_of_ble_eq_true rfl⟩) hG (fun r_675 M_676 H locs hw hG => ?_)
    rw [hw.1]
    obtain ⟨hm_677, fr_678⟩ := hw.2
    have fr_679 : mfr M M_676 mo ad := mfr.tr mfr.rf fr_678
    obtain ⟨p_680_b, p_680_o, p_680_0, p_680_1, p_680_2, p_680_3, p_680_4, p_680_ne⟩ := id hm_677
    refine lv_if_eq hx hb (tgt := 69) dX3_message_64 (by decide) (fun hc => absurd hc (by decide)) (fun hc => ?_)
    refine lv_iconst (v := nI 0) hx hb dX3_message_67 (by decide) ?_
    exact gw_iret hx hb hr hlocks hG hT (by omega) (by omega) dX3_message_68 ⟨⟨p0_b, p_680_o, p_680_0, p_680_1, p_680_2, p_680_3, p_680_4, p0_ne⟩, fr_679⟩
  · refine lv_iload_n hx hb dX3_message_42 rfl (lv_at hl 2 rfl) ?_
    refine lv_if_lt hx hb (tgt := 60) dX3_message_43 (by decide) (fun h2 => ?_) (fun h2 => ?_)
    · refine lv_iconst (v := nI 1) hx hb dX3_message_60 (by decide) ?_
      refine gw_calli (va_runV (As := [.int (nI 1)]) (rest := []) ⟨hx, hb, hml, hown, hts⟩ (c_refp l K M mo ad _ _ _ _ _ _ _ _ 1 hm (by decide)) (cwV 1 hts gX3_message_X3_refuses rfl rfl rfl (by decide +kernel) ⟨Nat.le_of_ble_eq_true rfl, Nat.le_of_ble_eq_true rfl⟩) (gw_preV hG hT p0_o rfl) rfl rfl hl.1 rfl (lv_room (Nat.le_of_ble_eq_true rfl)) dX3_message_61 ⟨Nat.le_of_ble_eq_true rfl, Nat.le_of_ble_eq_true rfl⟩) hG (fun r_681 M_682 H locs hw hG => ?_)
      rw [hw.1]
      obtain ⟨hm_683, fr_684⟩ := hw.2
      have fr_685 : mfr M M_682 mo ad := mfr.tr mfr.rf fr_684
      obtain ⟨p_686_b, p_686_o, p_686_0, p_686_1, p_686_2, p_686_3, p_686_4, p_686_ne⟩ := id hm_683
      refine lv_if_eq hx hb (tgt := 69) dX3_message_64 (by decide) (fun hc => absurd hc (by decide)) (fun hc => ?_)
      refine lv_iconst (v := nI 0) hx hb dX3_message_67 (by decide) ?_
      exact gw_iret hx hb hr hlocks hG hT (by omega) (by omega) dX3_message_68 ⟨⟨p0_b, p_686_o, p_686_0, p_686_1, p_686_2, p_686_3, p_686_4, p0_ne⟩, fr_685⟩
    · refine lv_iload_n hx hb dX3_message_46 rfl (lv_at hl 2 rfl) ?_
      refine lv_aload_n hx hb dX3_message_47 rfl (lv_at hl 0 rfl) ?_
      refine gw_get (ci := 4) (C := RX3) (T := TX3) (N := 8) hx hb hts hinX3 hown hK hG p0_o rfl 1 (by decide) hf7 (fun _ h9 => h9) rfl dX3_message_48 ?_
      refine lv_iconst (v := nI 2) hx hb dX3_message_51 (by decide) ?_
      refine gw_iadd hx hb dX3_message_52 ?_
      refine lv_icmp_ge hx hb (tgt := 60) dX3_message_53 (by decide) (fun h3 => ?_) (fun h3 => ?_)
      · refine lv_iconst (v := nI 1) hx hb dX3_message_60 (by decide) ?_
        refine gw_calli (va_runV (As := [.int (nI 1)]) (rest := []) ⟨hx, hb, hml, hown, hts⟩ (c_refp l K M mo ad _ _ _ _ _ _ _ _ 1 hm (by decide)) (cwV 1 hts gX3_message_X3_refuses rfl rfl rfl (by decide +kernel) ⟨Nat.le_of_ble_eq_true rfl, Nat.le_of_ble_eq_true rfl⟩) (gw_preV hG hT p0_o rfl) rfl rfl hl.1 rfl (lv_room (Nat.le_of_ble_eq_true rfl)) dX3_message_61 ⟨Nat.le_of_ble_eq_true rfl, Nat.le_of_ble_eq_true rfl⟩) hG (fun r_687 M_688 H locs hw hG => ?_)
        rw [hw.1]
        obtain ⟨hm_689, fr_690⟩ := hw.2
        have fr_691 : mfr M M_688 mo ad := mfr.tr mfr.rf fr_690
        obtain ⟨p_692_b, p_692_o, p_692_0, p_692_1, p_692_2, p_692_3, p_692_4, p_692_ne⟩ := id hm_689
        refine lv_if_eq hx hb (tgt := 69) dX3_message_64 (by decide) (fun hc => absurd hc (by decide)) (fun hc => ?_)
        refine lv_iconst (v := nI 0) hx hb dX3_message_67 (by decide) ?_
        exact gw_iret hx hb hr hlocks hG hT (by omega) (by omega) dX3_message_68 ⟨⟨p0_b, p_692_o, p_692_0, p_692_1, p_692_2, p_692_3, p_692_4, p0_ne⟩, fr_691⟩
      · exact absurd ⟨tst_o h1 hz1, (inN_iff (n := nn + 2) (by omega)).mp ⟨h2, Int32.not_le.mp h3⟩⟩ hP

set_option maxHeartbeats 4000000 in
set_option maxRecDepth 100000 in
/-- m_open -/
theorem m_open (l : Launch) (K : gw_C) (M : gw_M) (mo : Nat) (ad : Nat → Nat) (cd : Int32) (nn kk : Nat) (tb vb : Nat → Int32) (sb : Nat → Int64) (fm tq : Nat → Int32) (k9 : Nat)  (hm : md K M mo ad cd nn kk tb vb sb fm tq) (hk9 : 2 ≤ k9 ∧ k9 ≤ 6) : Met l yX3_open wsX3_open ({ frames := 6, cells := 0, slots := 0, locals := 160 } : Room) (va_Pc [.ref mo, .int (nI k9)] (gw_I K M)) (va_Qv (fun M1 => md K M1 mo ad (nI 0) k9 0 (ffl tb (nI 0) 2484) (ffl vb (nI 0) 144) (ffl sb 0 288) fm tq ∧ mfr M M1 mo ad) (gw_I K) (gw_A K)) 0 0 (gw_A K) := by
  refine Met.ofW (cc := cX3_open) (maxL := 3) (ret := none) (by decide) rfl ?_
  intro p e s m args below meth c s₁ B hml hv
  obtain ⟨hav, hI⟩ := hv
  have hx := B.exec
  have hb := B.bytes
  have hr := B.returns
  have hts := atoms_spec (ws := wsX3_open) B.pre
  have hown : s.vm.findClass RX3 = some m.cls := findClass_of_methodNamed B.named
  have hlocks : meth.locks = false := B.notSynchronized
  have hT := hI.2.2
  have hK := hT.K
  have hG := hI.B
  have hf7 := hts (.fieldLink RX3 7 "DotGossipModel" "replicas" "I") (by decide +kernel)
  have hf14 := hts (.fieldLink RX3 14 "DotGossipModel" "table" "[I") (by decide +kernel)
  have hf18 := hts (.fieldLink RX3 18 "DotGossipModel" "values" "[I") (by decide +kernel)
  have hf21 := hts (.fieldLink RX3 21 "DotGossipModel" "sums" "[J") (by decide +kernel)
  have hf31 := hts (.fieldLink RX3 31 "DotGossipModel" "code" "I") (by decide +kernel)
  have hf41 := hts (.fieldLink RX3 41 "DotGossipModel" "messages" "I") (by decide +kernel)
  have hinX3 : ∀ w ∈ wsX30, w ∈ wsX3_open := by decide +kernel
  have hE : entryFrame m args 3 = entryFrame m ([.ref mo, .int (nI k9)] : List Value).toArray 3 := by rw [hav]
  rw [hE]
  have hl := lv_entry ([.ref mo, .int (nI k9)]) (n := 3) (Nat.le_of_ble_eq_true rfl)
  rw [lg_entry_eq]
  generalize (lg_sl ([.ref mo, .int (nI k9)]) ++ List.replicate (3 - (lg_sl ([.ref mo, .int (nI k9)])).length) Slot.unset).toArray = ls at hl ⊢
  have hl : lv_has ls 3 [(0, .ref mo), (1, .int (nI k9))] := hl
  obtain ⟨p0_b, p0_o, p0_0, p0_1, p0_2, p0_3, p0_4, p0_ne⟩ := id hm
  have ne_o0 : mo ≠ ad 0 := gw_io p0_o p0_0
  have ne_o1 : mo ≠ ad 1 := gw_io p0_o p0_1
  have ne_o2 : mo ≠ ad 2 := gw_io p0_o p0_2
  have ne_o3 : mo ≠ ad 3 := gw_io p0_o p0_3
  have ne_o4 : mo ≠ ad 4 := gw_io p0_o p0_4
  refine lv_aload_n hx hb dX3_open_0 rfl (lv_at hl 0 rfl) ?_
  refine lv_iload_n hx hb dX3_open_1 rfl (lv_at hl 1 rfl) ?_
  refine lv_iconst (v := nI 2) hx hb dX3_open_2 (by decide) ?_
  refine gw_icmp_lt hx hb (by omega) (by omega) (tgt := 12) dX3_open_3 (by decide) (fun hc => absurd hc (by omega)) (fun hc => ?_)
  refine lv_iload_n hx hb dX3_open_6 rfl (lv_at hl 1 rfl) ?_
  refine lv_bipush (v := nI 6) hx hb dX3_open_7 (by decide) ?_
  refine gw_icmp_le hx hb (by omega) (by omega) (tgt := 16) dX3_open_9 (by decide) (fun hc => ?_) (fun hc => absurd hc (by omega))
  refine lv_iconst (v := nI 0) hx hb dX3_open_16 (by decide) ?_
  refine gw_calli (va_runV (As := [.int (nI 0)]) (rest := []) ⟨hx, hb, hml, hown, hts⟩ (c_ref0 l K M mo ad _ _ _ _ _ _ _ _ 0 hm) (cwV 1 hts gX3_open_X3_refuses rfl rfl rfl (by decide +kernel) ⟨Nat.le_of_ble_eq_true rfl, Nat.le_of_ble_eq_true rfl⟩) (gw_preV hG hT p0_o rfl) rfl rfl hl.1 rfl (lv_room (Nat.le_of_ble_eq_true rfl)) dX3_open_17 ⟨Nat.le_of_ble_eq_true rfl, Nat.le_of_ble_eq_true rfl⟩) hG (fun r_693 M_694 H locs hw hG => ?_)
  rw [hw.1]
  obtain ⟨hm_695, fr_696⟩ := hw.2
  have fr_697 : mfr M M_694 mo ad := mfr.tr mfr.rf fr_696
  obtain ⟨p_698_b, p_698_o, p_698_0, p_698_1, p_698_2, p_698_3, p_698_4, p_698_ne⟩ := id hm_695
  refine lv_if_eq hx hb (tgt := 24) dX3_open_20 (by decide) (fun hc => ?_) (fun hc => absurd (by decide) hc)
  refine lv_aload_n hx hb dX3_open_24 rfl (lv_at hl 0 rfl) ?_
  refine lv_iload_n hx hb dX3_open_25 rfl (lv_at hl 1 rfl) ?_
  refine gw_put (ci := 4) (v := .int (nI k9)) (ty := .int) (C := RX3) (T := TX3) (N := 8) hx hb hts hinX3 tyX3 tyX3_ok nmX3 hown hK hG p_698_o rfl 1 (by decide) hf7 (fun _ h9 => h9) rfl (by decide +kernel) rfl rfl (Nat.le_of_ble_eq_true rfl) dX3_open_26 (fun H locs hG => ?_)
  obtain ⟨M_699, hM_700⟩ : ∃ M1 : gw_M, M1 = gw_up M_694 mo (.inr (4, [.int (nI 0), .int (nI k9), .int (nI kk), .ref (ad 0), .ref (ad 1), .ref (ad 2), .ref (ad 3), .ref (ad 4)])) := ⟨_, rfl⟩
  have hG : gw_B K M_699 s.heap H locs := by rw [hM_700]; exact hG
  have hc_701 : M_699 mo = some (.inr (4, [.int (nI 0), .int (nI k9), .int (nI kk), .ref (ad 0), .ref (ad 1), .ref (ad 2), .ref (ad 3), .ref (ad 4)])) := (congrFun hM_700 _).trans gw_s
  have hc_702 := (congrFun hM_700 (ad 0)).trans (gw_k (Ne.symm ne_o0) p_698_0)
  have hc_703 := (congrFun hM_700 (ad 1)).trans (gw_k (Ne.symm ne_o1) p_698_1)
  have hc_704 := (congrFun hM_700 (ad 2)).trans (gw_k (Ne.symm ne_o2) p_698_2)
  have hc_705 := (congrFun hM_700 (ad 3)).trans (gw_k (Ne.symm ne_o3) p_698_3)
  have hc_706 := (congrFun hM_700 (ad 4)).trans (gw_k (Ne.symm ne_o4) p_698_4)
  have fr_707 : mfr M M_699 mo ad := fun q h1 h2 => ((congrFun hM_700 q).trans (gw_n h1)).trans (fr_697 q h1 h2)
  refine lv_aload_n hx hb dX3_open_29 rfl (lv_at hl 0 rfl) ?_
  refine lv_iconst (v := nI 0) hx hb dX3_open_30 (by decide) ?_
  refine gw_put (ci := 4) (v := .int (nI 0)) (ty := .int) (C := RX3) (T := TX3) (N := 8) hx hb hts hinX3 tyX3 tyX3_ok nmX3 hown hK hG hc_701 rfl 2 (by decide) hf41 (fun _ h9 => h9) rfl (by decide +kernel) rfl rfl (Nat.le_of_ble_eq_true rfl) dX3_open_31 (fun H locs hG => ?_)
  obtain ⟨M_708, hM_709⟩ : ∃ M1 : gw_M, M1 = gw_up M_699 mo (.inr (4, [.int (nI 0), .int (nI k9), .int (nI 0), .ref (ad 0), .ref (ad 1), .ref (ad 2), .ref (ad 3), .ref (ad 4)])) := ⟨_, rfl⟩
  have hG : gw_B K M_708 s.heap H locs := by rw [hM_709]; exact hG
  have hc_710 : M_708 mo = some (.inr (4, [.int (nI 0), .int (nI k9), .int (nI 0), .ref (ad 0), .ref (ad 1), .ref (ad 2), .ref (ad 3), .ref (ad 4)])) := (congrFun hM_709 _).trans gw_s
  have hc_711 := (congrFun hM_709 (ad 0)).trans (gw_k (Ne.symm ne_o0) hc_702)
  have hc_712 := (congrFun hM_709 (ad 1)).trans (gw_k (Ne.symm ne_o1) hc_703)
  have hc_713 := (congrFun hM_709 (ad 2)).trans (gw_k (Ne.symm ne_o2) hc_704)
  have hc_714 := (congrFun hM_709 (ad 3)).trans (gw_k (Ne.symm ne_o3) hc_705)
  have hc_715 := (congrFun hM_709 (ad 4)).trans (gw_k (Ne.symm ne_o4) hc_706)
  have fr_716 : mfr M M_708 mo ad := fun q h1 h2 => ((congrFun hM_709 q).trans (gw_n h1)).trans (fr_707 q h1 h2)
  refine lv_iconst (v := nI 0) hx hb dX3_open_34 (by decide) ?_
  refine lv_istore_n (lv' := [(2, .int (nI 0)), (0, .ref mo), (1, .int (nI k9))]) hx hb dX3_open_35 rfl hl (by decide) rfl (fun ls hl => ?_)
  have hm_717 : md K M_708 mo ad (nI 0) k9 0 tb vb sb fm tq := ⟨⟨hk9.2, Nat.zero_le 100⟩, hc_710, hc_711, hc_712, hc_713, hc_714, hc_715, p0_ne⟩
  have hl2 : ∀ (z9 : Nat) (i : Nat), i ≤ 288 → 288 + 1 ≤ i + z9 → ∀ (Mi : gw_M), (md K Mi mo ad (nI 0) k9 0 (ffl tb (nI 0) 2484) (ffl vb (nI 0) 144) (ffl sb 0 i) fm tq ∧ mfr M Mi mo ad) → ∀ (H : Heap) (locs : List Loc), gw_B K Mi s.heap H locs → ∀ (ls : Array Slot), lv_has ls 3 [(2, .int (nI i)), (0, .ref mo)] → W p l e ({ frames := 6, cells := 0, slots := 0, locals := 160 } : Room) s m args below meth c H locs (0) (0) (MQ below (va_Qv (fun M1 => md K M1 mo ad (nI 0) k9 0 (ffl tb (nI 0) 2484) (ffl vb (nI 0) 144) (ffl sb 0 288) fm tq ∧ mfr M M1 mo ad) (gw_I K) (gw_A K)) args s 0 0 (gw_A K)) (F0 m 80 ls []) := by
    intro z9
    induction z9 with
    | zero =>
      intro i hg0 hm
      exact absurd hm (by omega)
    | succ z9 ih =>
      intro i hg0 hm Mi hMi H locs hG ls hl
      obtain ⟨hmi, hfi⟩ := hMi
      obtain ⟨p_718_b, p_718_o, p_718_0, p_718_1, p_718_2, p_718_3, p_718_4, p_718_ne⟩ := id hmi
      refine lv_iload_n hx hb dX3_open_80 rfl (lv_at hl 0 rfl) ?_
      refine lv_sipush (v := nI 288) hx hb dX3_open_81 (by decide) ?_
      refine gw_icmp_ge hx hb (by omega) (by omega) (tgt := 100) dX3_open_84 (by decide) (fun hc => ?_) (fun hc => ?_)
      · have e6 : i = 288 := by omega
        rw [e6] at hmi
        exact gw_vret hx hb hr hlocks hG hT (by omega) (by omega) dX3_open_100 ⟨hmi, hfi⟩
      · refine lv_aload_n hx hb dX3_open_87 rfl (lv_at hl 1 rfl) ?_
        refine gw_get (ci := 4) (C := RX3) (T := TX3) (N := 8) hx hb hts hinX3 hown hK hG p_718_o rfl 5 (by decide) hf21 (fun _ h9 => h9) rfl dX3_open_88 ?_
        refine lv_iload_n hx hb dX3_open_91 rfl (lv_at hl 0 rfl) ?_
        refine lv_lconst (v := 0) hx hb dX3_open_92 (by decide) ?_
        refine gw_last_n hx hb hK hG p_718_2 1 rfl (by omega) (by omega) dX3_open_93 (fun H locs hG => ?_)
        obtain ⟨M_719, hM_720⟩ : ∃ M1 : gw_M, M1 = gw_up Mi (ad 2) (.inl (K.2.1 1, 5088, .inr (.inl (vp_updL (ffl sb 0 i) i 0)))) := ⟨_, rfl⟩
        have hG : gw_B K M_719 s.heap H locs := by rw [hM_720]; exact hG
        have hc_721 := (congrFun hM_720 mo).trans (gw_k ne_o2 p_718_o)
        have hc_722 := (congrFun hM_720 (ad 0)).trans (gw_k (fun z => absurd (p0_ne 0 2 (by decide) (by decide) z) (by decide)) p_718_0)
        have hc_723 := (congrFun hM_720 (ad 1)).trans (gw_k (fun z => absurd (p0_ne 1 2 (by decide) (by decide) z) (by decide)) p_718_1)
        have hc_724 : M_719 (ad 2) = some (.inl (K.2.1 1, 5088, .inr (.inl (vp_updL (ffl sb 0 i) i 0)))) := (congrFun hM_720 _).trans gw_s
        have hc_725 := (congrFun hM_720 (ad 3)).trans (gw_k (fun z => absurd (p0_ne 3 2 (by decide) (by decide) z) (by decide)) p_718_3)
        have hc_726 := (congrFun hM_720 (ad 4)).trans (gw_k (fun z => absurd (p0_ne 4 2 (by decide) (by decide) z) (by decide)) p_718_4)
        have fr_727 : mfr M M_719 mo ad := fun q h1 h2 => ((congrFun hM_720 q).trans (gw_n (h2 2 (by decide)))).trans (hfi q h1 h2)
        refine lv_iinc (v := nI (i + 1)) (lv' := [(2, .int (nI (i + 1))), (0, .ref mo)]) hx hb dX3_open_94 hl (k := 0) rfl (gw_inc _) (by decide) rfl (fun ls hl => ?_)
        refine lv_goto (tgt := 80) hx hb dX3_open_97 (by decide) ?_
        have hm9 : md K M_719 mo ad (nI 0) k9 0 (ffl tb (nI 0) 2484) (ffl vb (nI 0) 144) (ffl sb 0 (i + 1)) fm tq := by rw [← ffl_sl sb 0 i]; exact ⟨⟨hk9.2, Nat.zero_le 100⟩, hc_721, hc_722, hc_723, hc_724, hc_725, hc_726, p0_ne⟩
        exact ih (i + 1) (by omega) (by omega) _ ⟨hm9, fr_727⟩ _ _ hG ls (lv_sub hl [0, 1] rfl)
  have hl1 : ∀ (z9 : Nat) (i : Nat), i ≤ 144 → 144 + 1 ≤ i + z9 → ∀ (Mi : gw_M), (md K Mi mo ad (nI 0) k9 0 (ffl tb (nI 0) 2484) (ffl vb (nI 0) i) sb fm tq ∧ mfr M Mi mo ad) → ∀ (H : Heap) (locs : List Loc), gw_B K Mi s.heap H locs → ∀ (ls : Array Slot), lv_has ls 3 [(2, .int (nI i)), (0, .ref mo)] → W p l e ({ frames := 6, cells := 0, slots := 0, locals := 160 } : Room) s m args below meth c H locs (0) (0) (MQ below (va_Qv (fun M1 => md K M1 mo ad (nI 0) k9 0 (ffl tb (nI 0) 2484) (ffl vb (nI 0) 144) (ffl sb 0 288) fm tq ∧ mfr M M1 mo ad) (gw_I K) (gw_A K)) args s 0 0 (gw_A K)) (F0 m 58 ls []) := by
    intro z9
    induction z9 with
    | zero =>
      intro i hg0 hm
      exact absurd hm (by omega)
    | succ z9 ih =>
      intro i hg0 hm Mi hMi H locs hG ls hl
      obtain ⟨hmi, hfi⟩ := hMi
      obtain ⟨p_728_b, p_728_o, p_728_0, p_728_1, p_728_2, p_728_3, p_728_4, p_728_ne⟩ := id hmi
      refine lv_iload_n hx hb dX3_open_58 rfl (lv_at hl 0 rfl) ?_
      refine lv_sipush (v := nI 144) hx hb dX3_open_59 (by decide) ?_
      refine gw_icmp_ge hx hb (by omega) (by omega) (tgt := 78) dX3_open_62 (by decide) (fun hc => ?_) (fun hc => ?_)
      · have e6 : i = 144 := by omega
        rw [e6] at hmi
        refine lv_iconst (v := nI 0) hx hb dX3_open_78 (by decide) ?_
        refine lv_istore_n (lv' := [(2, .int (nI 0)), (0, .ref mo)]) hx hb dX3_open_79 rfl hl (by decide) rfl (fun ls hl => ?_)
        exact hl2 289 0 (by omega) (by omega) _ ⟨by rw [ffl_0]; exact hmi, hfi⟩ _ _ hG ls (lv_sub hl [0, 1] rfl)
      · refine lv_aload_n hx hb dX3_open_65 rfl (lv_at hl 1 rfl) ?_
        refine gw_get (ci := 4) (C := RX3) (T := TX3) (N := 8) hx hb hts hinX3 hown hK hG p_728_o rfl 4 (by decide) hf18 (fun _ h9 => h9) rfl dX3_open_66 ?_
        refine lv_iload_n hx hb dX3_open_69 rfl (lv_at hl 0 rfl) ?_
        refine lv_iconst (v := nI 0) hx hb dX3_open_70 (by decide) ?_
        refine gw_iast_n hx hb hK hG p_728_1 0 rfl (by omega) (by omega) dX3_open_71 (fun H locs hG => ?_)
        obtain ⟨M_729, hM_730⟩ : ∃ M1 : gw_M, M1 = gw_up Mi (ad 1) (.inl (K.2.1 0, 2544, .inl (upd (ffl vb (nI 0) i) i (nI 0)))) := ⟨_, rfl⟩
        have hG : gw_B K M_729 s.heap H locs := by rw [hM_730]; exact hG
        have hc_731 := (congrFun hM_730 mo).trans (gw_k ne_o1 p_728_o)
        have hc_732 := (congrFun hM_730 (ad 0)).trans (gw_k (fun z => absurd (p0_ne 0 1 (by decide) (by decide) z) (by decide)) p_728_0)
        have hc_733 : M_729 (ad 1) = some (.inl (K.2.1 0, 2544, .inl (upd (ffl vb (nI 0) i) i (nI 0)))) := (congrFun hM_730 _).trans gw_s
        have hc_734 := (congrFun hM_730 (ad 2)).trans (gw_k (fun z => absurd (p0_ne 2 1 (by decide) (by decide) z) (by decide)) p_728_2)
        have hc_735 := (congrFun hM_730 (ad 3)).trans (gw_k (fun z => absurd (p0_ne 3 1 (by decide) (by decide) z) (by decide)) p_728_3)
        have hc_736 := (congrFun hM_730 (ad 4)).trans (gw_k (fun z => absurd (p0_ne 4 1 (by decide) (by decide) z) (by decide)) p_728_4)
        have fr_737 : mfr M M_729 mo ad := fun q h1 h2 => ((congrFun hM_730 q).trans (gw_n (h2 1 (by decide)))).trans (hfi q h1 h2)
        refine lv_iinc (v := nI (i + 1)) (lv' := [(2, .int (nI (i + 1))), (0, .ref mo)]) hx hb dX3_open_72 hl (k := 0) rfl (gw_inc _) (by decide) rfl (fun ls hl => ?_)
        refine lv_goto (tgt := 58) hx hb dX3_open_75 (by decide) ?_
        have hm9 : md K M_729 mo ad (nI 0) k9 0 (ffl tb (nI 0) 2484) (ffl vb (nI 0) (i + 1)) sb fm tq := by rw [← ffl_s vb (nI 0) i]; exact ⟨⟨hk9.2, Nat.zero_le 100⟩, hc_731, hc_732, hc_733, hc_734, hc_735, hc_736, p0_ne⟩
        exact ih (i + 1) (by omega) (by omega) _ ⟨hm9, fr_737⟩ _ _ hG ls (lv_sub hl [0, 1] rfl)
  have hl0 : ∀ (z9 : Nat) (i : Nat), i ≤ 2484 → 2484 + 1 ≤ i + z9 → ∀ (Mi : gw_M), (md K Mi mo ad (nI 0) k9 0 (ffl tb (nI 0) i) vb sb fm tq ∧ mfr M Mi mo ad) → ∀ (H : Heap) (locs : List Loc), gw_B K Mi s.heap H locs → ∀ (ls : Array Slot), lv_has ls 3 [(2, .int (nI i)), (0, .ref mo)] → W p l e ({ frames := 6, cells := 0, slots := 0, locals := 160 } : Room) s m args below meth c H locs (0) (0) (MQ below (va_Qv (fun M1 => md K M1 mo ad (nI 0) k9 0 (ffl tb (nI 0) 2484) (ffl vb (nI 0) 144) (ffl sb 0 288) fm tq ∧ mfr M M1 mo ad) (gw_I K) (gw_A K)) args s 0 0 (gw_A K)) (F0 m 36 ls []) := by
    intro z9
    induction z9 with
    | zero =>
      intro i hg0 hm
      exact absurd hm (by omega)
    | succ z9 ih =>
      intro i hg0 hm Mi hMi H locs hG ls hl
      obtain ⟨hmi, hfi⟩ := hMi
      obtain ⟨p_738_b, p_738_o, p_738_0, p_738_1, p_738_2, p_738_3, p_738_4, p_738_ne⟩ := id hmi
      refine lv_iload_n hx hb dX3_open_36 rfl (lv_at hl 0 rfl) ?_
      refine lv_sipush (v := nI 2484) hx hb dX3_open_37 (by decide) ?_
      refine gw_icmp_ge hx hb (by omega) (by omega) (tgt := 56) dX3_open_40 (by decide) (fun hc => ?_) (fun hc => ?_)
      · have e6 : i = 2484 := by omega
        rw [e6] at hmi
        refine lv_iconst (v := nI 0) hx hb dX3_open_56 (by decide) ?_
        refine lv_istore_n (lv' := [(2, .int (nI 0)), (0, .ref mo)]) hx hb dX3_open_57 rfl hl (by decide) rfl (fun ls hl => ?_)
        exact hl1 145 0 (by omega) (by omega) _ ⟨by rw [ffl_0]; exact hmi, hfi⟩ _ _ hG ls (lv_sub hl [0, 1] rfl)
      · refine lv_aload_n hx hb dX3_open_43 rfl (lv_at hl 1 rfl) ?_
        refine gw_get (ci := 4) (C := RX3) (T := TX3) (N := 8) hx hb hts hinX3 hown hK hG p_738_o rfl 3 (by decide) hf14 (fun _ h9 => h9) rfl dX3_open_44 ?_
        refine lv_iload_n hx hb dX3_open_47 rfl (lv_at hl 0 rfl) ?_
        refine lv_iconst (v := nI 0) hx hb dX3_open_48 (by decide) ?_
        refine gw_iast_n hx hb hK hG p_738_0 0 rfl (by omega) (by omega) dX3_open_49 (fun H locs hG => ?_)
        obtain ⟨M_739, hM_740⟩ : ∃ M1 : gw_M, M1 = gw_up Mi (ad 0) (.inl (K.2.1 0, 43884, .inl (upd (ffl tb (nI 0) i) i (nI 0)))) := ⟨_, rfl⟩
        have hG : gw_B K M_739 s.heap H locs := by rw [hM_740]; exact hG
        have hc_741 := (congrFun hM_740 mo).trans (gw_k ne_o0 p_738_o)
        have hc_742 : M_739 (ad 0) = some (.inl (K.2.1 0, 43884, .inl (upd (ffl tb (nI 0) i) i (nI 0)))) := (congrFun hM_740 _).trans gw_s
        have hc_743 := (congrFun hM_740 (ad 1)).trans (gw_k (fun z => absurd (p0_ne 1 0 (by decide) (by decide) z) (by decide)) p_738_1)
        have hc_744 := (congrFun hM_740 (ad 2)).trans (gw_k (fun z => absurd (p0_ne 2 0 (by decide) (by decide) z) (by decide)) p_738_2)
        have hc_745 := (congrFun hM_740 (ad 3)).trans (gw_k (fun z => absurd (p0_ne 3 0 (by decide) (by decide) z) (by decide)) p_738_3)
        have hc_746 := (congrFun hM_740 (ad 4)).trans (gw_k (fun z => absurd (p0_ne 4 0 (by decide) (by decide) z) (by decide)) p_738_4)
        have fr_747 : mfr M M_739 mo ad := fun q h1 h2 => ((congrFun hM_740 q).trans (gw_n (h2 0 (by decide)))).trans (hfi q h1 h2)
        refine lv_iinc (v := nI (i + 1)) (lv' := [(2, .int (nI (i + 1))), (0, .ref mo)]) hx hb dX3_open_50 hl (k := 0) rfl (gw_inc _) (by decide) rfl (fun ls hl => ?_)
        refine lv_goto (tgt := 36) hx hb dX3_open_53 (by decide) ?_
        have hm9 : md K M_739 mo ad (nI 0) k9 0 (ffl tb (nI 0) (i + 1)) vb sb fm tq := by rw [← ffl_s tb (nI 0) i]; exact ⟨⟨hk9.2, Nat.zero_le 100⟩, hc_741, hc_742, hc_743, hc_744, hc_745, hc_746, p0_ne⟩
        exact ih (i + 1) (by omega) (by omega) _ ⟨hm9, fr_747⟩ _ _ hG ls (lv_sub hl [0, 1] rfl)
  exact hl0 2485 0 (by omega) (by omega) _ ⟨by rw [ffl_0]; exact hm_717, fr_716⟩ _ _ hG ls (lv_sub hl [0, 1] rfl)

set_option maxHeartbeats 4000000 in
set_option maxRecDepth 100000 in
/-- m_open_no -/
theorem m_open_no (l : Launch) (K : gw_C) (M : gw_M) (mo : Nat) (ad : Nat → Nat) (cd : Int32) (nn kk : Nat) (tb vb : Nat → Int32) (sb : Nat → Int64) (fm tq : Nat → Int32) (n9 : Int32)  (hm : md K M mo ad cd nn kk tb vb sb fm tq) (hP : ¬ inR n9) : Met l yX3_open wsX3_open ({ frames := 6, cells := 0, slots := 0, locals := 160 } : Room) (va_Pc [.ref mo, .int n9] (gw_I K M)) (va_Qv (fun M1 => md K M1 mo ad (nI 1) nn kk tb vb sb fm tq ∧ mfr M M1 mo ad) (gw_I K) (gw_A K)) 0 0 (gw_A K) := by
  refine Met.ofW (cc := cX3_open) (maxL := 3) (ret := none) (by decide) rfl ?_
  intro p e s m args below meth c s₁ B hml hv
  obtain ⟨hav, hI⟩ := hv
  have hx := B.exec
  have hb := B.bytes
  have hr := B.returns
  have hts := atoms_spec (ws := wsX3_open) B.pre
  have hown : s.vm.findClass RX3 = some m.cls := findClass_of_methodNamed B.named
  have hlocks : meth.locks = false := B.notSynchronized
  have hT := hI.2.2
  have hK := hT.K
  have hG := hI.B
  have hf7 := hts (.fieldLink RX3 7 "DotGossipModel" "replicas" "I") (by decide +kernel)
  have hf14 := hts (.fieldLink RX3 14 "DotGossipModel" "table" "[I") (by decide +kernel)
  have hf18 := hts (.fieldLink RX3 18 "DotGossipModel" "values" "[I") (by decide +kernel)
  have hf21 := hts (.fieldLink RX3 21 "DotGossipModel" "sums" "[J") (by decide +kernel)
  have hf31 := hts (.fieldLink RX3 31 "DotGossipModel" "code" "I") (by decide +kernel)
  have hf41 := hts (.fieldLink RX3 41 "DotGossipModel" "messages" "I") (by decide +kernel)
  have hinX3 : ∀ w ∈ wsX30, w ∈ wsX3_open := by decide +kernel
  have hE : entryFrame m args 3 = entryFrame m ([.ref mo, .int n9] : List Value).toArray 3 := by rw [hav]
  rw [hE]
  have hl := lv_entry ([.ref mo, .int n9]) (n := 3) (Nat.le_of_ble_eq_true rfl)
  rw [lg_entry_eq]
  generalize (lg_sl ([.ref mo, .int n9]) ++ List.replicate (3 - (lg_sl ([.ref mo, .int n9])).length) Slot.unset).toArray = ls at hl ⊢
  have hl : lv_has ls 3 [(0, .ref mo), (1, .int n9)] := hl
  obtain ⟨p0_b, p0_o, p0_0, p0_1, p0_2, p0_3, p0_4, p0_ne⟩ := id hm
  have ne_o0 : mo ≠ ad 0 := gw_io p0_o p0_0
  have ne_o1 : mo ≠ ad 1 := gw_io p0_o p0_1
  have ne_o2 : mo ≠ ad 2 := gw_io p0_o p0_2
  have ne_o3 : mo ≠ ad 3 := gw_io p0_o p0_3
  have ne_o4 : mo ≠ ad 4 := gw_io p0_o p0_4
  refine lv_aload_n hx hb dX3_open_0 rfl (lv_at hl 0 rfl) ?_
  refine lv_iload_n hx hb dX3_open_1 rfl (lv_at hl 1 rfl) ?_
  refine lv_iconst (v := nI 2) hx hb dX3_open_2 (by decide) ?_
  refine lv_icmp_lt hx hb (tgt := 12) dX3_open_3 (by decide) (fun h1 => ?_) (fun h1 => ?_)
  · refine lv_iconst (v := nI 1) hx hb dX3_open_12 (by decide) ?_
    refine lv_goto (tgt := 17) hx hb dX3_open_13 (by decide) ?_
    refine gw_calli (va_runV (As := [.int (nI 1)]) (rest := []) ⟨hx, hb, hml, hown, hts⟩ (c_refp l K M mo ad _ _ _ _ _ _ _ _ 1 hm (by decide)) (cwV 1 hts gX3_open_X3_refuses rfl rfl rfl (by decide +kernel) ⟨Nat.le_of_ble_eq_true rfl, Nat.le_of_ble_eq_true rfl⟩) (gw_preV hG hT p0_o rfl) rfl rfl hl.1 rfl (lv_room (Nat.le_of_ble_eq_true rfl)) dX3_open_17 ⟨Nat.le_of_ble_eq_true rfl, Nat.le_of_ble_eq_true rfl⟩) hG (fun r_748 M_749 H locs hw hG => ?_)
    rw [hw.1]
    obtain ⟨hm_750, fr_751⟩ := hw.2
    have fr_752 : mfr M M_749 mo ad := mfr.tr mfr.rf fr_751
    obtain ⟨p_753_b, p_753_o, p_753_0, p_753_1, p_753_2, p_753_3, p_753_4, p_753_ne⟩ := id hm_750
    refine lv_if_eq hx hb (tgt := 24) dX3_open_20 (by decide) (fun hc => absurd hc (by decide)) (fun hc => ?_)
    exact gw_vret hx hb hr hlocks hG hT (by omega) (by omega) dX3_open_23 ⟨⟨p0_b, p_753_o, p_753_0, p_753_1, p_753_2, p_753_3, p_753_4, p0_ne⟩, fr_752⟩
  · refine lv_iload_n hx hb dX3_open_6 rfl (lv_at hl 1 rfl) ?_
    refine lv_bipush (v := nI 6) hx hb dX3_open_7 (by decide) ?_
    refine lv_icmp_le hx hb (tgt := 16) dX3_open_9 (by decide) (fun h2 => ?_) (fun h2 => ?_)
    · exact absurd (inR_of h1 (Int32.not_lt.mpr h2)) hP
    · refine lv_iconst (v := nI 1) hx hb dX3_open_12 (by decide) ?_
      refine lv_goto (tgt := 17) hx hb dX3_open_13 (by decide) ?_
      refine gw_calli (va_runV (As := [.int (nI 1)]) (rest := []) ⟨hx, hb, hml, hown, hts⟩ (c_refp l K M mo ad _ _ _ _ _ _ _ _ 1 hm (by decide)) (cwV 1 hts gX3_open_X3_refuses rfl rfl rfl (by decide +kernel) ⟨Nat.le_of_ble_eq_true rfl, Nat.le_of_ble_eq_true rfl⟩) (gw_preV hG hT p0_o rfl) rfl rfl hl.1 rfl (lv_room (Nat.le_of_ble_eq_true rfl)) dX3_open_17 ⟨Nat.le_of_ble_eq_true rfl, Nat.le_of_ble_eq_true rfl⟩) hG (fun r_754 M_755 H locs hw hG => ?_)
      rw [hw.1]
      obtain ⟨hm_756, fr_757⟩ := hw.2
      have fr_758 : mfr M M_755 mo ad := mfr.tr mfr.rf fr_757
      obtain ⟨p_759_b, p_759_o, p_759_0, p_759_1, p_759_2, p_759_3, p_759_4, p_759_ne⟩ := id hm_756
      refine lv_if_eq hx hb (tgt := 24) dX3_open_20 (by decide) (fun hc => absurd hc (by decide)) (fun hc => ?_)
      exact gw_vret hx hb hr hlocks hG hT (by omega) (by omega) dX3_open_23 ⟨⟨p0_b, p_759_o, p_759_0, p_759_1, p_759_2, p_759_3, p_759_4, p0_ne⟩, fr_758⟩

set_option maxHeartbeats 4000000 in
set_option maxRecDepth 100000 in
/-- DotGossipModel() -/
theorem c_mdinit (l : Launch) (K : gw_C) (M : gw_M) (x : Nat) (hx0 : M x = some (.inr (4, [.int 0, .int 0, .int 0, .null, .null, .null, .null, .null]))) : Met l yX3_init wsX3_init ({ frames := 1, cells := 5, slots := 51716, locals := 40 } : Room) (va_Pc [.ref x] (gw_I K M)) (va_Qv (fun M1 => ∃ ad : Nat → Nat, md K M1 x ad 0 2 0 (fun _ => 0) (fun _ => 0) (fun _ => 0) (fun _ => 0) (fun _ => 0) ∧ kfr M M1 x ∧ ∀ i, i < 5 → M (ad i) = none) (gw_I K) (gw_A K)) 5 51716 (gw_A K) := by
  refine Met.ofW (cc := cX3_init) (maxL := 1) (ret := none) (by decide) rfl ?_
  intro p e s m args below meth c s₁ B hml hv
  obtain ⟨hav, hI⟩ := hv
  have hx := B.exec
  have hb := B.bytes
  have hr := B.returns
  have hts := atoms_spec (ws := wsX3_init) B.pre
  have hown : s.vm.findClass RX3 = some m.cls := findClass_of_methodNamed B.named
  have hlocks : meth.locks = false := B.notSynchronized
  have hT := hI.2.2
  have hK := hT.K
  have hG := hI.B
  have hf7 := hts (.fieldLink RX3 7 "DotGossipModel" "replicas" "I") (by decide +kernel)
  have hf14 := hts (.fieldLink RX3 14 "DotGossipModel" "table" "[I") (by decide +kernel)
  have hf18 := hts (.fieldLink RX3 18 "DotGossipModel" "values" "[I") (by decide +kernel)
  have hf21 := hts (.fieldLink RX3 21 "DotGossipModel" "sums" "[J") (by decide +kernel)
  have hf25 := hts (.fieldLink RX3 25 "DotGossipModel" "from" "[I") (by decide +kernel)
  have hf28 := hts (.fieldLink RX3 28 "DotGossipModel" "to" "[I") (by decide +kernel)
  have hinX3 : ∀ w ∈ wsX30, w ∈ wsX3_init := by decide +kernel
  have hE : entryFrame m args 1 = entryFrame m ([.ref x] : List Value).toArray 1 := by rw [hav]
  rw [hE]
  have hl := lv_entry ([.ref x]) (n := 1) (Nat.le_of_ble_eq_true rfl)
  rw [lg_entry_eq]
  generalize (lg_sl ([.ref x]) ++ List.replicate (1 - (lg_sl ([.ref x])).length) Slot.unset).toArray = ls at hl ⊢
  have hl : lv_has ls 1 [(0, .ref x)] := hl
  have hini : meth.name = "<init>" := (name_of_methodNamed B.named B.method).1
  refine lv_aload_n hx hb dX3_init_0 rfl (lv_at hl 0 rfl) ?_
  refine W.objInit hx hb hown (hts (.methodLink RX3 1 objectInit) (by decide +kernel)) (hts (.instanceMethod objectInit) (by decide +kernel)) (hts (.code objectInit ⟨#[0xb1]⟩ 1 none) (by decide +kernel)) rfl (by rw [hml]; exact hl.1) rfl dX3_init_1 (Nat.le_of_ble_eq_true rfl) (Nat.le_of_ble_eq_true rfl) ?_
  refine W.eq (g2 := F0 m 4 ls []) rfl ?_
  refine lv_aload_n hx hb dX3_init_4 rfl (lv_at hl 0 rfl) ?_
  refine lv_iconst (v := nI 2) hx hb dX3_init_5 (by decide) ?_
  refine gw_put (ci := 4) (v := .int (nI 2)) (ty := .int) (C := RX3) (T := TX3) (N := 8) hx hb hts hinX3 tyX3 tyX3_ok nmX3 hown hK hG hx0 rfl 1 (by decide) hf7 (fun _ h9 => h9) rfl (by decide +kernel) rfl rfl (Nat.le_of_ble_eq_true rfl) dX3_init_6 (fun H locs hG => ?_)
  obtain ⟨M_760, hM_761⟩ : ∃ M1 : gw_M, M1 = gw_up M x (.inr (4, [.int 0, .int (nI 2), .int 0, .null, .null, .null, .null, .null])) := ⟨_, rfl⟩
  have hG : gw_B K M_760 s.heap H locs := by rw [hM_761]; exact hG
  have hc_762 : M_760 x = some (.inr (4, [.int 0, .int (nI 2), .int 0, .null, .null, .null, .null, .null])) := (congrFun hM_761 _).trans gw_s
  refine lv_aload_n hx hb dX3_init_9 rfl (lv_at hl 0 rfl) ?_
  refine lv_ldc (v := 43884) hx hb hown (hts (.constant RX3 13 (43884)) (by decide +kernel)) dX3_init_10 ?_
  refine gw_as (y := nI 43884) rfl ?_
  refine gw_newa (atype := .int) (ty := .int) (a0 := (43884, .inl (fun _ => 0))) (n := nI 43884) (N' := 43884) hx hb (hts (.arrayClass .int) (by decide +kernel)) rfl hK hG 0 rfl (fun _ => rfl) (by decide) (by decide) (by decide) (Nat.le_of_ble_eq_true rfl) (Nat.le_of_ble_eq_true rfl) dX3_init_12 (fun q_763 H hq_764 hG => ?_)
  obtain ⟨M_765, hM_766⟩ : ∃ M1 : gw_M, M1 = gw_up M_760 q_763 (.inl (K.2.1 0, 43884, .inl (fun _ => 0))) := ⟨_, rfl⟩
  have hG : gw_B K M_765 s.heap H locs := by rw [hM_766]; exact hG
  have hne_768 : x ≠ q_763 := gw_ne hq_764 hc_762
  have hc_767 := (congrFun hM_766 x).trans (gw_k hne_768 hc_762)
  have hc_769 : M_765 q_763 = some (.inl (K.2.1 0, 43884, .inl (fun _ => 0))) := (congrFun hM_766 _).trans gw_s
  refine gw_putF (ci := 4) (v := .ref q_763) (ty := .array .int) (C := RX3) (T := TX3) (N := 8) hx hb hts hinX3 tyX3 tyX3_ok nmX3 hown hK hG hc_767 rfl 3 (by decide) hf14 (fun _ h9 => h9) rfl hini rfl (by decide +kernel) rfl rfl (Nat.le_of_ble_eq_true rfl) dX3_init_14 (fun H locs hG => ?_)
  obtain ⟨M_770, hM_771⟩ : ∃ M1 : gw_M, M1 = gw_up M_765 x (.inr (4, [.int 0, .int (nI 2), .int 0, .ref q_763, .null, .null, .null, .null])) := ⟨_, rfl⟩
  have hG : gw_B K M_770 s.heap H locs := by rw [hM_771]; exact hG
  have hc_772 : M_770 x = some (.inr (4, [.int 0, .int (nI 2), .int 0, .ref q_763, .null, .null, .null, .null])) := (congrFun hM_771 _).trans gw_s
  have hc_773 := (congrFun hM_771 q_763).trans (gw_k (Ne.symm hne_768) hc_769)
  refine lv_aload_n hx hb dX3_init_17 rfl (lv_at hl 0 rfl) ?_
  refine lv_sipush (v := nI 2544) hx hb dX3_init_18 (by decide) ?_
  refine gw_newa (atype := .int) (ty := .int) (a0 := (2544, .inl (fun _ => 0))) (n := nI 2544) (N' := 2544) hx hb (hts (.arrayClass .int) (by decide +kernel)) rfl hK hG 0 rfl (fun _ => rfl) (by decide) (by decide) (by decide) (Nat.le_of_ble_eq_true rfl) (Nat.le_of_ble_eq_true rfl) dX3_init_21 (fun q_774 H hq_775 hG => ?_)
  obtain ⟨M_776, hM_777⟩ : ∃ M1 : gw_M, M1 = gw_up M_770 q_774 (.inl (K.2.1 0, 2544, .inl (fun _ => 0))) := ⟨_, rfl⟩
  have hG : gw_B K M_776 s.heap H locs := by rw [hM_777]; exact hG
  have hne_779 : x ≠ q_774 := gw_ne hq_775 hc_772
  have hc_778 := (congrFun hM_777 x).trans (gw_k hne_779 hc_772)
  have hne_781 : q_763 ≠ q_774 := gw_ne hq_775 hc_773
  have hc_780 := (congrFun hM_777 q_763).trans (gw_k hne_781 hc_773)
  have hc_782 : M_776 q_774 = some (.inl (K.2.1 0, 2544, .inl (fun _ => 0))) := (congrFun hM_777 _).trans gw_s
  refine gw_putF (ci := 4) (v := .ref q_774) (ty := .array .int) (C := RX3) (T := TX3) (N := 8) hx hb hts hinX3 tyX3 tyX3_ok nmX3 hown hK hG hc_778 rfl 4 (by decide) hf18 (fun _ h9 => h9) rfl hini rfl (by decide +kernel) rfl rfl (Nat.le_of_ble_eq_true rfl) dX3_init_23 (fun H locs hG => ?_)
  obtain ⟨M_783, hM_784⟩ : ∃ M1 : gw_M, M1 = gw_up M_776 x (.inr (4, [.int 0, .int (nI 2), .int 0, .ref q_763, .ref q_774, .null, .null, .null])) := ⟨_, rfl⟩
  have hG : gw_B K M_783 s.heap H locs := by rw [hM_784]; exact hG
  have hc_785 : M_783 x = some (.inr (4, [.int 0, .int (nI 2), .int 0, .ref q_763, .ref q_774, .null, .null, .null])) := (congrFun hM_784 _).trans gw_s
  have hc_786 := (congrFun hM_784 q_763).trans (gw_k (Ne.symm hne_768) hc_780)
  have hc_787 := (congrFun hM_784 q_774).trans (gw_k (Ne.symm hne_779) hc_782)
  refine lv_aload_n hx hb dX3_init_26 rfl (lv_at hl 0 rfl) ?_
  refine lv_sipush (v := nI 5088) hx hb dX3_init_27 (by decide) ?_
  refine gw_newa (atype := .long) (ty := .long) (a0 := (5088, .inr (.inl (fun _ => 0)))) (n := nI 5088) (N' := 5088) hx hb (hts (.arrayClass .long) (by decide +kernel)) rfl hK hG 1 rfl (fun _ => rfl) (by decide) (by decide) (by decide) (Nat.le_of_ble_eq_true rfl) (Nat.le_of_ble_eq_true rfl) dX3_init_30 (fun q_788 H hq_789 hG => ?_)
  obtain ⟨M_790, hM_791⟩ : ∃ M1 : gw_M, M1 = gw_up M_783 q_788 (.inl (K.2.1 1, 5088, .inr (.inl (fun _ => 0)))) := ⟨_, rfl⟩
  have hG : gw_B K M_790 s.heap H locs := by rw [hM_791]; exact hG
  have hne_793 : x ≠ q_788 := gw_ne hq_789 hc_785
  have hc_792 := (congrFun hM_791 x).trans (gw_k hne_793 hc_785)
  have hne_795 : q_763 ≠ q_788 := gw_ne hq_789 hc_786
  have hc_794 := (congrFun hM_791 q_763).trans (gw_k hne_795 hc_786)
  have hne_797 : q_774 ≠ q_788 := gw_ne hq_789 hc_787
  have hc_796 := (congrFun hM_791 q_774).trans (gw_k hne_797 hc_787)
  have hc_798 : M_790 q_788 = some (.inl (K.2.1 1, 5088, .inr (.inl (fun _ => 0)))) := (congrFun hM_791 _).trans gw_s
  refine gw_putF (ci := 4) (v := .ref q_788) (ty := .array .long) (C := RX3) (T := TX3) (N := 8) hx hb hts hinX3 tyX3 tyX3_ok nmX3 hown hK hG hc_792 rfl 5 (by decide) hf21 (fun _ h9 => h9) rfl hini rfl (by decide +kernel) rfl rfl (Nat.le_of_ble_eq_true rfl) dX3_init_32 (fun H locs hG => ?_)
  obtain ⟨M_799, hM_800⟩ : ∃ M1 : gw_M, M1 = gw_up M_790 x (.inr (4, [.int 0, .int (nI 2), .int 0, .ref q_763, .ref q_774, .ref q_788, .null, .null])) := ⟨_, rfl⟩
  have hG : gw_B K M_799 s.heap H locs := by rw [hM_800]; exact hG
  have hc_801 : M_799 x = some (.inr (4, [.int 0, .int (nI 2), .int 0, .ref q_763, .ref q_774, .ref q_788, .null, .null])) := (congrFun hM_800 _).trans gw_s
  have hc_802 := (congrFun hM_800 q_763).trans (gw_k (Ne.symm hne_768) hc_794)
  have hc_803 := (congrFun hM_800 q_774).trans (gw_k (Ne.symm hne_779) hc_796)
  have hc_804 := (congrFun hM_800 q_788).trans (gw_k (Ne.symm hne_793) hc_798)
  refine lv_aload_n hx hb dX3_init_35 rfl (lv_at hl 0 rfl) ?_
  refine lv_bipush (v := nI 100) hx hb dX3_init_36 (by decide) ?_
  refine gw_newa (atype := .int) (ty := .int) (a0 := (100, .inl (fun _ => 0))) (n := nI 100) (N' := 100) hx hb (hts (.arrayClass .int) (by decide +kernel)) rfl hK hG 0 rfl (fun _ => rfl) (by decide) (by decide) (by decide) (Nat.le_of_ble_eq_true rfl) (Nat.le_of_ble_eq_true rfl) dX3_init_38 (fun q_805 H hq_806 hG => ?_)
  obtain ⟨M_807, hM_808⟩ : ∃ M1 : gw_M, M1 = gw_up M_799 q_805 (.inl (K.2.1 0, 100, .inl (fun _ => 0))) := ⟨_, rfl⟩
  have hG : gw_B K M_807 s.heap H locs := by rw [hM_808]; exact hG
  have hne_810 : x ≠ q_805 := gw_ne hq_806 hc_801
  have hc_809 := (congrFun hM_808 x).trans (gw_k hne_810 hc_801)
  have hne_812 : q_763 ≠ q_805 := gw_ne hq_806 hc_802
  have hc_811 := (congrFun hM_808 q_763).trans (gw_k hne_812 hc_802)
  have hne_814 : q_774 ≠ q_805 := gw_ne hq_806 hc_803
  have hc_813 := (congrFun hM_808 q_774).trans (gw_k hne_814 hc_803)
  have hne_816 : q_788 ≠ q_805 := gw_ne hq_806 hc_804
  have hc_815 := (congrFun hM_808 q_788).trans (gw_k hne_816 hc_804)
  have hc_817 : M_807 q_805 = some (.inl (K.2.1 0, 100, .inl (fun _ => 0))) := (congrFun hM_808 _).trans gw_s
  refine gw_putF (ci := 4) (v := .ref q_805) (ty := .array .int) (C := RX3) (T := TX3) (N := 8) hx hb hts hinX3 tyX3 tyX3_ok nmX3 hown hK hG hc_809 rfl 6 (by decide) hf25 (fun _ h9 => h9) rfl hini rfl (by decide +kernel) rfl rfl (Nat.le_of_ble_eq_true rfl) dX3_init_40 (fun H locs hG => ?_)
  obtain ⟨M_818, hM_819⟩ : ∃ M1 : gw_M, M1 = gw_up M_807 x (.inr (4, [.int 0, .int (nI 2), .int 0, .ref q_763, .ref q_774, .ref q_788, .ref q_805, .null])) := ⟨_, rfl⟩
  have hG : gw_B K M_818 s.heap H locs := by rw [hM_819]; exact hG
  have hc_820 : M_818 x = some (.inr (4, [.int 0, .int (nI 2), .int 0, .ref q_763, .ref q_774, .ref q_788, .ref q_805, .null])) := (congrFun hM_819 _).trans gw_s
  have hc_821 := (congrFun hM_819 q_763).trans (gw_k (Ne.symm hne_768) hc_811)
  have hc_822 := (congrFun hM_819 q_774).trans (gw_k (Ne.symm hne_779) hc_813)
  have hc_823 := (congrFun hM_819 q_788).trans (gw_k (Ne.symm hne_793) hc_815)
  have hc_824 := (congrFun hM_819 q_805).trans (gw_k (Ne.symm hne_810) hc_817)
  refine lv_aload_n hx hb dX3_init_43 rfl (lv_at hl 0 rfl) ?_
  refine lv_bipush (v := nI 100) hx hb dX3_init_44 (by decide) ?_
  refine gw_newa (atype := .int) (ty := .int) (a0 := (100, .inl (fun _ => 0))) (n := nI 100) (N' := 100) hx hb (hts (.arrayClass .int) (by decide +kernel)) rfl hK hG 0 rfl (fun _ => rfl) (by decide) (by decide) (by decide) (Nat.le_of_ble_eq_true rfl) (Nat.le_of_ble_eq_true rfl) dX3_init_46 (fun q_825 H hq_826 hG => ?_)
  obtain ⟨M_827, hM_828⟩ : ∃ M1 : gw_M, M1 = gw_up M_818 q_825 (.inl (K.2.1 0, 100, .inl (fun _ => 0))) := ⟨_, rfl⟩
  have hG : gw_B K M_827 s.heap H locs := by rw [hM_828]; exact hG
  have hne_830 : x ≠ q_825 := gw_ne hq_826 hc_820
  have hc_829 := (congrFun hM_828 x).trans (gw_k hne_830 hc_820)
  have hne_832 : q_763 ≠ q_825 := gw_ne hq_826 hc_821
  have hc_831 := (congrFun hM_828 q_763).trans (gw_k hne_832 hc_821)
  have hne_834 : q_774 ≠ q_825 := gw_ne hq_826 hc_822
  have hc_833 := (congrFun hM_828 q_774).trans (gw_k hne_834 hc_822)
  have hne_836 : q_788 ≠ q_825 := gw_ne hq_826 hc_823
  have hc_835 := (congrFun hM_828 q_788).trans (gw_k hne_836 hc_823)
  have hne_838 : q_805 ≠ q_825 := gw_ne hq_826 hc_824
  have hc_837 := (congrFun hM_828 q_805).trans (gw_k hne_838 hc_824)
  have hc_839 : M_827 q_825 = some (.inl (K.2.1 0, 100, .inl (fun _ => 0))) := (congrFun hM_828 _).trans gw_s
  refine gw_putF (ci := 4) (v := .ref q_825) (ty := .array .int) (C := RX3) (T := TX3) (N := 8) hx hb hts hinX3 tyX3 tyX3_ok nmX3 hown hK hG hc_829 rfl 7 (by decide) hf28 (fun _ h9 => h9) rfl hini rfl (by decide +kernel) rfl rfl (Nat.le_of_ble_eq_true rfl) dX3_init_48 (fun H locs hG => ?_)
  obtain ⟨M_840, hM_841⟩ : ∃ M1 : gw_M, M1 = gw_up M_827 x (.inr (4, [.int 0, .int (nI 2), .int 0, .ref q_763, .ref q_774, .ref q_788, .ref q_805, .ref q_825])) := ⟨_, rfl⟩
  have hG : gw_B K M_840 s.heap H locs := by rw [hM_841]; exact hG
  have hc_842 : M_840 x = some (.inr (4, [.int 0, .int (nI 2), .int 0, .ref q_763, .ref q_774, .ref q_788, .ref q_805, .ref q_825])) := (congrFun hM_841 _).trans gw_s
  have hc_843 := (congrFun hM_841 q_763).trans (gw_k (Ne.symm hne_768) hc_831)
  have hc_844 := (congrFun hM_841 q_774).trans (gw_k (Ne.symm hne_779) hc_833)
  have hc_845 := (congrFun hM_841 q_788).trans (gw_k (Ne.symm hne_793) hc_835)
  have hc_846 := (congrFun hM_841 q_805).trans (gw_k (Ne.symm hne_810) hc_837)
  have hc_847 := (congrFun hM_841 q_825).trans (gw_k (Ne.symm hne_830) hc_839)
  have hk9 : kfr M M_840 x := fun q e h8 he => ((congrFun hM_841 q).trans (gw_k h8 ((congrFun hM_828 q).trans (gw_o hq_826 ((congrFun hM_819 q).trans (gw_k h8 ((congrFun hM_808 q).trans (gw_o hq_806 ((congrFun hM_800 q).trans (gw_k h8 ((congrFun hM_791 q).trans (gw_o hq_789 ((congrFun hM_784 q).trans (gw_k h8 ((congrFun hM_777 q).trans (gw_o hq_775 ((congrFun hM_771 q).trans (gw_k h8 ((congrFun hM_766 q).trans (gw_o hq_764 ((congrFun hM_761 q).trans (gw_k h8 he))))))))))))))))))))))
  have hfree0 : M q_763 = none := by
    cases he : M q_763 with
    | none => rfl
    | some e =>
      have hqx : q_763 ≠ x := (Ne.symm hne_768)
      exact absurd (hq_764.symm.trans ((congrFun hM_761 _).trans (gw_k hqx he))) (fun z9 => by cases z9)
  have hfree1 : M q_774 = none := by
    cases he : M q_774 with
    | none => rfl
    | some e =>
      have hqx : q_774 ≠ x := (Ne.symm hne_779)
      exact absurd (hq_775.symm.trans ((congrFun hM_771 _).trans (gw_k hqx ((congrFun hM_766 _).trans (gw_o hq_764 ((congrFun hM_761 _).trans (gw_k hqx he))))))) (fun z9 => by cases z9)
  have hfree2 : M q_788 = none := by
    cases he : M q_788 with
    | none => rfl
    | some e =>
      have hqx : q_788 ≠ x := (Ne.symm hne_793)
      exact absurd (hq_789.symm.trans ((congrFun hM_784 _).trans (gw_k hqx ((congrFun hM_777 _).trans (gw_o hq_775 ((congrFun hM_771 _).trans (gw_k hqx ((congrFun hM_766 _).trans (gw_o hq_764 ((congrFun hM_761 _).trans (gw_k hqx he))))))))))) (fun z9 => by cases z9)
  have hfree3 : M q_805 = none := by
    cases he : M q_805 with
    | none => rfl
    | some e =>
      have hqx : q_805 ≠ x := (Ne.symm hne_810)
      exact absurd (hq_806.symm.trans ((congrFun hM_800 _).trans (gw_k hqx ((congrFun hM_791 _).trans (gw_o hq_789 ((congrFun hM_784 _).trans (gw_k hqx ((congrFun hM_777 _).trans (gw_o hq_775 ((congrFun hM_771 _).trans (gw_k hqx ((congrFun hM_766 _).trans (gw_o hq_764 ((congrFun hM_761 _).trans (gw_k hqx he))))))))))))))) (fun z9 => by cases z9)
  have hfree4 : M q_825 = none := by
    cases he : M q_825 with
    | none => rfl
    | some e =>
      have hqx : q_825 ≠ x := (Ne.symm hne_830)
      exact absurd (hq_826.symm.trans ((congrFun hM_819 _).trans (gw_k hqx ((congrFun hM_808 _).trans (gw_o hq_806 ((congrFun hM_800 _).trans (gw_k hqx ((congrFun hM_791 _).trans (gw_o hq_789 ((congrFun hM_784 _).trans (gw_k hqx ((congrFun hM_777 _).trans (gw_o hq_775 ((congrFun hM_771 _).trans (gw_k hqx ((congrFun hM_766 _).trans (gw_o hq_764 ((congrFun hM_761 _).trans (gw_k hqx he))))))))))))))))))) (fun z9 => by cases z9)
  have hinj : ∀ i j, i < 5 → j < 5 → (fun i => match i with | 0 => q_763 | 1 => q_774 | 2 => q_788 | 3 => q_805 | _ => q_825) i = (fun i => match i with | 0 => q_763 | 1 => q_774 | 2 => q_788 | 3 => q_805 | _ => q_825) j → i = j := by
    intro i j hi hj hij
    rcases (show i = 0 ∨ i = 1 ∨ i = 2 ∨ i = 3 ∨ i = 4 by omega) with rfl | rfl | rfl | rfl | rfl <;> rcases (show j = 0 ∨ j = 1 ∨ j = 2 ∨ j = 3 ∨ j = 4 by omega) with rfl | rfl | rfl | rfl | rfl
    · rfl
    · exact absurd hij hne_781
    · exact absurd hij hne_795
    · exact absurd hij hne_812
    · exact absurd hij hne_832
    · exact absurd hij (Ne.symm hne_781)
    · rfl
    · exact absurd hij hne_797
    · exact absurd hij hne_814
    · exact absurd hij hne_834
    · exact absurd hij (Ne.symm hne_795)
    · exact absurd hij (Ne.symm hne_797)
    · rfl
    · exact absurd hij hne_816
    · exact absurd hij hne_836
    · exact absurd hij (Ne.symm hne_812)
    · exact absurd hij (Ne.symm hne_814)
    · exact absurd hij (Ne.symm hne_816)
    · rfl
    · exact absurd hij hne_838
    · exact absurd hij (Ne.symm hne_832)
    · exact absurd hij (Ne.symm hne_834)
    · exact absurd hij (Ne.symm hne_836)
    · exact absurd hij (Ne.symm hne_838)
    · rfl
  exact gw_vret hx hb hr hlocks hG hT (by omega) (by omega) dX3_init_51 ⟨(fun i => match i with | 0 => q_763 | 1 => q_774 | 2 => q_788 | 3 => q_805 | _ => q_825), ⟨⟨by decide, by decide⟩, hc_842, hc_843, hc_844, hc_845, hc_846, hc_847, hinj⟩, hk9, fun i hi => by rcases (show i = 0 ∨ i = 1 ∨ i = 2 ∨ i = 3 ∨ i = 4 by omega) with rfl | rfl | rfl | rfl | rfl; exact hfree0; exact hfree1; exact hfree2; exact hfree3; exact hfree4⟩
