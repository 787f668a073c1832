theorem vsn_range (V : hV) : (∀ k, k < 6 → (vsn V).1 k = V.1 k) ∧ (∀ k, k < 408 → (vsn V).2.1 k = V.2.1 k) ∧ (∀ k, k < 24 → (vsn V).2.2.1 k = V.2.2.1 k) ∧ (∀ k, k < 24 → (vsn V).2.2.2.1 k = V.2.2.2.1 k) ∧ ∀ k, k < 24 → (vsn V).2.2.2.2 k = V.2.2.2.2 k := by
  refine ⟨fun k hk => ?_, fun k hk => ?_, fun k hk => ?_, fun k hk => ?_, fun k hk => ?_⟩ <;>
    · dsimp only [vsn]
      rw [pk_cpy_in (by omega) (by omega), Nat.zero_add, Nat.sub_zero]
set_option maxHeartbeats 4000000 in
set_option maxRecDepth 100000 in
/-- c_copy -/
theorem c_copy (l : Launch) (hnt : l.stackTraces = false) (K : gw_C) (M : gw_M) (x : Nat) (ro : Nat → Nat) (S : gst) (i9 : Int32) (hS : CS K M ro x S) : vx_Met l yX2_copy wsX2_copy ({ frames := 10, cells := 3, slots := 159, locals := 200 } : Room) (va_Pc [.ref x, .int i9] (gw_I K M)) (va_Qi (fun r M1 => ∃ k, (k < S.2.2.1 ∧ i9 = nI k) ∧ ((S.2.2.1 = 100 ∧ r = nI 0 ∧ M1 = M) ∨ (S.2.2.1 < 100 ∧ r = nI 1 ∧ ∃ ro1, CS K M1 ro1 x (smsg S (S.2.2.2.1 k) (S.2.2.2.2.1 k) (S.2.2.2.2.2 k)) ∧ ofr 60 1000 M M1 ro ro1))) (gw_I K) (gw_A K)) (gw_X K (iae M (¬ inN i9 S.2.2.1))) 3 159 (gw_A K) := by
  refine vx_ofW (cc := cX2_copy) (maxL := 3) (ret := (some .boolean)) (by decide) rfl ?_
  intro p e s m args below meth c s₁ B hml hnone hv
  obtain ⟨hav, hI⟩ := hv
  have hx := B.exec
  have hb := B.bytes
  have hr := B.returns
  have hts := atoms_spec (ws := wsX2_copy) B.pre
  have hown : s.vm.findClass RX2 = some m.cls := findClass_of_methodNamed B.named
  have hlocks : meth.locks = false := B.notSynchronized
  have hemp : c.exceptionTable.isEmpty = true := B.noHandlers (hts _ List.mem_cons_self)
  have hT := hI.2.2
  have hK := hT.K
  have hG := hI.B
  have hf19 := hts (.fieldLink RX2 19 "DotGossip" "wire" "Ljava/util/ArrayList;") (by decide +kernel)
  have hf98 := hts (.fieldLink RX2 98 "DotGossip$Message" "to" "I") (by decide +kernel)
  have hf101 := hts (.fieldLink RX2 101 "DotGossip$Message" "sent" "LDotGossip$Holding;") (by decide +kernel)
  have hf112 := hts (.fieldLink RX2 112 "DotGossip$Message" "from" "I") (by decide +kernel)
  have hinX1 : ∀ w ∈ wsX10, w ∈ wsX2_copy := by decide +kernel
  have hinX2 : ∀ w ∈ wsX20, w ∈ wsX2_copy := by decide +kernel
  have hinJx4a65c : ∀ w ∈ wsJx4a65c0, w ∈ wsX2_copy := by decide +kernel
  have hE : entryFrame m args 3 = entryFrame m ([.ref x, .int i9] : List Value).toArray 3 := by rw [hav]
  rw [hE]
  have hl := lv_entry ([.ref x, .int i9]) (n := 3) (Nat.le_of_ble_eq_true rfl)
  rw [lg_entry_eq]
  generalize (lg_sl ([.ref x, .int i9]) ++ List.replicate (3 - (lg_sl ([.ref x, .int i9])).length) Slot.unset).toArray = ls at hl ⊢
  have hl : lv_has ls 3 [(0, .ref x), (1, .int i9)] := hl
  obtain ⟨aH, wl, la, cap, mc, g, lf, ho, had, my, sn, sad, hcs, hrs⟩ := id hS
  obtain ⟨c0, c1, c2, c3, c4, c5, c6⟩ := id hcs
  have hs100 := c4.2.1
  refine lv_iload_n hx hb dX2_copy_0 rfl (lv_at hl 1 rfl) ?_
  refine lv_aload_n hx hb dX2_copy_1 rfl (lv_at hl 0 rfl) ?_
  refine gw_get (ci := 3) (C := RX2) (T := TX2) (N := 3) hx hb hts hinX2 hown hK hG c1 rfl 1 (by decide) hf19 (fun _ h9 => h9) rfl dX2_copy_2 ?_
  refine gw_calli (va_runV (As := []) (rest := [.int i9]) ⟨hx, hb, hml, hown, hts⟩ (c_alsize l K M wl la S.2.2.1 mc c4.1) (cwV 0 hts gX2_copy_Jx4a65c_size_8abf5 rfl rfl rfl (by decide +kernel) ⟨Nat.le_of_ble_eq_true rfl, Nat.le_of_ble_eq_true rfl⟩) (gw_preV hG hT c4.1 rfl) rfl rfl hl.1 rfl (lv_room (Nat.le_of_ble_eq_true rfl)) dX2_copy_5 ⟨Nat.le_of_ble_eq_true rfl, Nat.le_of_ble_eq_true rfl⟩) hG (fun r_256 M_257 H locs hw hG => ?_)
  rw [hw.1] at hG
  refine gw_as hw.2 ?_
  refine gw_xcallv (vx_runS (As := [.int i9, .int (nI S.2.2.1)]) (rest := []) ⟨hx, hb, hml, hown, hts⟩ (c_reqIx l hnt K M i9 (nI S.2.2.1)) (va_cwS 2 hts gX2_copy_X2_requireIndex rfl rfl rfl (by decide +kernel) ⟨Nat.le_of_ble_eq_true rfl, Nat.le_of_ble_eq_true rfl⟩) (gw_preS hG hT) rfl rfl hl.1 rfl (lv_room (Nat.le_of_ble_eq_true rfl)) dX2_copy_8 ⟨Nat.le_of_ble_eq_true rfl, Nat.le_of_ble_eq_true rfl⟩) hG (fun E9 ce9 q9 M_259 H locs hw hG h7 h8 h9 => ?_) (fun M_259 H locs hw hG => ?_)
  · exact gw_out hemp hlocks hG hT h7 h8 h9 ⟨hw.1, hw.2.1, fun q => hw.2.2 ((inN_iff (by omega)).mpr q)⟩ (by omega) (by omega)
  · obtain ⟨k, hk, rfl⟩ := (inN_iff (n := S.2.2.1) (by omega)).mp hw.2
    rw [hw.1] at hG
    refine lv_aload_n hx hb dX2_copy_11 rfl (lv_at hl 0 rfl) ?_
    refine gw_get (ci := 3) (C := RX2) (T := TX2) (N := 3) hx hb hts hinX2 hown hK hG c1 rfl 1 (by decide) hf19 (fun _ h9 => h9) rfl dX2_copy_12 ?_
    refine gw_calli (va_runV (As := []) (rest := []) ⟨hx, hb, hml, hown, hts⟩ (c_alsize l K M wl la S.2.2.1 mc c4.1) (cwV 0 hts gX2_copy_Jx4a65c_size_8abf5 rfl rfl rfl (by decide +kernel) ⟨Nat.le_of_ble_eq_true rfl, Nat.le_of_ble_eq_true rfl⟩) (gw_preV hG hT c4.1 rfl) rfl rfl hl.1 rfl (lv_room (Nat.le_of_ble_eq_true rfl)) dX2_copy_15 ⟨Nat.le_of_ble_eq_true rfl, Nat.le_of_ble_eq_true rfl⟩) hG (fun r_260 M_261 H locs hw hG => ?_)
    rw [hw.1] at hG
    refine gw_as hw.2 ?_
    refine lv_bipush (v := nI 100) hx hb dX2_copy_18 (by decide) ?_
    refine gw_icmp_lt hx hb (by omega) (by omega) (tgt := 25) dX2_copy_20 (by decide) (fun h100 => ?_) (fun h100 => ?_)
    · refine lv_aload_n hx hb dX2_copy_25 rfl (lv_at hl 0 rfl) ?_
      refine gw_get (ci := 3) (C := RX2) (T := TX2) (N := 3) hx hb hts hinX2 hown hK hG c1 rfl 1 (by decide) hf19 (fun _ h9 => h9) rfl dX2_copy_26 ?_
      refine lv_iload_n hx hb dX2_copy_29 rfl (lv_at hl 1 rfl) ?_
      refine gw_callq (va_runV (As := [.int (nI k)]) (rest := []) ⟨hx, hb, hml, hown, hts⟩ (c_alget l K M wl la cap S.2.2.1 mc lf k c4 hk) (cwV 1 hts gX2_copy_Jx4a65c_get_915e3 rfl rfl rfl (by decide +kernel) ⟨Nat.le_of_ble_eq_true rfl, Nat.le_of_ble_eq_true rfl⟩) (gw_preV hG hT c4.1 rfl) rfl rfl hl.1 rfl (lv_room (Nat.le_of_ble_eq_true rfl)) dX2_copy_30 ⟨Nat.le_of_ble_eq_true rfl, Nat.le_of_ble_eq_true rfl⟩) hG (fun r_262 M_263 H locs hw hG => ?_)
      rw [hw.1] at hG
      rw [hw.2, (c5 k hk).1]
      have hmk := (c5 k hk).2.1
      refine va_castY (C := RX1) (nm := "DotGossip$Message") hx hb hown (hts (.classLink RX2 81 "DotGossip$Message") (by decide +kernel)) hT.2.2.2.2.1.1 (gw_rcv (ci := 2) hK hG hmk rfl) dX2_copy_33 ?_
      refine lv_astore_n (lv' := [(2, .ref (my k)), (0, .ref x), (1, .int (nI k))]) hx hb dX2_copy_36 rfl hl (by decide) rfl (fun ls hl => ?_)
      refine lv_aload_n hx hb dX2_copy_37 rfl (lv_at hl 1 rfl) ?_
      refine gw_get (ci := 3) (C := RX2) (T := TX2) (N := 3) hx hb hts hinX2 hown hK hG c1 rfl 1 (by decide) hf19 (fun _ h9 => h9) rfl dX2_copy_38 ?_
      refine gw_new (ci := 2) (fs := [.int 0, .int 0, .null]) (C := RX1) (T := TX1) (N := 3) hx hb hts hinX1 tyX1 tyX1_ok hown (hts (.classLink RX2 81 RX1) (by decide +kernel)) (hts (.instantiable RX1 3) (by decide +kernel)) (hts (.initialized RX1) (by decide +kernel)) hK hG rfl (fun j hj => by rcases (show j = 0 ∨ j = 1 ∨ j = 2 by omega) with rfl | rfl | rfl <;> rfl) (Nat.le_of_ble_eq_true rfl) (Nat.le_of_ble_eq_true rfl) dX2_copy_41 (fun y H hyn hG => ?_)
      obtain ⟨M_264, hM_265⟩ : ∃ M1 : gw_M, M1 = gw_up M y (.inr (2, [.int 0, .int 0, .null])) := ⟨_, rfl⟩
      have hG : gw_B K M_264 s.heap H locs := by rw [hM_265]; exact hG
      have hne_267 : x ≠ y := gw_ne hyn c1
      have hc_266 := (congrFun hM_265 x).trans (gw_k hne_267 c1)
      have hne_269 : aH ≠ y := gw_ne hyn c2
      have hc_268 := (congrFun hM_265 aH).trans (gw_k hne_269 c2)
      have hne_271 : wl ≠ y := gw_ne hyn c4.1
      have hc_270 := (congrFun hM_265 wl).trans (gw_k hne_271 c4.1)
      have hne_273 : my k ≠ y := gw_ne hyn hmk
      have hc_272 := (congrFun hM_265 (my k)).trans (gw_k hne_273 hmk)
      have hc_274 : M_264 y = some (.inr (2, [.int 0, .int 0, .null])) := (congrFun hM_265 _).trans gw_s
      have hg1 : ∀ q e, M q = some e → M_264 q = some e := fun q e he => (congrFun hM_265 q).trans (gw_o hyn he)
      refine lv_dup hx hb dX2_copy_44 rfl ?_
      refine lv_aload_n hx hb dX2_copy_45 rfl (lv_at hl 0 rfl) ?_
      refine gw_get (ci := 2) (C := RX1) (T := TX1) (N := 3) hx hb hts hinX1 hown hK hG hc_272 rfl 0 (by decide) hf112 (fun _ h9 => h9) rfl dX2_copy_46 ?_
      refine lv_aload_n hx hb dX2_copy_49 rfl (lv_at hl 0 rfl) ?_
      refine gw_get (ci := 2) (C := RX1) (T := TX1) (N := 3) hx hb hts hinX1 hown hK hG hc_272 rfl 1 (by decide) hf98 (fun _ h9 => h9) rfl dX2_copy_50 ?_
      refine lv_aload_n hx hb dX2_copy_53 rfl (lv_at hl 0 rfl) ?_
      refine gw_get (ci := 2) (C := RX1) (T := TX1) (N := 3) hx hb hts hinX1 hown hK hG hc_272 rfl 2 (by decide) hf101 (fun _ h9 => h9) rfl dX2_copy_54 ?_
      refine gw_callv (va_runI (As := [.int (nI (S.2.2.2.1 k)), .int (nI (S.2.2.2.2.1 k)), .ref (sn k)]) (rest := [.ref y, .ref wl]) ⟨hx, hb, hml, hown, hts⟩ (c_minit l K M_264 y (sn k) (nI (S.2.2.2.1 k)) (nI (S.2.2.2.2.1 k)) hc_274) (cwI 3 hts gX2_copy_X1_init rfl rfl rfl (hts (.initialized RX1) (by decide +kernel)) (hts (.methodLink RX2 87 yX1_init) (by decide +kernel)) (hts (.instanceMethod yX1_init) (by decide +kernel)) rfl (by decide +kernel) ⟨Nat.le_of_ble_eq_true rfl, Nat.le_of_ble_eq_true rfl⟩) (gw_preS hG hT) rfl rfl hl.1 rfl (lv_room (Nat.le_of_ble_eq_true rfl)) dX2_copy_57 ⟨Nat.le_of_ble_eq_true rfl, Nat.le_of_ble_eq_true rfl⟩) hG (fun M_276 H locs hw hG => ?_)
      have hM3 := hw
      have hy3 := (congrFun hM3 y).trans gw_s
      have hg3 : ∀ q e, M q = some e → M_276 q = some e := fun q e he => (congrFun hM3 q).trans (gw_k (gw_ne hyn he) (hg1 q e he))
      have hE3 := gw_ntE hG hT
      have hs99 : S.2.2.1 < 100 := h100
      obtain ⟨ro3, hro3⟩ : ∃ r : Nat → Nat, r = (fun q => if q = y then 6 else ro q) := ⟨_, rfl⟩
      have hyr : ro3 y = 6 := by rw [hro3]; exact if_pos rfl
      have hroo : ∀ q e, M q = some e → ro3 q = ro q := fun q e he => by rw [hro3]; exact if_neg (gw_ne hyn he)
      obtain ⟨hcs3, hrs3⟩ := cs_grow (ro1 := ro3) hcs hrs (fun q e he => ⟨hg3 q e he, hroo q e he⟩) hE3
      obtain ⟨d0, d1, d2, d3, d4, d5, d6⟩ := id hcs3
      obtain ⟨r0, r1, r2, r3, r4, r5, r6⟩ := id hrs3
      refine gw_calli (va_runV (As := [.ref y]) (rest := []) ⟨hx, hb, hml, hown, hts⟩ (c_add1 l K M_276 wl la cap S.2.2.1 mc lf y _ d4 (fun k9 h9 => ⟨my k9, _, (d5 k9 h9).1, (d5 k9 h9).2.1⟩) hy3 hs99) (cwV 1 hts gX2_copy_Jx4a65c_add_9ea2d rfl rfl rfl (by decide +kernel) ⟨Nat.le_of_ble_eq_true rfl, Nat.le_of_ble_eq_true rfl⟩) (gw_preV hG hT d4.1 rfl) rfl rfl hl.1 rfl (lv_room (Nat.le_of_ble_eq_true rfl)) dX2_copy_60 ⟨Nat.le_of_ble_eq_true rfl, Nat.le_of_ble_eq_true rfl⟩) hG (fun r_277 M_278 H locs hw hG => ?_)
      obtain ⟨hr1, a1, cap1, f1, k1, k2, k3, k4, k5⟩ := hw
      have hE4 := gw_ntE hG hT
      have hmy : ∀ k, k < S.2.2.1 → my k ≠ y := fun k h9 z => by have h8 := (c5 k h9).2.1; rw [z, hyn] at h8; cases h8
      obtain ⟨hcs4, hrs4, hof4⟩ := cs_list (fr1 := fun j => if j = S.2.2.1 then S.2.2.2.1 k else S.2.2.2.1 j) (to1 := fun j => if j = S.2.2.1 then S.2.2.2.2.1 k else S.2.2.2.2.1 j) (my1 := fun j => if j = S.2.2.1 then y else my j) (sn1 := fun j => if j = S.2.2.1 then sn k else sn j) (sad1 := fun j => if j = S.2.2.1 then sad k else sad j) (mV1 := fun j => if j = S.2.2.1 then S.2.2.2.2.2 k else S.2.2.2.2.2 j) hcs3 hrs3 k1 k4 k5 hE4
        (fun j hj => if h9 : j = S.2.2.1 then (by simp only [if_pos h9]; rw [h9]; exact ⟨k3, hy3, (d5 k hk).2.2⟩) else (by simp only [if_neg h9]; rw [k2 j (by omega)]; exact d5 j (by omega)))
        (fun j hj => if h9 : j = S.2.2.1 then (by simp only [if_pos h9]; exact ⟨(c6 k hk).1, (c6 k hk).2⟩) else (by simp only [if_neg h9]; exact d6 j (by omega)))
        (fun j hj => if h9 : j = S.2.2.1 then (by simp only [if_pos h9]; exact ⟨hyr, (r5 k hk).2.1, (r5 k hk).2.2⟩) else (by simp only [if_neg h9]; exact r5 j (by omega)))
        (fun i j hi hj hij => if h8 : i = S.2.2.1 then (if h9 : j = S.2.2.1 then h8.trans h9.symm else (by simp only [if_pos h8, if_neg h9] at hij; exact absurd hij.symm (hmy j (by omega)))) else (if h9 : j = S.2.2.1 then (by simp only [if_neg h8, if_pos h9] at hij; exact absurd hij (hmy i (by omega))) else (by simp only [if_neg h8, if_neg h9] at hij; exact r6 i j (by omega) (by omega) hij)))
      have hof3 : ofr 60 1000 M M_276 ro (ro3) := fun q e he => ⟨hroo q e he, fun _ _ => hg3 q e he⟩
      have hofA := hof3.tr hof4 (fun q e he => ⟨e, hg3 q e he⟩)
      refine lv_pop hx hb dX2_copy_63 rfl ?_
      refine lv_iconst (v := nI 1) hx hb dX2_copy_64 (by decide) ?_
      refine vx_ret ?_
      exact gw_zret hx hb hr hlocks hG hT (by omega) (by omega) dX2_copy_65 (Or.inr (by decide)) ⟨k, ⟨hk, rfl⟩, Or.inr ⟨h100, rfl, _, ⟨_, _, _, _, _, _, _, _, _, _, _, _, hcs4, hrs4⟩, hofA⟩⟩
    · refine lv_iconst (v := nI 0) hx hb dX2_copy_23 (by decide) ?_
      refine vx_ret ?_
      exact gw_zret hx hb hr hlocks hG hT (by omega) (by omega) dX2_copy_24 (Or.inl (by decide)) ⟨k, ⟨hk, rfl⟩, Or.inl ⟨by omega, rfl, rfl⟩⟩

set_option maxHeartbeats 4000000 in
set_option maxRecDepth 100000 in
/-- gossip -/
theorem c_gossip (l : Launch) (hnt : l.stackTraces = false) (K : gw_C) (M : gw_M) (x : Nat) (ro : Nat → Nat) (S : gst) (r9 s9 : Int32) (hS : CS K M ro x S) : vx_Met l yX2_gossip wsX2_gossip ({ frames := 10, cells := 11, slots := 662, locals := 200 } : Room) (va_Pc [.ref x, .int r9, .int s9] (gw_I K M)) (va_Qi (fun r M1 => ∃ rk rj, (rk < S.1 ∧ r9 = nI rk) ∧ (rj < S.1 ∧ s9 = nI rj) ∧ ¬ rk = rj ∧ S.2.2.1 < 100 ∧ r = nI (S.2.2.1 + 1) ∧ ∃ ro1, CS K M1 ro1 x (smsg S rk rj (vsn (S.2.1 rk))) ∧ ofr 60 1000 M M1 ro ro1) (gw_I K) (gw_A K)) (gw_X K (fun E M1 => M1 = M ∧ ((E = "java/lang/IllegalArgumentException" ∧ ¬ (inN r9 S.1 ∧ inN s9 S.1 ∧ ¬ r9 = s9)) ∨ (E = "java/lang/IllegalStateException" ∧ (inN r9 S.1 ∧ inN s9 S.1 ∧ ¬ r9 = s9) ∧ S.2.2.1 = 100)))) 11 662 (gw_A K) := by
  refine vx_ofW (cc := cX2_gossip) (maxL := 3) (ret := (some .int)) (by decide) rfl ?_
  intro p e s m args below meth c s₁ B hml hnone hv
  obtain ⟨hav, hI⟩ := hv
  have hx := B.exec
  have hb := B.bytes
  have hr := B.returns
  have hts := atoms_spec (ws := wsX2_gossip) B.pre
  have hown : s.vm.findClass RX2 = some m.cls := findClass_of_methodNamed B.named
  have hlocks : meth.locks = false := B.notSynchronized
  have hemp : c.exceptionTable.isEmpty = true := B.noHandlers (hts _ List.mem_cons_self)
  have hT := hI.2.2
  have hK := hT.K
  have hG := hI.B
  have hf11 := hts (.fieldLink RX2 11 "DotGossip" "holdings" "[LDotGossip$Holding;") (by decide +kernel)
  have hf19 := hts (.fieldLink RX2 19 "DotGossip" "wire" "Ljava/util/ArrayList;") (by decide +kernel)
  have hf23 := hts (.fieldLink RX2 23 "DotGossip" "replicaCount" "I") (by decide +kernel)
  have hinX0 : ∀ w ∈ wsX00, w ∈ wsX2_gossip := by decide +kernel
  have hinX1 : ∀ w ∈ wsX10, w ∈ wsX2_gossip := by decide +kernel
  have hinX2 : ∀ w ∈ wsX20, w ∈ wsX2_gossip := by decide +kernel
  have hinJx4a65c : ∀ w ∈ wsJx4a65c0, w ∈ wsX2_gossip := by decide +kernel
  have hE : entryFrame m args 3 = entryFrame m ([.ref x, .int r9, .int s9] : List Value).toArray 3 := by rw [hav]
  rw [hE]
  have hl := lv_entry ([.ref x, .int r9, .int s9]) (n := 3) (Nat.le_of_ble_eq_true rfl)
  rw [lg_entry_eq]
  generalize (lg_sl ([.ref x, .int r9, .int s9]) ++ List.replicate (3 - (lg_sl ([.ref x, .int r9, .int s9])).length) Slot.unset).toArray = ls at hl ⊢
  have hl : lv_has ls 3 [(0, .ref x), (1, .int r9), (2, .int s9)] := hl
  obtain ⟨aH, wl, la, cap, mc, g, lf, ho, had, my, sn, sad, hcs, hrs⟩ := id hS
  obtain ⟨c0, c1, c2, c3, c4, c5, c6⟩ := id hcs
  have hs100 := c4.2.1
  refine lv_aload_n hx hb dX2_gossip_0 rfl (lv_at hl 0 rfl) ?_
  refine lv_iload_n hx hb dX2_gossip_1 rfl (lv_at hl 1 rfl) ?_
  refine gw_xcallv (vx_runV (As := [.int r9]) (rest := []) ⟨hx, hb, hml, hown, hts⟩ (c_reqRep l hnt K M x S.1 _ _ r9 c1 c0.2) (cwV 1 hts gX2_gossip_X2_requireReplica rfl rfl rfl (by decide +kernel) ⟨Nat.le_of_ble_eq_true rfl, Nat.le_of_ble_eq_true rfl⟩) (gw_preV hG hT c1 rfl) rfl rfl hl.1 rfl (lv_room (Nat.le_of_ble_eq_true rfl)) dX2_gossip_2 ⟨Nat.le_of_ble_eq_true rfl, Nat.le_of_ble_eq_true rfl⟩) hG (fun E9 ce9 q9 M_280 H locs hw hG h7 h8 h9 => ?_) (fun M_280 H locs hw hG => ?_)
  · exact gw_out hemp hlocks hG hT h7 h8 h9 ⟨hw.2.1, Or.inl ⟨hw.1, fun q => hw.2.2 q.1⟩⟩ (by omega) (by omega)
  · obtain ⟨rk, hrk, rfl⟩ := hw.2
    rw [hw.1] at hG
    refine lv_aload_n hx hb dX2_gossip_5 rfl (lv_at hl 0 rfl) ?_
    refine lv_iload_n hx hb dX2_gossip_6 rfl (lv_at hl 2 rfl) ?_
    refine gw_xcallv (vx_runV (As := [.int s9]) (rest := []) ⟨hx, hb, hml, hown, hts⟩ (c_reqRep l hnt K M x S.1 _ _ s9 c1 c0.2) (cwV 1 hts gX2_gossip_X2_requireReplica rfl rfl rfl (by decide +kernel) ⟨Nat.le_of_ble_eq_true rfl, Nat.le_of_ble_eq_true rfl⟩) (gw_preV hG hT c1 rfl) rfl rfl hl.1 rfl (lv_room (Nat.le_of_ble_eq_true rfl)) dX2_gossip_7 ⟨Nat.le_of_ble_eq_true rfl, Nat.le_of_ble_eq_true rfl⟩) hG (fun E9 ce9 q9 M_282 H locs hw hG h7 h8 h9 => ?_) (fun M_282 H locs hw hG => ?_)
    · exact gw_out hemp hlocks hG hT h7 h8 h9 ⟨hw.2.1, Or.inl ⟨hw.1, fun q => hw.2.2 q.2.1⟩⟩ (by omega) (by omega)
    · obtain ⟨rj, hrj, rfl⟩ := hw.2
      rw [hw.1] at hG
      refine lv_iload_n hx hb dX2_gossip_10 rfl (lv_at hl 1 rfl) ?_
      refine lv_iload_n hx hb dX2_gossip_11 rfl (lv_at hl 2 rfl) ?_
      refine lv_icmp_eq hx hb (tgt := 19) dX2_gossip_12 (by decide) (fun hq => ?_) (fun hq => ?_)
      · refine lv_iconst (v := nI 0) hx hb dX2_gossip_19 (by decide) ?_
        refine gw_xcallv (vx_runS (As := [.int (nI 0)]) (rest := []) ⟨hx, hb, hml, hown, hts⟩ (c_require l hnt K M (nI 0)) (va_cwS 1 hts gX2_gossip_X2_require rfl rfl rfl (by decide +kernel) ⟨Nat.le_of_ble_eq_true rfl, Nat.le_of_ble_eq_true rfl⟩) (gw_preS hG hT) rfl rfl hl.1 rfl (lv_room (Nat.le_of_ble_eq_true rfl)) dX2_gossip_20 ⟨Nat.le_of_ble_eq_true rfl, Nat.le_of_ble_eq_true rfl⟩) hG (fun E9 ce9 q9 M_284 H locs hw hG h7 h8 h9 => ?_) (fun M_284 H locs hw hG => ?_)
        · exact gw_out hemp hlocks hG hT h7 h8 h9 ⟨hw.2.1, Or.inl ⟨hw.1, fun q => q.2.2 hq⟩⟩ (by omega) (by omega)
        · exact absurd (by decide) hw.2
      · refine lv_iconst (v := nI 1) hx hb dX2_gossip_15 (by decide) ?_
        refine lv_goto (tgt := 20) hx hb dX2_gossip_16 (by decide) ?_
        refine gw_xcallv (vx_runS (As := [.int (nI 1)]) (rest := []) ⟨hx, hb, hml, hown, hts⟩ (c_require l hnt K M (nI 1)) (va_cwS 1 hts gX2_gossip_X2_require rfl rfl rfl (by decide +kernel) ⟨Nat.le_of_ble_eq_true rfl, Nat.le_of_ble_eq_true rfl⟩) (gw_preS hG hT) rfl rfl hl.1 rfl (lv_room (Nat.le_of_ble_eq_true rfl)) dX2_gossip_20 ⟨Nat.le_of_ble_eq_true rfl, Nat.le_of_ble_eq_true rfl⟩) hG (fun E9 ce9 q9 M_286 H locs hw hG h7 h8 h9 => ?_) (fun M_286 H locs hw hG => ?_)
        · exact absurd hw.2.2 (by decide)
        · rw [hw.1] at hG
          refine lv_aload_n hx hb dX2_gossip_23 rfl (lv_at hl 0 rfl) ?_
          refine gw_get (ci := 3) (C := RX2) (T := TX2) (N := 3) hx hb hts hinX2 hown hK hG c1 rfl 1 (by decide) hf19 (fun _ h9 => h9) rfl dX2_gossip_24 ?_
          refine gw_calli (va_runV (As := []) (rest := []) ⟨hx, hb, hml, hown, hts⟩ (c_alsize l K M wl la S.2.2.1 mc c4.1) (cwV 0 hts gX2_gossip_Jx4a65c_size_8abf5 rfl rfl rfl (by decide +kernel) ⟨Nat.le_of_ble_eq_true rfl, Nat.le_of_ble_eq_true rfl⟩) (gw_preV hG hT c4.1 rfl) rfl rfl hl.1 rfl (lv_room (Nat.le_of_ble_eq_true rfl)) dX2_gossip_27 ⟨Nat.le_of_ble_eq_true rfl, Nat.le_of_ble_eq_true rfl⟩) hG (fun r_287 M_288 H locs hw hG => ?_)
          rw [hw.1] at hG
          refine gw_as hw.2 ?_
          refine lv_bipush (v := nI 100) hx hb dX2_gossip_30 (by decide) ?_
          refine gw_icmp_lt hx hb (by omega) (by omega) (tgt := 43) dX2_gossip_32 (by decide) (fun h100 => ?_) (fun h100 => ?_)
          · refine lv_aload_n hx hb dX2_gossip_43 rfl (lv_at hl 0 rfl) ?_
            refine gw_get (ci := 3) (C := RX2) (T := TX2) (N := 3) hx hb hts hinX2 hown hK hG c1 rfl 1 (by decide) hf19 (fun _ h9 => h9) rfl dX2_gossip_44 ?_
            refine gw_new (ci := 2) (fs := [.int 0, .int 0, .null]) (C := RX1) (T := TX1) (N := 3) hx hb hts hinX1 tyX1 tyX1_ok hown (hts (.classLink RX2 81 RX1) (by decide +kernel)) (hts (.instantiable RX1 3) (by decide +kernel)) (hts (.initialized RX1) (by decide +kernel)) hK hG rfl (fun j hj => by rcases (show j = 0 ∨ j = 1 ∨ j = 2 by omega) with rfl | rfl | rfl <;> rfl) (Nat.le_of_ble_eq_true rfl) (Nat.le_of_ble_eq_true rfl) dX2_gossip_47 (fun y H hyn hG => ?_)
            obtain ⟨M_289, hM_290⟩ : ∃ M1 : gw_M, M1 = gw_up M y (.inr (2, [.int 0, .int 0, .null])) := ⟨_, rfl⟩
            have hG : gw_B K M_289 s.heap H locs := by rw [hM_290]; exact hG
            have hne_292 : x ≠ y := gw_ne hyn c1
            have hc_291 := (congrFun hM_290 x).trans (gw_k hne_292 c1)
            have hne_294 : aH ≠ y := gw_ne hyn c2
            have hc_293 := (congrFun hM_290 aH).trans (gw_k hne_294 c2)
            have hne_296 : wl ≠ y := gw_ne hyn c4.1
            have hc_295 := (congrFun hM_290 wl).trans (gw_k hne_296 c4.1)
            have hc_297 : M_289 y = some (.inr (2, [.int 0, .int 0, .null])) := (congrFun hM_290 _).trans gw_s
            have hg1 : ∀ q e, M q = some e → M_289 q = some e := fun q e he => (congrFun hM_290 q).trans (gw_o hyn he)
            refine lv_dup hx hb dX2_gossip_50 rfl ?_
            refine lv_iload_n hx hb dX2_gossip_51 rfl (lv_at hl 1 rfl) ?_
            refine lv_iload_n hx hb dX2_gossip_52 rfl (lv_at hl 2 rfl) ?_
            refine lv_aload_n hx hb dX2_gossip_53 rfl (lv_at hl 0 rfl) ?_
            refine gw_get (ci := 3) (C := RX2) (T := TX2) (N := 3) hx hb hts hinX2 hown hK hG hc_291 rfl 0 (by decide) hf11 (fun _ h9 => h9) rfl dX2_gossip_54 ?_
            refine lv_iload_n hx hb dX2_gossip_57 rfl (lv_at hl 1 rfl) ?_
            refine gw_aldq_n (v := some (ho rk)) hx hb hK hG hc_293 2 rfl (by omega) (by omega) (c3 rk (by omega)).1 dX2_gossip_58 ?_
            have hh1 := hd_mono (c3 rk (by omega)).2 (fun q e he _ => hg1 q e he)
            refine gw_callq (va_runV (As := []) (rest := [.int (nI rj), .int (nI rk), .ref y, .ref y, .ref wl]) ⟨hx, hb, hml, hown, hts⟩ (c_snapshot l K M_289 (ho rk) (had rk) (S.2.1 rk) hh1) (cwV 0 hts gX2_gossip_X0_snapshot rfl rfl rfl (by decide +kernel) ⟨Nat.le_of_ble_eq_true rfl, Nat.le_of_ble_eq_true rfl⟩) (gw_preV hG hT hh1.1 rfl) rfl rfl hl.1 rfl (lv_room (Nat.le_of_ble_eq_true rfl)) dX2_gossip_59 ⟨Nat.le_of_ble_eq_true rfl, Nat.le_of_ble_eq_true rfl⟩) hG (fun r_298 M_299 H locs hw hG => ?_)
            obtain ⟨g9, ad9, hr9, hd9, hg0, had0, hk2⟩ := hw
            rw [hr9]
            refine gw_callv (va_runI (As := [.int (nI rk), .int (nI rj), .ref g9]) (rest := [.ref y, .ref wl]) ⟨hx, hb, hml, hown, hts⟩ (c_minit l K M_299 y g9 (nI rk) (nI rj) (hk2 y _ hc_297)) (cwI 3 hts gX2_gossip_X1_init rfl rfl rfl (hts (.initialized RX1) (by decide +kernel)) (hts (.methodLink RX2 87 yX1_init) (by decide +kernel)) (hts (.instanceMethod yX1_init) (by decide +kernel)) rfl (by decide +kernel) ⟨Nat.le_of_ble_eq_true rfl, Nat.le_of_ble_eq_true rfl⟩) (gw_preS hG hT) rfl rfl hl.1 rfl (lv_room (Nat.le_of_ble_eq_true rfl)) dX2_gossip_62 ⟨Nat.le_of_ble_eq_true rfl, Nat.le_of_ble_eq_true rfl⟩) hG (fun M_301 H locs hw hG => ?_)
            have hM3 := hw
            have hy3 := (congrFun hM3 y).trans gw_s
            have hg3 : ∀ q e, M q = some e → M_301 q = some e := fun q e he => (congrFun hM3 q).trans (gw_k (gw_ne hyn he) (hk2 q e (hg1 q e he)))
            have hng : ∀ q e, M q = some e → q ≠ g9 := fun q e he => gw_ne hg0 (hg1 q e he)
            have hna : ∀ q e, M q = some e → ∀ j, j < 5 → q ≠ ad9 j := fun q e he j hj => gw_ne (had0 j hj) (hg1 q e he)
            have hyg : y ≠ g9 := gw_ne hg0 hc_297
            have hya : ∀ j, j < 5 → y ≠ ad9 j := fun j hj => gw_ne (had0 j hj) hc_297
            have hga : ∀ j, j < 5 → g9 ≠ ad9 j := by
              intro j hj
              obtain ⟨e1, e2, e3, e4, e5, e6, -⟩ := id hd9
              rcases (show j = 0 ∨ j = 1 ∨ j = 2 ∨ j = 3 ∨ j = 4 by omega) with rfl | rfl | rfl | rfl | rfl
              · exact gw_io e1 e2
              · exact gw_io e1 e3
              · exact gw_io e1 e4
              · exact gw_io e1 e5
              · exact gw_io e1 e6
            have hd3 : hd K M_301 g9 ad9 (vsn (S.2.1 rk)) := hd_mono hd9 (fun q e he hq => (congrFun hM3 q).trans (gw_k (hq.elim (fun z => by rw [z]; exact Ne.symm hyg) (fun ⟨j, hj, z⟩ => by rw [z]; exact Ne.symm (hya j hj))) he))
            have hnot : ∀ q e, M q = some e → ¬ (q = ad9 0 ∨ q = ad9 1 ∨ q = ad9 2 ∨ q = ad9 3 ∨ q = ad9 4) := by
              intro q e he hq
              rcases hq with z | z | z | z | z
              · exact hna q e he 0 (by decide) z
              · exact hna q e he 1 (by decide) z
              · exact hna q e he 2 (by decide) z
              · exact hna q e he 3 (by decide) z
              · exact hna q e he 4 (by decide) z
            have hE3 := gw_ntE hG hT
            have hs99 : S.2.2.1 < 100 := h100
            obtain ⟨ro3, hro3⟩ : ∃ r : Nat → Nat, r = (fun q => if q = y then 6 else if q = g9 then 7 else if q = ad9 0 ∨ q = ad9 1 ∨ q = ad9 2 ∨ q = ad9 3 ∨ q = ad9 4 then 8 else ro q) := ⟨_, rfl⟩
            have hyr : ro3 y = 6 := by rw [hro3]; exact if_pos rfl
            have hroo : ∀ q e, M q = some e → ro3 q = ro q := fun q e he => by rw [hro3]; exact (by show (if q = y then 6 else if q = g9 then 7 else if _ then 8 else ro q) = ro q; rw [if_neg (gw_ne hyn he), if_neg (hng q e he), if_neg (hnot q e he)])
            have hrg := (show ro3 g9 = 7 by rw [hro3]; exact (by show (if g9 = y then 6 else if g9 = g9 then 7 else _) = 7; rw [if_neg (Ne.symm hyg), if_pos rfl]))
            have hra : ∀ j, j < 5 → ro3 (ad9 j) = 8 := by rw [hro3]; exact (fun j8 hj8 => by show (if ad9 j8 = y then 6 else if ad9 j8 = g9 then 7 else if _ then 8 else ro (ad9 j8)) = 8; rw [if_neg (Ne.symm (hya j8 hj8)), if_neg (Ne.symm (hga j8 hj8)), if_pos (by rcases (show j8 = 0 ∨ j8 = 1 ∨ j8 = 2 ∨ j8 = 3 ∨ j8 = 4 by omega) with rfl | rfl | rfl | rfl | rfl <;> simp)])
            obtain ⟨hcs3, hrs3⟩ := cs_grow (ro1 := ro3) hcs hrs (fun q e he => ⟨hg3 q e he, hroo q e he⟩) hE3
            obtain ⟨d0, d1, d2, d3, d4, d5, d6⟩ := id hcs3
            obtain ⟨r0, r1, r2, r3, r4, r5, r6⟩ := id hrs3
            refine gw_calli (va_runV (As := [.ref y]) (rest := []) ⟨hx, hb, hml, hown, hts⟩ (c_add1 l K M_301 wl la cap S.2.2.1 mc lf y _ d4 (fun k9 h9 => ⟨my k9, _, (d5 k9 h9).1, (d5 k9 h9).2.1⟩) hy3 hs99) (cwV 1 hts gX2_gossip_Jx4a65c_add_9ea2d rfl rfl rfl (by decide +kernel) ⟨Nat.le_of_ble_eq_true rfl, Nat.le_of_ble_eq_true rfl⟩) (gw_preV hG hT d4.1 rfl) rfl rfl hl.1 rfl (lv_room (Nat.le_of_ble_eq_true rfl)) dX2_gossip_65 ⟨Nat.le_of_ble_eq_true rfl, Nat.le_of_ble_eq_true rfl⟩) hG (fun r_302 M_303 H locs hw hG => ?_)
            obtain ⟨hr1, a1, cap1, f1, k1, k2, k3, k4, k5⟩ := hw
            have hE4 := gw_ntE hG hT
            have hmy : ∀ k, k < S.2.2.1 → my k ≠ y := fun k h9 z => by have h8 := (c5 k h9).2.1; rw [z, hyn] at h8; cases h8
            obtain ⟨hcs4, hrs4, hof4⟩ := cs_list (fr1 := fun j => if j = S.2.2.1 then rk else S.2.2.2.1 j) (to1 := fun j => if j = S.2.2.1 then rj else S.2.2.2.2.1 j) (my1 := fun j => if j = S.2.2.1 then y else my j) (sn1 := fun j => if j = S.2.2.1 then g9 else sn j) (sad1 := fun j => if j = S.2.2.1 then ad9 else sad j) (mV1 := fun j => if j = S.2.2.1 then vsn (S.2.1 rk) else S.2.2.2.2.2 j) hcs3 hrs3 k1 k4 k5 hE4
              (fun j hj => if h9 : j = S.2.2.1 then (by simp only [if_pos h9]; rw [h9]; exact ⟨k3, hy3, hd3⟩) else (by simp only [if_neg h9]; rw [k2 j (by omega)]; exact d5 j (by omega)))
              (fun j hj => if h9 : j = S.2.2.1 then (by simp only [if_pos h9]; exact ⟨(by omega), (by omega)⟩) else (by simp only [if_neg h9]; exact d6 j (by omega)))
              (fun j hj => if h9 : j = S.2.2.1 then (by simp only [if_pos h9]; exact ⟨hyr, hrg, hra⟩) else (by simp only [if_neg h9]; exact r5 j (by omega)))
              (fun i j hi hj hij => if h8 : i = S.2.2.1 then (if h9 : j = S.2.2.1 then h8.trans h9.symm else (by simp only [if_pos h8, if_neg h9] at hij; exact absurd hij.symm (hmy j (by omega)))) else (if h9 : j = S.2.2.1 then (by simp only [if_neg h8, if_pos h9] at hij; exact absurd hij (hmy i (by omega))) else (by simp only [if_neg h8, if_neg h9] at hij; exact r6 i j (by omega) (by omega) hij)))
            have hof3 : ofr 60 1000 M M_301 ro (ro3) := fun q e he => ⟨hroo q e he, fun _ _ => hg3 q e he⟩
            have hofA := hof3.tr hof4 (fun q e he => ⟨e, hg3 q e he⟩)
            refine lv_pop hx hb dX2_gossip_68 rfl ?_
            refine lv_aload_n hx hb dX2_gossip_69 rfl (lv_at hl 0 rfl) ?_
            refine gw_get (ci := 3) (C := RX2) (T := TX2) (N := 3) hx hb hts hinX2 hown hK hG hcs4.2.1 rfl 1 (by decide) hf19 (fun _ h9 => h9) rfl dX2_gossip_70 ?_
            refine gw_calli (va_runV (As := []) (rest := []) ⟨hx, hb, hml, hown, hts⟩ (c_alsize l K M_303 wl a1 (S.2.2.1 + 1) (mc + nI 1) k1.1) (cwV 0 hts gX2_gossip_Jx4a65c_size_8abf5 rfl rfl rfl (by decide +kernel) ⟨Nat.le_of_ble_eq_true rfl, Nat.le_of_ble_eq_true rfl⟩) (gw_preV hG hT k1.1 rfl) rfl rfl hl.1 rfl (lv_room (Nat.le_of_ble_eq_true rfl)) dX2_gossip_73 ⟨Nat.le_of_ble_eq_true rfl, Nat.le_of_ble_eq_true rfl⟩) hG (fun r_304 M_305 H locs hw hG => ?_)
            rw [hw.1] at hG
            refine gw_as hw.2 ?_
            refine vx_ret ?_
            exact gw_iret hx hb hr hlocks hG hT (by omega) (by omega) dX2_gossip_76 ⟨rk, rj, ⟨hrk, rfl⟩, ⟨hrj, rfl⟩, fun z => hq (by rw [z]), h100, rfl, _, ⟨_, _, _, _, _, _, _, _, _, _, _, _, hcs4, hrs4⟩, hofA⟩
          · exact gw_throw0 hx hb hnt hown (by decide +kernel) (hts (.classLink RX2 78 "java/lang/IllegalStateException") (by decide +kernel)) (hts (.initialized "java/lang/IllegalStateException") (by decide +kernel)) (fun w9 h9 => hts w9 ((by decide +kernel : ∀ w ∈ (vx_at0 RX2 80 "java/lang/IllegalStateException" ["java/lang/RuntimeException", "java/lang/Exception"]).filter goodWord, w ∈ wsX2_gossip) w9 h9)) hT.2.2.2.1.2 hT hG (hl.1.trans hml.symm) (by decide +kernel) (by decide +kernel) dX2_gossip_35 dX2_gossip_38 dX2_gossip_39 dX2_gossip_42 hemp (Nat.le_of_ble_eq_true rfl) (Nat.le_of_ble_eq_true rfl) (Nat.le_of_ble_eq_true rfl) (Nat.le_of_ble_eq_true rfl) hlocks (by omega) (by omega) ⟨rfl, Or.inr ⟨rfl, ⟨⟨rk, hrk, rfl⟩, ⟨rj, hrj, rfl⟩, hq⟩, by omega⟩⟩
