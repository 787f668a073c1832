/-- the state of a new object -/
def snew : gst := (2, (fun _ => hV0), 0, (fun _ => 0), (fun _ => 0), fun _ => hV0)
/-- i holdings of nothing, made one by one -/
def ci_at (K : gw_C) (M0 M : gw_M) (x aH i : Nat) (ro0 : Nat → Nat) : Prop :=
  ∃ (g : Nat → Option Nat) (ho : Nat → Nat) (had : Nat → Nat → Nat) (ro : Nat → Nat), M x = some (.inr (3, [.ref aH, .null, .int 0])) ∧ M aH = some (.inl (K.2.1 2, 6, .inr (.inr (.inr (.inr g))))) ∧
    (∀ k, k < i → g k = some (ho k) ∧ hd K M (ho k) (had k) hV0) ∧ ro x = 1 ∧ ro aH = 2 ∧ (∀ k, k < i → ro (ho k) = 5 ∧ ∀ j, j < 5 → ro (had k j) = 10 + k * 5 + j) ∧ ∀ q e, q ≠ x → M0 q = some e → M q = some e ∧ ro q = ro0 q ∧ q ≠ aH
set_option maxHeartbeats 4000000 in
set_option maxRecDepth 100000 in
/-- DotGossip() -/
theorem c_init (l : Launch) (K : gw_C) (M : gw_M) (x : Nat) (ro0 : Nat → Nat) (hx0 : M x = some (.inr (3, [.null, .null, .int 0]))) : Met l yX2_init wsX2_init ({ frames := 4, cells := 40, slots := 3000, locals := 80 } : Room) (va_Pc [.ref x] (gw_I K M)) (va_Qv (fun M1 => ∃ ro, CS K M1 ro x snew ∧ ∀ q e, q ≠ x → M q = some e → M1 q = some e ∧ ro q = ro0 q) (gw_I K) (gw_A K)) 40 3000 (gw_A K) := by
  refine Met.ofW (cc := cX2_init) (maxL := 2) (ret := none) (by decide) rfl ?_
  intro p e s m args below meth c s₁ B hml hv
  obtain ⟨hav, hI⟩ := hv
  have hx := B.exec
  have hb := B.bytes
  have hr := B.returns
  have hts := atoms_spec (ws := wsX2_init) B.pre
  have hown : s.vm.findClass RX2 = some m.cls := findClass_of_methodNamed B.named
  have hlocks : meth.locks = false := B.notSynchronized
  have hT := hI.2.2
  have hK := hT.K
  have hG := hI.B
  have hf11 := hts (.fieldLink RX2 11 "DotGossip" "holdings" "[LDotGossip$Holding;") (by decide +kernel)
  have hf19 := hts (.fieldLink RX2 19 "DotGossip" "wire" "Ljava/util/ArrayList;") (by decide +kernel)
  have hf23 := hts (.fieldLink RX2 23 "DotGossip" "replicaCount" "I") (by decide +kernel)
  have hinX0 : ∀ w ∈ wsX00, w ∈ wsX2_init := by decide +kernel
  have hinX2 : ∀ w ∈ wsX20, w ∈ wsX2_init := by decide +kernel
  have hinJx4a65c : ∀ w ∈ wsJx4a65c0, w ∈ wsX2_init := by decide +kernel
  have hE : entryFrame m args 2 = entryFrame m ([.ref x] : List Value).toArray 2 := by rw [hav]
  rw [hE]
  have hl := lv_entry ([.ref x]) (n := 2) (Nat.le_of_ble_eq_true rfl)
  rw [lg_entry_eq]
  generalize (lg_sl ([.ref x]) ++ List.replicate (2 - (lg_sl ([.ref x])).length) Slot.unset).toArray = ls at hl ⊢
  have hl : lv_has ls 2 [(0, .ref x)] := hl
  have hini : meth.name = "<init>" := (name_of_methodNamed B.named B.method).1
  refine lv_aload_n hx hb dX2_init_0 rfl (lv_at hl 0 rfl) ?_
  refine W.objInit hx hb hown (hts (.methodLink RX2 3 objectInit) (by decide +kernel)) (hts (.instanceMethod objectInit) (by decide +kernel)) (hts (.code objectInit ⟨#[0xb1]⟩ 1 none) (by decide +kernel)) rfl (by rw [hml]; exact hl.1) rfl dX2_init_1 (Nat.le_of_ble_eq_true rfl) (Nat.le_of_ble_eq_true rfl) ?_
  refine W.eq (g2 := F0 m 4 ls []) rfl ?_
  refine lv_aload_n hx hb dX2_init_4 rfl (lv_at hl 0 rfl) ?_
  refine lv_bipush (v := nI 6) hx hb dX2_init_5 (by decide) ?_
  refine gw_newq (C := "DotGossip$Holding") (n := nI 6) (N' := 6) hx hb hown (hts (.classLink RX2 9 "DotGossip$Holding") (by decide +kernel)) hT.2.2.2.2.2.1.1 hK hG 2 rfl (by decide) (by decide) (by decide) (Nat.le_of_ble_eq_true rfl) (Nat.le_of_ble_eq_true rfl) dX2_init_7 (fun aH H haH hG => ?_)
  obtain ⟨M_256, hM_257⟩ : ∃ M1 : gw_M, M1 = gw_up M aH (.inl (K.2.1 2, 6, .inr (.inr (.inr (.inr (fun _ => none)))))) := ⟨_, rfl⟩
  have hG : gw_B K M_256 s.heap H [] := by rw [hM_257]; exact hG
  have hne_259 : x ≠ aH := gw_ne haH hx0
  have hc_258 := (congrFun hM_257 x).trans (gw_k hne_259 hx0)
  have hc_260 : M_256 aH = some (.inl (K.2.1 2, 6, .inr (.inr (.inr (.inr (fun _ => none)))))) := (congrFun hM_257 _).trans gw_s
  refine gw_putF (ci := 3) (v := .ref aH) (ty := .array (.object "DotGossip$Holding")) (C := RX2) (T := TX2) (N := 3) hx hb hts hinX2 tyX2 tyX2_ok nmX2 hown hK hG hc_258 rfl 0 (by decide) hf11 (fun _ h9 => h9) rfl hini rfl (by decide +kernel) rfl rfl (Nat.le_of_ble_eq_true rfl) dX2_init_10 (fun H locs hG => ?_)
  obtain ⟨M_261, hM_262⟩ : ∃ M1 : gw_M, M1 = gw_up M_256 x (.inr (3, [.ref aH, .null, .int 0])) := ⟨_, rfl⟩
  have hG : gw_B K M_261 s.heap H locs := by rw [hM_262]; exact hG
  have hc_263 : M_261 x = some (.inr (3, [.ref aH, .null, .int 0])) := (congrFun hM_262 _).trans gw_s
  have hc_264 := (congrFun hM_262 aH).trans (gw_k (Ne.symm hne_259) hc_260)
  refine lv_iconst (v := nI 0) hx hb dX2_init_13 (by decide) ?_
  refine lv_istore_n (lv' := [(1, .int (nI 0)), (0, .ref x)]) hx hb dX2_init_14 rfl hl (by decide) rfl (fun ls hl => ?_)
  have hloop : ∀ (n : Nat) (i : Nat), i ≤ 6 → 6 + 1 ≤ i + n → ∀ (Mi : gw_M), (ci_at K M Mi x aH i ro0) → ∀ (H : Heap) (locs : List Loc), gw_B K Mi s.heap H locs → ∀ (ls : Array Slot), lv_has ls 2 [(1, .int (nI i)), (0, .ref x)] → W p l e ({ frames := 4, cells := 40, slots := 3000, locals := 80 } : Room) s m args below meth c H locs (1 + i * 6) (6 + i * 491) (MQ below (va_Qv (fun M1 => ∃ ro, CS K M1 ro x snew ∧ ∀ q e, q ≠ x → M q = some e → M1 q = some e ∧ ro q = ro0 q) (gw_I K) (gw_A K)) args s 40 3000 (gw_A K)) (F0 m 15 ls []) := by
    intro n
    induction n with
    | zero =>
      intro i hg0 hm
      exact absurd hm (by omega)
    | succ n ih =>
      intro i hg0 hm Mi hMi H locs hG ls hl
      obtain ⟨g, ho, had, ro, q1, q2, q3, q4, q5, q6, q7⟩ := hMi
      have hxa : x ≠ aH := gw_io q1 q2
      refine lv_iload_n hx hb dX2_init_15 rfl (lv_at hl 0 rfl) ?_
      refine lv_bipush (v := nI 6) hx hb dX2_init_16 (by decide) ?_
      refine gw_icmp_ge hx hb (by omega) (by omega) (tgt := 40) dX2_init_18 (by decide) (fun hc => ?_) (fun hc => ?_)
      · have e6 : i = 6 := by omega
        refine lv_aload_n hx hb dX2_init_40 rfl (lv_at hl 1 rfl) ?_
        refine gw_new (ci := 0) (fs := [.int 0, .null, .int 0]) (C := RJx4a65c) (T := TJx4a65c) (N := 3) hx hb hts hinJx4a65c tyJx4a65c tyJx4a65c_ok hown (hts (.classLink RX2 16 RJx4a65c) (by decide +kernel)) (hts (.instantiable RJx4a65c 3) (by decide +kernel)) (hts (.initialized RJx4a65c) (by decide +kernel)) hK hG rfl (fun j hj => by rcases (show j = 0 ∨ j = 1 ∨ j = 2 by omega) with rfl | rfl | rfl <;> rfl) (show 1 + i * 6 + 1 ≤ 40 by omega) (show 6 + i * 491 + 3 ≤ 3000 by omega) dX2_init_41 (fun w9 H hn9 hG => ?_)
        obtain ⟨M_277, hM_278⟩ : ∃ M1 : gw_M, M1 = gw_up Mi w9 (.inr (0, [.int 0, .null, .int 0])) := ⟨_, rfl⟩
        have hG : gw_B K M_277 s.heap H locs := by rw [hM_278]; exact hG
        have hne_280 : x ≠ w9 := gw_ne hn9 q1
        have hc_279 := (congrFun hM_278 x).trans (gw_k hne_280 q1)
        have hne_282 : aH ≠ w9 := gw_ne hn9 q2
        have hc_281 := (congrFun hM_278 aH).trans (gw_k hne_282 q2)
        have hc_283 : M_277 w9 = some (.inr (0, [.int 0, .null, .int 0])) := (congrFun hM_278 _).trans gw_s
        refine lv_dup hx hb dX2_init_44 rfl ?_
        refine gw_callv (va_runI (As := []) (rest := [.ref w9, .ref x]) ⟨hx, hb, hml, hown, hts⟩ (c_alinit l K M_277 w9 hc_283) (cwI 0 hts gX2_init_Jx4a65c_init_da8c8 rfl rfl rfl (hts (.initialized RJx4a65c) (by decide +kernel)) (hts (.methodLink RX2 18 yJx4a65c_init_da8c8) (by decide +kernel)) (hts (.instanceMethod yJx4a65c_init_da8c8) (by decide +kernel)) rfl (by decide +kernel) ⟨Nat.le_of_ble_eq_true rfl, Nat.le_of_ble_eq_true rfl⟩) (gw_preS hG hT) rfl rfl hl.1 rfl (lv_room (Nat.le_of_ble_eq_true rfl)) dX2_init_45 ⟨show 1 + i * 6 + 1 + 0 ≤ 40 by omega, show 6 + i * 491 + 3 + 0 ≤ 3000 by omega⟩) hG (fun M_285 H locs hw hG => ?_)
        have hM_286 := hw
        have hc_287 := (congrFun hM_286 x).trans (gw_k hne_280 hc_279)
        have hc_288 := (congrFun hM_286 aH).trans (gw_k hne_282 hc_281)
        have hc_289 : M_285 w9 = some (.inr (0, [.int (nI 0), .ref K.2.2.2.1, .int 0])) := (congrFun hM_286 _).trans gw_s
        refine gw_putF (ci := 3) (v := .ref w9) (ty := .object "java/util/ArrayList") (C := RX2) (T := TX2) (N := 3) hx hb hts hinX2 tyX2 tyX2_ok nmX2 hown hK hG hc_287 rfl 1 (by decide) hf19 (fun _ h9 => h9) rfl hini rfl (by decide +kernel) rfl rfl (Nat.le_of_ble_eq_true rfl) dX2_init_48 (fun H locs hG => ?_)
        obtain ⟨M_290, hM_291⟩ : ∃ M1 : gw_M, M1 = gw_up M_285 x (.inr (3, [.ref aH, .ref w9, .int 0])) := ⟨_, rfl⟩
        have hG : gw_B K M_290 s.heap H locs := by rw [hM_291]; exact hG
        have hc_292 : M_290 x = some (.inr (3, [.ref aH, .ref w9, .int 0])) := (congrFun hM_291 _).trans gw_s
        have hc_293 := (congrFun hM_291 aH).trans (gw_k (Ne.symm hxa) hc_288)
        have hc_294 := (congrFun hM_291 w9).trans (gw_k (Ne.symm hne_280) hc_289)
        refine lv_aload_n hx hb dX2_init_51 rfl (lv_at hl 1 rfl) ?_
        refine lv_iconst (v := nI 2) hx hb dX2_init_52 (by decide) ?_
        refine gw_put (ci := 3) (v := .int (nI 2)) (ty := .int) (C := RX2) (T := TX2) (N := 3) hx hb hts hinX2 tyX2 tyX2_ok nmX2 hown hK hG hc_292 rfl 2 (by decide) hf23 (fun _ h9 => h9) rfl (by decide +kernel) rfl rfl (Nat.le_of_ble_eq_true rfl) dX2_init_53 (fun H locs hG => ?_)
        obtain ⟨M_295, hM_296⟩ : ∃ M1 : gw_M, M1 = gw_up M_290 x (.inr (3, [.ref aH, .ref w9, .int (nI 2)])) := ⟨_, rfl⟩
        have hG : gw_B K M_295 s.heap H locs := by rw [hM_296]; exact hG
        have hc_297 : M_295 x = some (.inr (3, [.ref aH, .ref w9, .int (nI 2)])) := (congrFun hM_296 _).trans gw_s
        have hc_298 := (congrFun hM_296 aH).trans (gw_k (Ne.symm hxa) hc_293)
        have hc_299 := (congrFun hM_296 w9).trans (gw_k (Ne.symm hne_280) hc_294)
        have hE := gw_ntE hG hT
        have kk9 : ∀ q e, q ≠ x → Mi q = some e → M_295 q = some e := fun q e h8 he => (congrFun hM_296 q).trans (gw_k h8 ((congrFun hM_291 q).trans (gw_k h8 ((congrFun hM_286 q).trans (gw_k (gw_ne hn9 he) ((congrFun hM_278 q).trans (gw_o hn9 he)))))))
        obtain ⟨ro9, hro9⟩ : ∃ r : Nat → Nat, r = (fun q => if q = w9 then 3 else ro q) := ⟨_, rfl⟩
        have hoo : ∀ q e, Mi q = some e → ro9 q = ro q := fun q e he => by rw [hro9]; exact if_neg (gw_ne hn9 he)
        have hal : al K M_295 w9 K.2.2.2.1 0 0 (nI 0) (fun _ => none) := ⟨hc_299, by omega, Or.inl ⟨rfl, rfl, rfl⟩⟩
        have hhold : ∀ k, k < 6 → g k = some (ho k) ∧ hd K M_295 (ho k) (had k) hV0 := fun k hk => ⟨(q3 k (by omega)).1, hd_mono (q3 k (by omega)).2 (fun q e he hq => kk9 q e (fun z => hq.elim (fun z2 => by have h8 := (q6 k (by omega)).1; rw [← z2, z, q4] at h8; exact absurd h8 (by decide)) (fun ⟨j, hj, z2⟩ => by have h8 := (q6 k (by omega)).2 j hj; rw [← z2, z, q4] at h8; omega)) he)⟩
        have hcs : cs K M_295 x snew aH w9 K.2.2.2.1 0 (nI 0) g (fun _ => none) ho had (fun _ => 0) (fun _ => 0) (fun _ _ => 0) := ⟨⟨by decide, by decide⟩, hc_297, hc_298, hhold, hal, fun k h9 => absurd h9 (Nat.not_lt_zero k), fun k h9 => absurd h9 (Nat.not_lt_zero k)⟩
        have hrs : rs M_295 ro9 x 0 aH w9 K.2.2.2.1 ho had (fun _ => 0) (fun _ => 0) (fun _ _ => 0) := ⟨(hoo _ _ q1).trans q4, (hoo _ _ q2).trans q5, (by rw [hro9]; exact if_pos rfl), (fun e he => by rw [hE] at he; exact absurd he (fun z => by cases z)), fun k hk => ⟨(hoo _ _ (q3 k (by omega)).2.1).trans (q6 k (by omega)).1, fun j hj => (hd_some (q3 k (by omega)).2 j hj).elim (fun e he => (hoo _ e he).trans ((q6 k (by omega)).2 j hj))⟩, fun k h9 => absurd h9 (Nat.not_lt_zero k), fun j k h9 => absurd h9 (Nat.not_lt_zero j)⟩
        refine W.widen (k := 40) (n := 3000) (by omega) (by omega) ?_
        exact gw_vret hx hb hr hlocks hG hT (by omega) (by omega) dX2_init_56 ⟨ro9, ⟨_, _, _, _, _, _, _, _, _, _, _, _, hcs, hrs⟩, fun q e h8 he => ⟨kk9 q e h8 (q7 q e h8 he).1, (hoo q e (q7 q e h8 he).1).trans (q7 q e h8 he).2.1⟩⟩
      · refine lv_aload_n hx hb dX2_init_21 rfl (lv_at hl 1 rfl) ?_
        refine gw_get (ci := 3) (C := RX2) (T := TX2) (N := 3) hx hb hts hinX2 hown hK hG q1 rfl 0 (by decide) hf11 (fun _ h9 => h9) rfl dX2_init_22 ?_
        refine lv_iload_n hx hb dX2_init_25 rfl (lv_at hl 0 rfl) ?_
        refine gw_new (ci := 1) (fs := [.null, .null, .null, .null, .null]) (C := RX0) (T := TX0) (N := 5) hx hb hts hinX0 tyX0 tyX0_ok hown (hts (.classLink RX2 9 RX0) (by decide +kernel)) (hts (.instantiable RX0 5) (by decide +kernel)) (hts (.initialized RX0) (by decide +kernel)) hK hG rfl (fun j hj => by rcases (show j = 0 ∨ j = 1 ∨ j = 2 ∨ j = 3 ∨ j = 4 by omega) with rfl | rfl | rfl | rfl | rfl <;> rfl) (show 1 + i * 6 + 1 ≤ 40 by omega) (show 6 + i * 491 + 5 ≤ 3000 by omega) dX2_init_26 (fun h9 H hn9 hG => ?_)
        obtain ⟨M_265, hM_266⟩ : ∃ M1 : gw_M, M1 = gw_up Mi h9 (.inr (1, [.null, .null, .null, .null, .null])) := ⟨_, rfl⟩
        have hG : gw_B K M_265 s.heap H locs := by rw [hM_266]; exact hG
        have hne_268 : x ≠ h9 := gw_ne hn9 q1
        have hc_267 := (congrFun hM_266 x).trans (gw_k hne_268 q1)
        have hne_270 : aH ≠ h9 := gw_ne hn9 q2
        have hc_269 := (congrFun hM_266 aH).trans (gw_k hne_270 q2)
        have hc_271 : M_265 h9 = some (.inr (1, [.null, .null, .null, .null, .null])) := (congrFun hM_266 _).trans gw_s
        refine lv_dup hx hb dX2_init_29 rfl ?_
        refine gw_callv (va_runI (As := []) (rest := [.ref h9, .int (nI i), .ref aH]) ⟨hx, hb, hml, hown, hts⟩ (c_hinit l K M_265 h9 hc_271) (cwI 0 hts gX2_init_X0_init rfl rfl rfl (hts (.initialized RX0) (by decide +kernel)) (hts (.methodLink RX2 15 yX0_init) (by decide +kernel)) (hts (.instanceMethod yX0_init) (by decide +kernel)) rfl (by decide +kernel) ⟨Nat.le_of_ble_eq_true rfl, Nat.le_of_ble_eq_true rfl⟩) (gw_preS hG hT) rfl rfl hl.1 rfl (lv_room (Nat.le_of_ble_eq_true rfl)) dX2_init_30 ⟨show 1 + i * 6 + 1 + 5 ≤ 40 by omega, show 6 + i * 491 + 5 + 486 ≤ 3000 by omega⟩) hG (fun M_273 H locs hw hG => ?_)
        obtain ⟨ad9, hd9, hk9, hf9⟩ := hw
        have ko : ∀ q e, Mi q = some e → M_273 q = some e := fun q e he => hk9 q e (gw_ne hn9 he) ((congrFun hM_266 q).trans (gw_o hn9 he))
        have na : ∀ q e, Mi q = some e → ∀ j, j < 5 → q ≠ ad9 j := fun q e he j hj => gw_ne (hf9 j hj) ((congrFun hM_266 q).trans (gw_o hn9 he))
        have hca := ko aH _ q2
        have hcx := ko x _ q1
        refine gw_astq (r := (RX0, TX0, 5)) hx hb hK hG hca 2 rfl 1 hd9.1 rfl (gw_in (j := i) (by omega) (by omega)) dX2_init_33 (fun H locs hG => ?_)
        rw [nI_clamp (by omega)] at hG
        have h9a : h9 ≠ aH := gw_ne (M := Mi) (a := h9) (q := aH) hn9 q2 |>.symm
        obtain ⟨M_274, hM_275⟩ : ∃ M1 : gw_M, M1 = gw_up M_273 aH (.inl (K.2.1 2, 6, .inr (.inr (.inr (.inr (va_up g i (some h9))))))) := ⟨_, rfl⟩
        have hG : gw_B K M_274 s.heap H locs := by rw [hM_275]; exact hG
        have hc_276 : M_274 aH = some (.inl (K.2.1 2, 6, .inr (.inr (.inr (.inr (va_up g i (some h9))))))) := (congrFun hM_275 _).trans gw_s
        have kf : ∀ q e, q ≠ aH → M_273 q = some e → M_274 q = some e := fun q e h8 he => (congrFun hM_275 q).trans (gw_k h8 he)
        obtain ⟨ro9, hro9⟩ : ∃ r : Nat → Nat, r = (fun q => if q = h9 then 5 else if q = ad9 0 then 10 + i * 5 + 0 else if q = ad9 1 then 10 + i * 5 + 1 else if q = ad9 2 then 10 + i * 5 + 2 else if q = ad9 3 then 10 + i * 5 + 3 else if q = ad9 4 then 10 + i * 5 + 4 else ro q) := ⟨_, rfl⟩
        have hoo : ∀ q e, Mi q = some e → ro9 q = ro q := fun q e he => by rw [hro9]; show (if q = h9 then 5 else if q = ad9 0 then _ else if q = ad9 1 then _ else if q = ad9 2 then _ else if q = ad9 3 then _ else if q = ad9 4 then _ else ro q) = ro q; rw [if_neg (gw_ne hn9 he), if_neg (na q e he 0 (by decide)), if_neg (na q e he 1 (by decide)), if_neg (na q e he 2 (by decide)), if_neg (na q e he 3 (by decide)), if_neg (na q e he 4 (by decide))]
        have ho9 : ro9 h9 = 5 := by rw [hro9]; exact if_pos rfl
        have hda : ∀ j, j < 5 → ad9 j ≠ h9 := by
          intro j hj z
          obtain ⟨e0, e1, e2, e3, e4, e5, -⟩ := id hd9
          rcases (show j = 0 ∨ j = 1 ∨ j = 2 ∨ j = 3 ∨ j = 4 by omega) with rfl | rfl | rfl | rfl | rfl
          · exact gw_io e0 e1 z.symm
          · exact gw_io e0 e2 z.symm
          · exact gw_io e0 e3 z.symm
          · exact gw_io e0 e4 z.symm
          · exact gw_io e0 e5 z.symm
        have hja := hd9.2.2.2.2.2.2
        have hod : ∀ j, j < 5 → ro9 (ad9 j) = 10 + i * 5 + j := by
          intro j hj
          rw [hro9]
          show (if ad9 j = h9 then 5 else if ad9 j = ad9 0 then _ else if ad9 j = ad9 1 then _ else if ad9 j = ad9 2 then _ else if ad9 j = ad9 3 then _ else if ad9 j = ad9 4 then _ else ro (ad9 j)) = _
          rw [if_neg (hda j hj)]
          rcases (show j = 0 ∨ j = 1 ∨ j = 2 ∨ j = 3 ∨ j = 4 by omega) with rfl | rfl | rfl | rfl | rfl
          · rw [if_pos rfl]
          · rw [if_neg (fun z => absurd (hja 1 0 (by decide) (by decide) z) (by decide)), if_pos rfl]
          · rw [if_neg (fun z => absurd (hja 2 0 (by decide) (by decide) z) (by decide)), if_neg (fun z => absurd (hja 2 1 (by decide) (by decide) z) (by decide)), if_pos rfl]
          · rw [if_neg (fun z => absurd (hja 3 0 (by decide) (by decide) z) (by decide)), if_neg (fun z => absurd (hja 3 1 (by decide) (by decide) z) (by decide)), if_neg (fun z => absurd (hja 3 2 (by decide) (by decide) z) (by decide)), if_pos rfl]
          · rw [if_neg (fun z => absurd (hja 4 0 (by decide) (by decide) z) (by decide)), if_neg (fun z => absurd (hja 4 1 (by decide) (by decide) z) (by decide)), if_neg (fun z => absurd (hja 4 2 (by decide) (by decide) z) (by decide)), if_neg (fun z => absurd (hja 4 3 (by decide) (by decide) z) (by decide)), if_pos rfl]
        have hna9 : ∀ j, j < 5 → ad9 j ≠ aH := fun j hj => Ne.symm (na aH _ q2 j hj)
        have hh9a : h9 ≠ aH := Ne.symm (gw_ne hn9 q2)
        refine lv_iinc (v := nI (i + 1)) (lv' := [(1, .int (nI (i + 1))), (0, .ref x)]) hx hb dX2_init_34 hl (k := 0) rfl (gw_inc _) (by decide) rfl (fun ls hl => ?_)
        refine lv_goto (tgt := 15) hx hb dX2_init_37 (by decide) ?_
        refine W.widen (k := 1 + (i + 1) * 6) (n := 6 + (i + 1) * 491) (by omega) (by omega) ?_
        refine ih (i + 1) (by omega) (by omega) _ ⟨va_up g i (some h9), va_up ho i h9, (fun k => if k = i then ad9 else had k), ro9, kf x _ hxa hcx, hc_276, fun k hk => ?_, (hoo _ _ q1).trans q4, (hoo _ _ q2).trans q5, fun k hk => ?_, fun q e h8 he => ⟨kf q e (q7 q e h8 he).2.2 (ko q e (q7 q e h8 he).1), (hoo q e (q7 q e h8 he).1).trans (q7 q e h8 he).2.1, (q7 q e h8 he).2.2⟩⟩ _ _ hG ls (lv_sub hl [0, 1] rfl)
        · by_cases hki : k = i
          · subst hki
            rw [va_up_self, va_up_self]
            show _ ∧ hd K _ h9 (if k = k then ad9 else had k) hV0
            rw [if_pos rfl]
            exact ⟨rfl, hd_mono hd9 (fun q e he hq => kf q e (hq.elim (fun z => by rw [z]; exact hh9a) (fun ⟨j, hj, z⟩ => by rw [z]; exact hna9 j hj)) he)⟩
          · rw [va_up_ne _ _ hki, va_up_ne _ _ hki]
            show _ ∧ hd K _ (ho k) (if k = i then ad9 else had k) hV0
            rw [if_neg hki]
            have h8 := q3 k (by omega)
            refine ⟨h8.1, hd_mono h8.2 (fun q e he hq => kf q e (fun z => ?_) (ko q e he))⟩
            have hq6 := q6 k (by omega)
            rcases hq with z2 | ⟨j, hj, z2⟩
            · rw [z2] at z; rw [z, q5] at hq6; exact absurd hq6.1 (by decide)
            · have h7 := hq6.2 j hj; rw [← z2, z, q5] at h7; omega
        · by_cases hki : k = i
          · subst hki
            rw [va_up_self]
            show _ ∧ ∀ j, j < 5 → ro9 ((if k = k then ad9 else had k) j) = _
            rw [if_pos rfl]
            exact ⟨ho9, hod⟩
          · rw [va_up_ne _ _ hki]
            show _ ∧ ∀ j, j < 5 → ro9 ((if k = i then ad9 else had k) j) = _
            rw [if_neg hki]
            have h8 := q3 k (by omega)
            exact ⟨(hoo _ _ h8.2.1).trans (q6 k (by omega)).1, fun j hj => (hd_some h8.2 j hj).elim (fun e he => (hoo _ e he).trans ((q6 k (by omega)).2 j hj))⟩
  refine W.widen (k := 1 + 0 * 6) (n := 6 + 0 * 491) (by omega) (by omega) ?_
  exact hloop 7 0 (by omega) (by omega) _ ⟨fun _ => none, fun _ => 0, fun _ _ => 0, (fun q => if q = x then 1 else if q = aH then 2 else ro0 q), hc_263, hc_264, fun k hk => absurd hk (Nat.not_lt_zero k), if_pos rfl, (by show (if aH = x then 1 else if aH = aH then 2 else ro0 aH) = 2; rw [if_neg (Ne.symm (gw_ne haH hx0)), if_pos rfl]), fun k hk => absurd hk (Nat.not_lt_zero k), fun q e h8 he => ⟨(congrFun hM_262 q).trans (gw_k h8 ((congrFun hM_257 q).trans (gw_o haH he))), (by show (if q = x then 1 else if q = aH then 2 else ro0 q) = ro0 q; rw [if_neg h8, if_neg (gw_ne haH he)]), gw_ne haH he⟩⟩ _ _ hG ls (lv_sub hl [0, 1] rfl)
