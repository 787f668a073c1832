theorem cs_kp {M M1 : gw_M} {ro : Nat → Nat} {x sz aH wl la : Nat} {ho : Nat → Nat} {had : Nat → Nat → Nat} {my sn : Nat → Nat} {sad : Nat → Nat → Nat} (hrs : rs M ro x sz aH wl la ho had my sn sad) {i : Nat} (hi : i < 6) (hF : hfr M M1 (had i)) : ∀ q, (ro q < 10 ∨ 40 ≤ ro q) → M1 q = M q := fun q hq => hF q (fun j hj z => by
  have h9 := (hrs.2.2.2.2.1 i hi).2 j hj
  rw [z] at hq
  omega)
theorem nI_le0 {d : Nat} (h : d < 2 ^ 31) : nI d ≤ 0 ↔ d = 0 := by
  constructor
  · intro q
    exact Classical.byContradiction fun z => nI_nle (by omega) h q
  · intro q
    rw [q]
    decide
theorem mko_form (f : Nat → Int32) (pl : Nat) (ii : Int32) : ∀ k, mko f pl ii k = -1 ∨ ∃ mk, mk < k ∧ mko f pl ii k = nI mk := by
  intro k
  induction k with
  | zero => exact Or.inl rfl
  | succ k ih =>
    by_cases h : mko f pl ii k = -1
    · show (if mko f pl ii k = -1 then _ else _) = -1 ∨ ∃ mk, mk < k + 1 ∧ (if mko f pl ii k = -1 then _ else _) = nI mk
      rw [if_pos h]
      split
      · exact Or.inl rfl
      · split
        · exact Or.inr ⟨k, by omega, rfl⟩
        · exact Or.inl rfl
    · obtain ⟨mk, h1, h2⟩ := ih.resolve_left h
      refine Or.inr ⟨mk, by omega, ?_⟩
      show (if mko f pl ii k = -1 then _ else _) = nI mk
      rw [if_neg h]
      exact h2
/-- how many elements of a set are in it, of the first i -/
def scnt (f : Nat → Int32) (ks : Nat) : Nat → Nat
  | 0 => 0
  | i + 1 => scnt f ks i + (if dcnt f (ks * 16 + i) 6 = 0 then 0 else 1)
/-- clearing a set, its first i elements -/
def vcl (V : hV) (ks : Nat) : Nat → hV × Nat
  | 0 => (V, 0)
  | i + 1 => (vrem (vcl V ks i).1 (ks * 16 + i), (vcl V ks i).2 + (if dcnt (vcl V ks i).1.2.1 (ks * 16 + i) 6 = 0 then 0 else 1))
set_option maxHeartbeats 4000000 in
set_option maxRecDepth 100000 in
/-- add -/
theorem c_add (l : Launch) (hnt : l.stackTraces = false) (K : gw_C) (M : gw_M) (x : Nat) (ro : Nat → Nat) (S : gst) (r9 s9 e9 : Int32) (hS : CS K M ro x S) : vx_Met l yX2_add wsX2_add ({ frames := 10, cells := 3, slots := 18, locals := 200 } : Room) (va_Pc [.ref x, .int r9, .int s9, .int e9] (gw_I K M)) (va_Qi (fun r M1 => ∃ rk ks ke, (rk < S.1 ∧ r9 = nI rk) ∧ (ks < 4 ∧ s9 = nI ks) ∧ (ke < 16 ∧ e9 = nI ke) ∧ r = (S.2.1 rk).1 rk + nI 1 ∧ CS K M1 ro x (shold S rk (vadd (S.2.1 rk) rk (ks * 16 + ke))) ∧ ofr 60 1000 M M1 ro ro) (gw_I K) (gw_A K)) (gw_X K (iae M (¬ (inN r9 S.1 ∧ inN s9 4 ∧ inN e9 16)))) 3 18 (gw_A K) := by
  refine vx_ofW (cc := cX2_add) (maxL := 6) (ret := (some .int)) (by decide) rfl ?_
  intro p e s m args below meth c s₁ B hml hnone hv
  obtain ⟨hav, hI⟩ := hv
  have hx := B.exec
  have hb := B.bytes
  have hr := B.returns
  have hts := atoms_spec (ws := wsX2_add) B.pre
  have hown : s.vm.findClass RX2 = some m.cls := findClass_of_methodNamed B.named
  have hlocks : meth.locks = false := B.notSynchronized
  have hemp : c.exceptionTable.isEmpty = true := B.noHandlers (hts _ List.mem_cons_self)
  have hT := hI.2.2
  have hK := hT.K
  have hG := hI.B
  have hf11 := hts (.fieldLink RX2 11 "DotGossip" "holdings" "[LDotGossip$Holding;") (by decide +kernel)
  have hf23 := hts (.fieldLink RX2 23 "DotGossip" "replicaCount" "I") (by decide +kernel)
  have hinX0 : ∀ w ∈ wsX00, w ∈ wsX2_add := by decide +kernel
  have hinX2 : ∀ w ∈ wsX20, w ∈ wsX2_add := by decide +kernel
  have hE : entryFrame m args 6 = entryFrame m ([.ref x, .int r9, .int s9, .int e9] : List Value).toArray 6 := by rw [hav]
  rw [hE]
  have hl := lv_entry ([.ref x, .int r9, .int s9, .int e9]) (n := 6) (Nat.le_of_ble_eq_true rfl)
  rw [lg_entry_eq]
  generalize (lg_sl ([.ref x, .int r9, .int s9, .int e9]) ++ List.replicate (6 - (lg_sl ([.ref x, .int r9, .int s9, .int e9])).length) Slot.unset).toArray = ls at hl ⊢
  have hl : lv_has ls 6 [(0, .ref x), (1, .int r9), (2, .int s9), (3, .int e9)] := hl
  obtain ⟨aH, wl, la, cap, mc, g, lf, ho, had, my, sn, sad, hcs, hrs⟩ := id hS
  obtain ⟨c0, c1, c2, c3, c4, c5, c6⟩ := id hcs
  refine lv_aload_n hx hb dX2_add_0 rfl (lv_at hl 0 rfl) ?_
  refine lv_iload_n hx hb dX2_add_1 rfl (lv_at hl 1 rfl) ?_
  refine lv_iload_n hx hb dX2_add_2 rfl (lv_at hl 2 rfl) ?_
  refine lv_iload_n hx hb dX2_add_3 rfl (lv_at hl 3 rfl) ?_
  refine gw_xcallv (vx_runV (As := [.int r9, .int s9, .int e9]) (rest := []) ⟨hx, hb, hml, hown, hts⟩ (c_reqEl l hnt K M x S.1 _ _ r9 s9 e9 c1 c0.2) (cwV 3 hts gX2_add_X2_requireElement rfl rfl rfl (by decide +kernel) ⟨Nat.le_of_ble_eq_true rfl, Nat.le_of_ble_eq_true rfl⟩) (gw_preV hG hT c1 rfl) rfl rfl hl.1 rfl (lv_room (Nat.le_of_ble_eq_true rfl)) dX2_add_4 ⟨Nat.le_of_ble_eq_true rfl, Nat.le_of_ble_eq_true rfl⟩) hG (fun E9 ce9 q9 M_63 H locs hw hG h7 h8 h9 => ?_) (fun M_63 H locs hw hG => ?_)
  · exact gw_out hemp hlocks hG hT h7 h8 h9 ⟨hw.1, hw.2.1, hw.2.2⟩ (by omega) (by omega)
  · obtain ⟨⟨rk, hrk, rfl⟩, ⟨ks, hks, rfl⟩, ⟨ke, hke, rfl⟩⟩ := hw.2
    rw [hw.1] at hG
    refine lv_aload_n hx hb dX2_add_7 rfl (lv_at hl 0 rfl) ?_
    refine gw_get (ci := 3) (C := RX2) (T := TX2) (N := 3) hx hb hts hinX2 hown hK hG c1 rfl 0 (by decide) hf11 (fun _ h9 => h9) rfl dX2_add_8 ?_
    refine lv_iload_n hx hb dX2_add_11 rfl (lv_at hl 1 rfl) ?_
    refine gw_aldq_n (v := some (ho rk)) hx hb hK hG c2 2 rfl (by omega) (by omega) (c3 rk (by omega)).1 dX2_add_12 ?_
    have hh_h := (c3 rk (by omega)).2
    obtain ⟨h_0, h_s, h_n, h_w, h_a, h_t, h_ne⟩ := id hh_h
    refine lv_astore (lv' := [(4, .ref (ho rk)), (0, .ref x), (1, .int (nI rk)), (2, .int (nI ks)), (3, .int (nI ke))]) hx hb dX2_add_13 hl (by decide) rfl (fun ls hl => ?_)
    refine lv_iload_n hx hb dX2_add_15 rfl (lv_at hl 3 rfl) ?_
    refine lv_iload_n hx hb dX2_add_16 rfl (lv_at hl 4 rfl) ?_
    refine gw_calli (va_runS (As := [.int (nI ks), .int (nI ke)]) (rest := []) ⟨hx, hb, hml, hown, hts⟩ (c_place l K M ks ke) (va_cwS 2 hts gX2_add_X2_placeOfElement rfl rfl rfl (by decide +kernel) ⟨Nat.le_of_ble_eq_true rfl, Nat.le_of_ble_eq_true rfl⟩) (gw_preS hG hT) rfl rfl hl.1 rfl (lv_room (Nat.le_of_ble_eq_true rfl)) dX2_add_17 ⟨Nat.le_of_ble_eq_true rfl, Nat.le_of_ble_eq_true rfl⟩) hG (fun r_64 M_65 H locs hw hG => ?_)
    rw [hw.1] at hG
    refine gw_as hw.2 ?_
    refine lv_istore (lv' := [(5, .int (nI (ks * 16 + ke))), (4, .ref (ho rk)), (0, .ref x), (1, .int (nI rk)), (2, .int (nI ks)), (3, .int (nI ke))]) hx hb dX2_add_20 hl (by decide) rfl (fun ls hl => ?_)
    refine lv_aload hx hb dX2_add_22 (lv_at hl 1 rfl) ?_
    refine lv_iload hx hb dX2_add_24 (lv_at hl 0 rfl) ?_
    refine gw_calli (va_runV (As := [.int (nI (ks * 16 + ke))]) (rest := []) ⟨hx, hb, hml, hown, hts⟩ (c_forget l K M (ho rk) (had rk) (S.2.1 rk) (ks * 16 + ke) hh_h (by omega)) (cwV 1 hts gX2_add_X0_forget rfl rfl rfl (by decide +kernel) ⟨Nat.le_of_ble_eq_true rfl, Nat.le_of_ble_eq_true rfl⟩) (gw_preV hG hT h_0 rfl) rfl rfl hl.1 rfl (lv_room (Nat.le_of_ble_eq_true rfl)) dX2_add_26 ⟨Nat.le_of_ble_eq_true rfl, Nat.le_of_ble_eq_true rfl⟩) hG (fun r_66 M_67 H locs hw hG => ?_)
    obtain ⟨hr1, hd1, hf1⟩ := hw
    refine lv_pop hx hb dX2_add_29 rfl ?_
    refine lv_aload hx hb dX2_add_30 (lv_at hl 1 rfl) ?_
    refine lv_iload hx hb dX2_add_32 (lv_at hl 0 rfl) ?_
    refine lv_iload_n hx hb dX2_add_34 rfl (lv_at hl 3 rfl) ?_
    refine gw_calli (va_runV (As := [.int (nI (ks * 16 + ke)), .int (nI rk)]) (rest := []) ⟨hx, hb, hml, hown, hts⟩ (c_makeDot l K M_67 (ho rk) (had rk) ((S.2.1 rk).1, hclr (S.2.1 rk).2.1 (ks * 16 + ke) 6, (S.2.1 rk).2.2) (ks * 16 + ke) rk hd1 (by omega) (by omega)) (cwV 2 hts gX2_add_X0_makeDot rfl rfl rfl (by decide +kernel) ⟨Nat.le_of_ble_eq_true rfl, Nat.le_of_ble_eq_true rfl⟩) (gw_preV hG hT hd1.1 rfl) rfl rfl hl.1 rfl (lv_room (Nat.le_of_ble_eq_true rfl)) dX2_add_35 ⟨Nat.le_of_ble_eq_true rfl, Nat.le_of_ble_eq_true rfl⟩) hG (fun r_68 M_69 H locs hw hG => ?_)
    obtain ⟨hr2, hd2, hf2⟩ := hw
    obtain ⟨z1, z2⟩ := cs_hold hcs hrs (show rk < 6 by omega) hd2 (hf1.tr hf2)
    refine vx_ret ?_
    exact gw_iret hx hb hr hlocks hG hT (by omega) (by omega) dX2_add_38 ⟨rk, ks, ke, ⟨hrk, rfl⟩, ⟨hks, rfl⟩, ⟨hke, rfl⟩, hr2, z1, z2⟩

set_option maxHeartbeats 4000000 in
set_option maxRecDepth 100000 in
/-- remove -/
theorem c_remove (l : Launch) (hnt : l.stackTraces = false) (K : gw_C) (M : gw_M) (x : Nat) (ro : Nat → Nat) (S : gst) (r9 s9 e9 : Int32) (hS : CS K M ro x S) : vx_Met l yX2_remove wsX2_remove ({ frames := 10, cells := 3, slots := 18, locals := 200 } : Room) (va_Pc [.ref x, .int r9, .int s9, .int e9] (gw_I K M)) (va_Qi (fun r M1 => ∃ rk ks ke, (rk < S.1 ∧ r9 = nI rk) ∧ (ks < 4 ∧ s9 = nI ks) ∧ (ke < 16 ∧ e9 = nI ke) ∧ r = nI (dcnt (S.2.1 rk).2.1 (ks * 16 + ke) 6) ∧ CS K M1 ro x (shold S rk (vrem (S.2.1 rk) (ks * 16 + ke))) ∧ ofr 60 1000 M M1 ro ro) (gw_I K) (gw_A K)) (gw_X K (iae M (¬ (inN r9 S.1 ∧ inN s9 4 ∧ inN e9 16)))) 3 18 (gw_A K) := by
  refine vx_ofW (cc := cX2_remove) (maxL := 4) (ret := (some .int)) (by decide) rfl ?_
  intro p e s m args below meth c s₁ B hml hnone hv
  obtain ⟨hav, hI⟩ := hv
  have hx := B.exec
  have hb := B.bytes
  have hr := B.returns
  have hts := atoms_spec (ws := wsX2_remove) B.pre
  have hown : s.vm.findClass RX2 = some m.cls := findClass_of_methodNamed B.named
  have hlocks : meth.locks = false := B.notSynchronized
  have hemp : c.exceptionTable.isEmpty = true := B.noHandlers (hts _ List.mem_cons_self)
  have hT := hI.2.2
  have hK := hT.K
  have hG := hI.B
  have hf11 := hts (.fieldLink RX2 11 "DotGossip" "holdings" "[LDotGossip$Holding;") (by decide +kernel)
  have hf23 := hts (.fieldLink RX2 23 "DotGossip" "replicaCount" "I") (by decide +kernel)
  have hinX0 : ∀ w ∈ wsX00, w ∈ wsX2_remove := by decide +kernel
  have hinX2 : ∀ w ∈ wsX20, w ∈ wsX2_remove := by decide +kernel
  have hE : entryFrame m args 4 = entryFrame m ([.ref x, .int r9, .int s9, .int e9] : List Value).toArray 4 := by rw [hav]
  rw [hE]
  have hl := lv_entry ([.ref x, .int r9, .int s9, .int e9]) (n := 4) (Nat.le_of_ble_eq_true rfl)
  rw [lg_entry_eq]
  generalize (lg_sl ([.ref x, .int r9, .int s9, .int e9]) ++ List.replicate (4 - (lg_sl ([.ref x, .int r9, .int s9, .int e9])).length) Slot.unset).toArray = ls at hl ⊢
  have hl : lv_has ls 4 [(0, .ref x), (1, .int r9), (2, .int s9), (3, .int e9)] := hl
  obtain ⟨aH, wl, la, cap, mc, g, lf, ho, had, my, sn, sad, hcs, hrs⟩ := id hS
  obtain ⟨c0, c1, c2, c3, c4, c5, c6⟩ := id hcs
  refine lv_aload_n hx hb dX2_remove_0 rfl (lv_at hl 0 rfl) ?_
  refine lv_iload_n hx hb dX2_remove_1 rfl (lv_at hl 1 rfl) ?_
  refine lv_iload_n hx hb dX2_remove_2 rfl (lv_at hl 2 rfl) ?_
  refine lv_iload_n hx hb dX2_remove_3 rfl (lv_at hl 3 rfl) ?_
  refine gw_xcallv (vx_runV (As := [.int r9, .int s9, .int e9]) (rest := []) ⟨hx, hb, hml, hown, hts⟩ (c_reqEl l hnt K M x S.1 _ _ r9 s9 e9 c1 c0.2) (cwV 3 hts gX2_remove_X2_requireElement rfl rfl rfl (by decide +kernel) ⟨Nat.le_of_ble_eq_true rfl, Nat.le_of_ble_eq_true rfl⟩) (gw_preV hG hT c1 rfl) rfl rfl hl.1 rfl (lv_room (Nat.le_of_ble_eq_true rfl)) dX2_remove_4 ⟨Nat.le_of_ble_eq_true rfl, Nat.le_of_ble_eq_true rfl⟩) hG (fun E9 ce9 q9 M_71 H locs hw hG h7 h8 h9 => ?_) (fun M_71 H locs hw hG => ?_)
  · exact gw_out hemp hlocks hG hT h7 h8 h9 ⟨hw.1, hw.2.1, hw.2.2⟩ (by omega) (by omega)
  · obtain ⟨⟨rk, hrk, rfl⟩, ⟨ks, hks, rfl⟩, ⟨ke, hke, rfl⟩⟩ := hw.2
    rw [hw.1] at hG
    refine lv_aload_n hx hb dX2_remove_7 rfl (lv_at hl 0 rfl) ?_
    refine gw_get (ci := 3) (C := RX2) (T := TX2) (N := 3) hx hb hts hinX2 hown hK hG c1 rfl 0 (by decide) hf11 (fun _ h9 => h9) rfl dX2_remove_8 ?_
    refine lv_iload_n hx hb dX2_remove_11 rfl (lv_at hl 1 rfl) ?_
    refine gw_aldq_n (v := some (ho rk)) hx hb hK hG c2 2 rfl (by omega) (by omega) (c3 rk (by omega)).1 dX2_remove_12 ?_
    have hh_h := (c3 rk (by omega)).2
    obtain ⟨h_0, h_s, h_n, h_w, h_a, h_t, h_ne⟩ := id hh_h
    refine lv_iload_n hx hb dX2_remove_13 rfl (lv_at hl 2 rfl) ?_
    refine lv_iload_n hx hb dX2_remove_14 rfl (lv_at hl 3 rfl) ?_
    refine gw_calli (va_runS (As := [.int (nI ks), .int (nI ke)]) (rest := [.ref (ho rk)]) ⟨hx, hb, hml, hown, hts⟩ (c_place l K M ks ke) (va_cwS 2 hts gX2_remove_X2_placeOfElement rfl rfl rfl (by decide +kernel) ⟨Nat.le_of_ble_eq_true rfl, Nat.le_of_ble_eq_true rfl⟩) (gw_preS hG hT) rfl rfl hl.1 rfl (lv_room (Nat.le_of_ble_eq_true rfl)) dX2_remove_15 ⟨Nat.le_of_ble_eq_true rfl, Nat.le_of_ble_eq_true rfl⟩) hG (fun r_72 M_73 H locs hw hG => ?_)
    rw [hw.1] at hG
    refine gw_as hw.2 ?_
    refine gw_calli (va_runV (As := [.int (nI (ks * 16 + ke))]) (rest := []) ⟨hx, hb, hml, hown, hts⟩ (c_forget l K M (ho rk) (had rk) (S.2.1 rk) (ks * 16 + ke) hh_h (by omega)) (cwV 1 hts gX2_remove_X0_forget rfl rfl rfl (by decide +kernel) ⟨Nat.le_of_ble_eq_true rfl, Nat.le_of_ble_eq_true rfl⟩) (gw_preV hG hT h_0 rfl) rfl rfl hl.1 rfl (lv_room (Nat.le_of_ble_eq_true rfl)) dX2_remove_18 ⟨Nat.le_of_ble_eq_true rfl, Nat.le_of_ble_eq_true rfl⟩) hG (fun r_74 M_75 H locs hw hG => ?_)
    obtain ⟨hr1, hd1, hf1⟩ := hw
    obtain ⟨z1, z2⟩ := cs_hold hcs hrs (show rk < 6 by omega) hd1 hf1
    refine vx_ret ?_
    exact gw_iret hx hb hr hlocks hG hT (by omega) (by omega) dX2_remove_21 ⟨rk, ks, ke, ⟨hrk, rfl⟩, ⟨hks, rfl⟩, ⟨hke, rfl⟩, hr1, z1, z2⟩

set_option maxHeartbeats 4000000 in
set_option maxRecDepth 100000 in
/-- contains -/
theorem c_contains (l : Launch) (hnt : l.stackTraces = false) (K : gw_C) (M : gw_M) (x : Nat) (ro : Nat → Nat) (S : gst) (r9 s9 e9 : Int32) (hS : CS K M ro x S) : vx_Met l yX2_contains wsX2_contains ({ frames := 10, cells := 3, slots := 18, locals := 200 } : Room) (va_Pc [.ref x, .int r9, .int s9, .int e9] (gw_I K M)) (va_Qi (fun r M1 => M1 = M ∧ ∃ rk ks ke, (rk < S.1 ∧ r9 = nI rk) ∧ (ks < 4 ∧ s9 = nI ks) ∧ (ke < 16 ∧ e9 = nI ke) ∧ r = if dcnt (S.2.1 rk).2.1 (ks * 16 + ke) 6 = 0 then nI 0 else nI 1) (gw_I K) (gw_A K)) (gw_X K (iae M (¬ (inN r9 S.1 ∧ inN s9 4 ∧ inN e9 16)))) 3 18 (gw_A K) := by
  refine vx_ofW (cc := cX2_contains) (maxL := 4) (ret := (some .boolean)) (by decide) rfl ?_
  intro p e s m args below meth c s₁ B hml hnone hv
  obtain ⟨hav, hI⟩ := hv
  have hx := B.exec
  have hb := B.bytes
  have hr := B.returns
  have hts := atoms_spec (ws := wsX2_contains) B.pre
  have hown : s.vm.findClass RX2 = some m.cls := findClass_of_methodNamed B.named
  have hlocks : meth.locks = false := B.notSynchronized
  have hemp : c.exceptionTable.isEmpty = true := B.noHandlers (hts _ List.mem_cons_self)
  have hT := hI.2.2
  have hK := hT.K
  have hG := hI.B
  have hf11 := hts (.fieldLink RX2 11 "DotGossip" "holdings" "[LDotGossip$Holding;") (by decide +kernel)
  have hf23 := hts (.fieldLink RX2 23 "DotGossip" "replicaCount" "I") (by decide +kernel)
  have hinX0 : ∀ w ∈ wsX00, w ∈ wsX2_contains := by decide +kernel
  have hinX2 : ∀ w ∈ wsX20, w ∈ wsX2_contains := by decide +kernel
  have hE : entryFrame m args 4 = entryFrame m ([.ref x, .int r9, .int s9, .int e9] : List Value).toArray 4 := by rw [hav]
  rw [hE]
  have hl := lv_entry ([.ref x, .int r9, .int s9, .int e9]) (n := 4) (Nat.le_of_ble_eq_true rfl)
  rw [lg_entry_eq]
  generalize (lg_sl ([.ref x, .int r9, .int s9, .int e9]) ++ List.replicate (4 - (lg_sl ([.ref x, .int r9, .int s9, .int e9])).length) Slot.unset).toArray = ls at hl ⊢
  have hl : lv_has ls 4 [(0, .ref x), (1, .int r9), (2, .int s9), (3, .int e9)] := hl
  obtain ⟨aH, wl, la, cap, mc, g, lf, ho, had, my, sn, sad, hcs, hrs⟩ := id hS
  obtain ⟨c0, c1, c2, c3, c4, c5, c6⟩ := id hcs
  refine lv_aload_n hx hb dX2_contains_0 rfl (lv_at hl 0 rfl) ?_
  refine lv_iload_n hx hb dX2_contains_1 rfl (lv_at hl 1 rfl) ?_
  refine lv_iload_n hx hb dX2_contains_2 rfl (lv_at hl 2 rfl) ?_
  refine lv_iload_n hx hb dX2_contains_3 rfl (lv_at hl 3 rfl) ?_
  refine gw_xcallv (vx_runV (As := [.int r9, .int s9, .int e9]) (rest := []) ⟨hx, hb, hml, hown, hts⟩ (c_reqEl l hnt K M x S.1 _ _ r9 s9 e9 c1 c0.2) (cwV 3 hts gX2_contains_X2_requireElement rfl rfl rfl (by decide +kernel) ⟨Nat.le_of_ble_eq_true rfl, Nat.le_of_ble_eq_true rfl⟩) (gw_preV hG hT c1 rfl) rfl rfl hl.1 rfl (lv_room (Nat.le_of_ble_eq_true rfl)) dX2_contains_4 ⟨Nat.le_of_ble_eq_true rfl, Nat.le_of_ble_eq_true rfl⟩) hG (fun E9 ce9 q9 M_77 H locs hw hG h7 h8 h9 => ?_) (fun M_77 H locs hw hG => ?_)
  · exact gw_out hemp hlocks hG hT h7 h8 h9 ⟨hw.1, hw.2.1, hw.2.2⟩ (by omega) (by omega)
  · obtain ⟨⟨rk, hrk, rfl⟩, ⟨ks, hks, rfl⟩, ⟨ke, hke, rfl⟩⟩ := hw.2
    rw [hw.1] at hG
    refine lv_aload_n hx hb dX2_contains_7 rfl (lv_at hl 0 rfl) ?_
    refine gw_get (ci := 3) (C := RX2) (T := TX2) (N := 3) hx hb hts hinX2 hown hK hG c1 rfl 0 (by decide) hf11 (fun _ h9 => h9) rfl dX2_contains_8 ?_
    refine lv_iload_n hx hb dX2_contains_11 rfl (lv_at hl 1 rfl) ?_
    refine gw_aldq_n (v := some (ho rk)) hx hb hK hG c2 2 rfl (by omega) (by omega) (c3 rk (by omega)).1 dX2_contains_12 ?_
    have hh_h := (c3 rk (by omega)).2
    obtain ⟨h_0, h_s, h_n, h_w, h_a, h_t, h_ne⟩ := id hh_h
    refine lv_iload_n hx hb dX2_contains_13 rfl (lv_at hl 2 rfl) ?_
    refine lv_iload_n hx hb dX2_contains_14 rfl (lv_at hl 3 rfl) ?_
    refine gw_calli (va_runS (As := [.int (nI ks), .int (nI ke)]) (rest := [.ref (ho rk)]) ⟨hx, hb, hml, hown, hts⟩ (c_place l K M ks ke) (va_cwS 2 hts gX2_contains_X2_placeOfElement rfl rfl rfl (by decide +kernel) ⟨Nat.le_of_ble_eq_true rfl, Nat.le_of_ble_eq_true rfl⟩) (gw_preS hG hT) rfl rfl hl.1 rfl (lv_room (Nat.le_of_ble_eq_true rfl)) dX2_contains_15 ⟨Nat.le_of_ble_eq_true rfl, Nat.le_of_ble_eq_true rfl⟩) hG (fun r_78 M_79 H locs hw hG => ?_)
    rw [hw.1] at hG
    refine gw_as hw.2 ?_
    refine gw_calli (va_runV (As := [.int (nI (ks * 16 + ke))]) (rest := []) ⟨hx, hb, hml, hown, hts⟩ (c_dotsAt l K M (ho rk) (had rk) (S.2.1 rk) (ks * 16 + ke) hh_h (by omega)) (cwV 1 hts gX2_contains_X0_dotsAt rfl rfl rfl (by decide +kernel) ⟨Nat.le_of_ble_eq_true rfl, Nat.le_of_ble_eq_true rfl⟩) (gw_preV hG hT h_0 rfl) rfl rfl hl.1 rfl (lv_room (Nat.le_of_ble_eq_true rfl)) dX2_contains_18 ⟨Nat.le_of_ble_eq_true rfl, Nat.le_of_ble_eq_true rfl⟩) hG (fun r_80 M_81 H locs hw hG => ?_)
    rw [hw.1] at hG
    refine gw_as hw.2 ?_
    have hle := dcnt_le (S.2.1 rk).2.1 (ks * 16 + ke) 6
    refine lv_if_le hx hb (tgt := 28) dX2_contains_21 (by decide) (fun hc => ?_) (fun hc => ?_)
    · refine lv_iconst (v := nI 0) hx hb dX2_contains_28 (by decide) ?_
      refine vx_ret ?_
      exact gw_zret hx hb hr hlocks hG hT (by omega) (by omega) dX2_contains_29 (Or.inl (by decide)) ⟨rfl, rk, ks, ke, ⟨hrk, rfl⟩, ⟨hks, rfl⟩, ⟨hke, rfl⟩, by rw [if_pos ((nI_le0 (by omega)).mp hc)]⟩
    · refine lv_iconst (v := nI 1) hx hb dX2_contains_24 (by decide) ?_
      refine lv_goto (tgt := 29) hx hb dX2_contains_25 (by decide) ?_
      refine vx_ret ?_
      exact gw_zret hx hb hr hlocks hG hT (by omega) (by omega) dX2_contains_29 (Or.inr (by decide)) ⟨rfl, rk, ks, ke, ⟨hrk, rfl⟩, ⟨hks, rfl⟩, ⟨hke, rfl⟩, by rw [if_neg (fun q => hc ((nI_le0 (by omega)).mpr q))]⟩

set_option maxHeartbeats 4000000 in
set_option maxRecDepth 100000 in
/-- c_values -/
theorem c_values (l : Launch) (hnt : l.stackTraces = false) (K : gw_C) (M : gw_M) (x : Nat) (ro : Nat → Nat) (S : gst) (r9 s9 : Int32) (hS : CS K M ro x S) : vx_Met l yX2_values wsX2_values ({ frames := 10, cells := 2, slots := 12, locals := 200 } : Room) (va_Pc [.ref x, .int r9, .int s9] (gw_I K M)) (va_Qi (fun r M1 => M1 = M ∧ ∃ rk ks, (rk < S.1 ∧ r9 = nI rk) ∧ (ks < 4 ∧ s9 = nI ks) ∧ r = nI (dcnt (S.2.1 rk).2.1 (64 + ks) 6)) (gw_I K) (gw_A K)) (gw_X K (iae M (¬ (inN r9 S.1 ∧ inN s9 4)))) 2 12 (gw_A K) := by
  refine vx_ofW (cc := cX2_values) (maxL := 3) (ret := (some .int)) (by decide) rfl ?_
  intro p e s m args below meth c s₁ B hml hnone hv
  obtain ⟨hav, hI⟩ := hv
  have hx := B.exec
  have hb := B.bytes
  have hr := B.returns
  have hts := atoms_spec (ws := wsX2_values) B.pre
  have hown : s.vm.findClass RX2 = some m.cls := findClass_of_methodNamed B.named
  have hlocks : meth.locks = false := B.notSynchronized
  have hemp : c.exceptionTable.isEmpty = true := B.noHandlers (hts _ List.mem_cons_self)
  have hT := hI.2.2
  have hK := hT.K
  have hG := hI.B
  have hf11 := hts (.fieldLink RX2 11 "DotGossip" "holdings" "[LDotGossip$Holding;") (by decide +kernel)
  have hf23 := hts (.fieldLink RX2 23 "DotGossip" "replicaCount" "I") (by decide +kernel)
  have hinX0 : ∀ w ∈ wsX00, w ∈ wsX2_values := by decide +kernel
  have hinX2 : ∀ w ∈ wsX20, w ∈ wsX2_values := by decide +kernel
  have hE : entryFrame m args 3 = entryFrame m ([.ref x, .int r9, .int s9] : List Value).toArray 3 := by rw [hav]
  rw [hE]
  have hl := lv_entry ([.ref x, .int r9, .int s9]) (n := 3) (Nat.le_of_ble_eq_true rfl)
  rw [lg_entry_eq]
  generalize (lg_sl ([.ref x, .int r9, .int s9]) ++ List.replicate (3 - (lg_sl ([.ref x, .int r9, .int s9])).length) Slot.unset).toArray = ls at hl ⊢
  have hl : lv_has ls 3 [(0, .ref x), (1, .int r9), (2, .int s9)] := hl
  obtain ⟨aH, wl, la, cap, mc, g, lf, ho, had, my, sn, sad, hcs, hrs⟩ := id hS
  obtain ⟨c0, c1, c2, c3, c4, c5, c6⟩ := id hcs
  refine lv_aload_n hx hb dX2_values_0 rfl (lv_at hl 0 rfl) ?_
  refine lv_iload_n hx hb dX2_values_1 rfl (lv_at hl 1 rfl) ?_
  refine gw_xcallv (vx_runV (As := [.int r9]) (rest := []) ⟨hx, hb, hml, hown, hts⟩ (c_reqRep l hnt K M x S.1 _ _ r9 c1 c0.2) (cwV 1 hts gX2_values_X2_requireReplica rfl rfl rfl (by decide +kernel) ⟨Nat.le_of_ble_eq_true rfl, Nat.le_of_ble_eq_true rfl⟩) (gw_preV hG hT c1 rfl) rfl rfl hl.1 rfl (lv_room (Nat.le_of_ble_eq_true rfl)) dX2_values_2 ⟨Nat.le_of_ble_eq_true rfl, Nat.le_of_ble_eq_true rfl⟩) hG (fun E9 ce9 q9 M_83 H locs hw hG h7 h8 h9 => ?_) (fun M_83 H locs hw hG => ?_)
  · exact gw_out hemp hlocks hG hT h7 h8 h9 ⟨hw.1, hw.2.1, fun q => hw.2.2 q.1⟩ (by omega) (by omega)
  · obtain ⟨rk, hrk, rfl⟩ := hw.2
    rw [hw.1] at hG
    refine lv_iload_n hx hb dX2_values_5 rfl (lv_at hl 2 rfl) ?_
    refine lv_iconst (v := nI 4) hx hb dX2_values_6 (by decide) ?_
    refine gw_xcallv (vx_runS (As := [.int s9, .int (nI 4)]) (rest := []) ⟨hx, hb, hml, hown, hts⟩ (c_reqIx l hnt K M s9 (nI 4)) (va_cwS 2 hts gX2_values_X2_requireIndex rfl rfl rfl (by decide +kernel) ⟨Nat.le_of_ble_eq_true rfl, Nat.le_of_ble_eq_true rfl⟩) (gw_preS hG hT) rfl rfl hl.1 rfl (lv_room (Nat.le_of_ble_eq_true rfl)) dX2_values_7 ⟨Nat.le_of_ble_eq_true rfl, Nat.le_of_ble_eq_true rfl⟩) hG (fun E9 ce9 q9 M_85 H locs hw hG h7 h8 h9 => ?_) (fun M_85 H locs hw hG => ?_)
    · exact gw_out hemp hlocks hG hT h7 h8 h9 ⟨hw.1, hw.2.1, fun q => hw.2.2 ((inN_iff (by omega)).mpr q.2)⟩ (by omega) (by omega)
    · obtain ⟨ks, hks, rfl⟩ := (inN_iff (n := 4) (by omega)).mp hw.2
      rw [hw.1] at hG
      refine lv_aload_n hx hb dX2_values_10 rfl (lv_at hl 0 rfl) ?_
      refine gw_get (ci := 3) (C := RX2) (T := TX2) (N := 3) hx hb hts hinX2 hown hK hG c1 rfl 0 (by decide) hf11 (fun _ h9 => h9) rfl dX2_values_11 ?_
      refine lv_iload_n hx hb dX2_values_14 rfl (lv_at hl 1 rfl) ?_
      refine gw_aldq_n (v := some (ho rk)) hx hb hK hG c2 2 rfl (by omega) (by omega) (c3 rk (by omega)).1 dX2_values_15 ?_
      have hh_h := (c3 rk (by omega)).2
      obtain ⟨h_0, h_s, h_n, h_w, h_a, h_t, h_ne⟩ := id hh_h
      refine lv_bipush (v := nI 64) hx hb dX2_values_16 (by decide) ?_
      refine lv_iload_n hx hb dX2_values_18 rfl (lv_at hl 2 rfl) ?_
      refine gw_iadd hx hb dX2_values_19 ?_
      refine gw_calli (va_runV (As := [.int (nI (64 + ks))]) (rest := []) ⟨hx, hb, hml, hown, hts⟩ (c_dotsAt l K M (ho rk) (had rk) (S.2.1 rk) (64 + ks) hh_h (by omega)) (cwV 1 hts gX2_values_X0_dotsAt rfl rfl rfl (by decide +kernel) ⟨Nat.le_of_ble_eq_true rfl, Nat.le_of_ble_eq_true rfl⟩) (gw_preV hG hT h_0 rfl) rfl rfl hl.1 rfl (lv_room (Nat.le_of_ble_eq_true rfl)) dX2_values_20 ⟨Nat.le_of_ble_eq_true rfl, Nat.le_of_ble_eq_true rfl⟩) hG (fun r_86 M_87 H locs hw hG => ?_)
      rw [hw.1] at hG
      refine gw_as hw.2 ?_
      refine vx_ret ?_
      exact gw_iret hx hb hr hlocks hG hT (by omega) (by omega) dX2_values_23 ⟨rfl, rk, ks, ⟨hrk, rfl⟩, ⟨hks, rfl⟩, rfl⟩

set_option maxHeartbeats 4000000 in
set_option maxRecDepth 100000 in
/-- c_total -/
theorem c_total (l : Launch) (hnt : l.stackTraces = false) (K : gw_C) (M : gw_M) (x : Nat) (ro : Nat → Nat) (S : gst) (r9 s9 : Int32) (hS : CS K M ro x S) : vx_Met l yX2_total wsX2_total ({ frames := 10, cells := 2, slots := 12, locals := 200 } : Room) (va_Pc [.ref x, .int r9, .int s9] (gw_I K M)) (va_Qi (fun r M1 => M1 = M ∧ ∃ rk ks, (rk < S.1 ∧ r9 = nI rk) ∧ (ks < 4 ∧ s9 = nI ks) ∧ r = (wsum (S.2.1 rk).2.2.2.1 (S.2.1 rk).2.2.2.2 ks 6).toInt32) (gw_I K) (gw_A K)) (gw_X K (iae M (¬ (inN r9 S.1 ∧ inN s9 4)))) 2 12 (gw_A K) := by
  refine vx_ofW (cc := cX2_total) (maxL := 3) (ret := (some .int)) (by decide) rfl ?_
  intro p e s m args below meth c s₁ B hml hnone hv
  obtain ⟨hav, hI⟩ := hv
  have hx := B.exec
  have hb := B.bytes
  have hr := B.returns
  have hts := atoms_spec (ws := wsX2_total) B.pre
  have hown : s.vm.findClass RX2 = some m.cls := findClass_of_methodNamed B.named
  have hlocks : meth.locks = false := B.notSynchronized
  have hemp : c.exceptionTable.isEmpty = true := B.noHandlers (hts _ List.mem_cons_self)
  have hT := hI.2.2
  have hK := hT.K
  have hG := hI.B
  have hf11 := hts (.fieldLink RX2 11 "DotGossip" "holdings" "[LDotGossip$Holding;") (by decide +kernel)
  have hf23 := hts (.fieldLink RX2 23 "DotGossip" "replicaCount" "I") (by decide +kernel)
  have hinX0 : ∀ w ∈ wsX00, w ∈ wsX2_total := by decide +kernel
  have hinX2 : ∀ w ∈ wsX20, w ∈ wsX2_total := by decide +kernel
  have hE : entryFrame m args 3 = entryFrame m ([.ref x, .int r9, .int s9] : List Value).toArray 3 := by rw [hav]
  rw [hE]
  have hl := lv_entry ([.ref x, .int r9, .int s9]) (n := 3) (Nat.le_of_ble_eq_true rfl)
  rw [lg_entry_eq]
  generalize (lg_sl ([.ref x, .int r9, .int s9]) ++ List.replicate (3 - (lg_sl ([.ref x, .int r9, .int s9])).length) Slot.unset).toArray = ls at hl ⊢
  have hl : lv_has ls 3 [(0, .ref x), (1, .int r9), (2, .int s9)] := hl
  obtain ⟨aH, wl, la, cap, mc, g, lf, ho, had, my, sn, sad, hcs, hrs⟩ := id hS
  obtain ⟨c0, c1, c2, c3, c4, c5, c6⟩ := id hcs
  refine lv_aload_n hx hb dX2_total_0 rfl (lv_at hl 0 rfl) ?_
  refine lv_iload_n hx hb dX2_total_1 rfl (lv_at hl 1 rfl) ?_
  refine gw_xcallv (vx_runV (As := [.int r9]) (rest := []) ⟨hx, hb, hml, hown, hts⟩ (c_reqRep l hnt K M x S.1 _ _ r9 c1 c0.2) (cwV 1 hts gX2_total_X2_requireReplica rfl rfl rfl (by decide +kernel) ⟨Nat.le_of_ble_eq_true rfl, Nat.le_of_ble_eq_true rfl⟩) (gw_preV hG hT c1 rfl) rfl rfl hl.1 rfl (lv_room (Nat.le_of_ble_eq_true rfl)) dX2_total_2 ⟨Nat.le_of_ble_eq_true rfl, Nat.le_of_ble_eq_true rfl⟩) hG (fun E9 ce9 q9 M_89 H locs hw hG h7 h8 h9 => ?_) (fun M_89 H locs hw hG => ?_)
  · exact gw_out hemp hlocks hG hT h7 h8 h9 ⟨hw.1, hw.2.1, fun q => hw.2.2 q.1⟩ (by omega) (by omega)
  · obtain ⟨rk, hrk, rfl⟩ := hw.2
    rw [hw.1] at hG
    refine lv_iload_n hx hb dX2_total_5 rfl (lv_at hl 2 rfl) ?_
    refine lv_iconst (v := nI 4) hx hb dX2_total_6 (by decide) ?_
    refine gw_xcallv (vx_runS (As := [.int s9, .int (nI 4)]) (rest := []) ⟨hx, hb, hml, hown, hts⟩ (c_reqIx l hnt K M s9 (nI 4)) (va_cwS 2 hts gX2_total_X2_requireIndex rfl rfl rfl (by decide +kernel) ⟨Nat.le_of_ble_eq_true rfl, Nat.le_of_ble_eq_true rfl⟩) (gw_preS hG hT) rfl rfl hl.1 rfl (lv_room (Nat.le_of_ble_eq_true rfl)) dX2_total_7 ⟨Nat.le_of_ble_eq_true rfl, Nat.le_of_ble_eq_true rfl⟩) hG (fun E9 ce9 q9 M_91 H locs hw hG h7 h8 h9 => ?_) (fun M_91 H locs hw hG => ?_)
    · exact gw_out hemp hlocks hG hT h7 h8 h9 ⟨hw.1, hw.2.1, fun q => hw.2.2 ((inN_iff (by omega)).mpr q.2)⟩ (by omega) (by omega)
    · obtain ⟨ks, hks, rfl⟩ := (inN_iff (n := 4) (by omega)).mp hw.2
      rw [hw.1] at hG
      refine lv_aload_n hx hb dX2_total_10 rfl (lv_at hl 0 rfl) ?_
      refine gw_get (ci := 3) (C := RX2) (T := TX2) (N := 3) hx hb hts hinX2 hown hK hG c1 rfl 0 (by decide) hf11 (fun _ h9 => h9) rfl dX2_total_11 ?_
      refine lv_iload_n hx hb dX2_total_14 rfl (lv_at hl 1 rfl) ?_
      refine gw_aldq_n (v := some (ho rk)) hx hb hK hG c2 2 rfl (by omega) (by omega) (c3 rk (by omega)).1 dX2_total_15 ?_
      have hh_h := (c3 rk (by omega)).2
      obtain ⟨h_0, h_s, h_n, h_w, h_a, h_t, h_ne⟩ := id hh_h
      refine lv_iload_n hx hb dX2_total_16 rfl (lv_at hl 2 rfl) ?_
      refine gw_calli (va_runV (As := [.int (nI ks)]) (rest := []) ⟨hx, hb, hml, hown, hts⟩ (c_worth l K M (ho rk) (had rk) (S.2.1 rk) ks hh_h hks) (cwV 1 hts gX2_total_X0_worth rfl rfl rfl (by decide +kernel) ⟨Nat.le_of_ble_eq_true rfl, Nat.le_of_ble_eq_true rfl⟩) (gw_preV hG hT h_0 rfl) rfl rfl hl.1 rfl (lv_room (Nat.le_of_ble_eq_true rfl)) dX2_total_17 ⟨Nat.le_of_ble_eq_true rfl, Nat.le_of_ble_eq_true rfl⟩) hG (fun r_92 M_93 H locs hw hG => ?_)
      rw [hw.1] at hG
      refine gw_as hw.2 ?_
      refine vx_ret ?_
      exact gw_iret hx hb hr hlocks hG hT (by omega) (by omega) dX2_total_20 ⟨rfl, rk, ks, ⟨hrk, rfl⟩, ⟨hks, rfl⟩, rfl⟩

set_option maxHeartbeats 4000000 in
set_option maxRecDepth 100000 in
/-- vector -/
theorem c_vector (l : Launch) (hnt : l.stackTraces = false) (K : gw_C) (M : gw_M) (x : Nat) (ro : Nat → Nat) (S : gst) (r9 s9 : Int32) (hS : CS K M ro x S) : vx_Met l yX2_vector wsX2_vector ({ frames := 10, cells := 2, slots := 12, locals := 200 } : Room) (va_Pc [.ref x, .int r9, .int s9] (gw_I K M)) (va_Qi (fun r M1 => M1 = M ∧ ∃ rk rj, (rk < S.1 ∧ r9 = nI rk) ∧ (rj < S.1 ∧ s9 = nI rj) ∧ r = (S.2.1 rk).1 rj) (gw_I K) (gw_A K)) (gw_X K (iae M (¬ (inN r9 S.1 ∧ inN s9 S.1)))) 2 12 (gw_A K) := by
  refine vx_ofW (cc := cX2_vector) (maxL := 3) (ret := (some .int)) (by decide) rfl ?_
  intro p e s m args below meth c s₁ B hml hnone hv
  obtain ⟨hav, hI⟩ := hv
  have hx := B.exec
  have hb := B.bytes
  have hr := B.returns
  have hts := atoms_spec (ws := wsX2_vector) B.pre
  have hown : s.vm.findClass RX2 = some m.cls := findClass_of_methodNamed B.named
  have hlocks : meth.locks = false := B.notSynchronized
  have hemp : c.exceptionTable.isEmpty = true := B.noHandlers (hts _ List.mem_cons_self)
  have hT := hI.2.2
  have hK := hT.K
  have hG := hI.B
  have hf11 := hts (.fieldLink RX2 11 "DotGossip" "holdings" "[LDotGossip$Holding;") (by decide +kernel)
  have hf23 := hts (.fieldLink RX2 23 "DotGossip" "replicaCount" "I") (by decide +kernel)
  have hf124 := hts (.fieldLink RX2 124 "DotGossip$Holding" "seen" "[I") (by decide +kernel)
  have hinX0 : ∀ w ∈ wsX00, w ∈ wsX2_vector := by decide +kernel
  have hinX2 : ∀ w ∈ wsX20, w ∈ wsX2_vector := by decide +kernel
  have hE : entryFrame m args 3 = entryFrame m ([.ref x, .int r9, .int s9] : List Value).toArray 3 := by rw [hav]
  rw [hE]
  have hl := lv_entry ([.ref x, .int r9, .int s9]) (n := 3) (Nat.le_of_ble_eq_true rfl)
  rw [lg_entry_eq]
  generalize (lg_sl ([.ref x, .int r9, .int s9]) ++ List.replicate (3 - (lg_sl ([.ref x, .int r9, .int s9])).length) Slot.unset).toArray = ls at hl ⊢
  have hl : lv_has ls 3 [(0, .ref x), (1, .int r9), (2, .int s9)] := hl
  obtain ⟨aH, wl, la, cap, mc, g, lf, ho, had, my, sn, sad, hcs, hrs⟩ := id hS
  obtain ⟨c0, c1, c2, c3, c4, c5, c6⟩ := id hcs
  refine lv_aload_n hx hb dX2_vector_0 rfl (lv_at hl 0 rfl) ?_
  refine lv_iload_n hx hb dX2_vector_1 rfl (lv_at hl 1 rfl) ?_
  refine gw_xcallv (vx_runV (As := [.int r9]) (rest := []) ⟨hx, hb, hml, hown, hts⟩ (c_reqRep l hnt K M x S.1 _ _ r9 c1 c0.2) (cwV 1 hts gX2_vector_X2_requireReplica rfl rfl rfl (by decide +kernel) ⟨Nat.le_of_ble_eq_true rfl, Nat.le_of_ble_eq_true rfl⟩) (gw_preV hG hT c1 rfl) rfl rfl hl.1 rfl (lv_room (Nat.le_of_ble_eq_true rfl)) dX2_vector_2 ⟨Nat.le_of_ble_eq_true rfl, Nat.le_of_ble_eq_true rfl⟩) hG (fun E9 ce9 q9 M_95 H locs hw hG h7 h8 h9 => ?_) (fun M_95 H locs hw hG => ?_)
  · exact gw_out hemp hlocks hG hT h7 h8 h9 ⟨hw.1, hw.2.1, fun q => hw.2.2 q.1⟩ (by omega) (by omega)
  · obtain ⟨rk, hrk, rfl⟩ := hw.2
    rw [hw.1] at hG
    refine lv_aload_n hx hb dX2_vector_5 rfl (lv_at hl 0 rfl) ?_
    refine lv_iload_n hx hb dX2_vector_6 rfl (lv_at hl 2 rfl) ?_
    refine gw_xcallv (vx_runV (As := [.int s9]) (rest := []) ⟨hx, hb, hml, hown, hts⟩ (c_reqRep l hnt K M x S.1 _ _ s9 c1 c0.2) (cwV 1 hts gX2_vector_X2_requireReplica rfl rfl rfl (by decide +kernel) ⟨Nat.le_of_ble_eq_true rfl, Nat.le_of_ble_eq_true rfl⟩) (gw_preV hG hT c1 rfl) rfl rfl hl.1 rfl (lv_room (Nat.le_of_ble_eq_true rfl)) dX2_vector_7 ⟨Nat.le_of_ble_eq_true rfl, Nat.le_of_ble_eq_true rfl⟩) hG (fun E9 ce9 q9 M_97 H locs hw hG h7 h8 h9 => ?_) (fun M_97 H locs hw hG => ?_)
    · exact gw_out hemp hlocks hG hT h7 h8 h9 ⟨hw.1, hw.2.1, fun q => hw.2.2 q.2⟩ (by omega) (by omega)
    · obtain ⟨rj, hrj, rfl⟩ := hw.2
      rw [hw.1] at hG
      refine lv_aload_n hx hb dX2_vector_10 rfl (lv_at hl 0 rfl) ?_
      refine gw_get (ci := 3) (C := RX2) (T := TX2) (N := 3) hx hb hts hinX2 hown hK hG c1 rfl 0 (by decide) hf11 (fun _ h9 => h9) rfl dX2_vector_11 ?_
      refine lv_iload_n hx hb dX2_vector_14 rfl (lv_at hl 1 rfl) ?_
      refine gw_aldq_n (v := some (ho rk)) hx hb hK hG c2 2 rfl (by omega) (by omega) (c3 rk (by omega)).1 dX2_vector_15 ?_
      have hh_h := (c3 rk (by omega)).2
      obtain ⟨h_0, h_s, h_n, h_w, h_a, h_t, h_ne⟩ := id hh_h
      refine gw_get (ci := 1) (C := RX0) (T := TX0) (N := 5) hx hb hts hinX0 hown hK hG h_0 rfl 0 (by decide) hf124 (fun _ h9 => h9) rfl dX2_vector_16 ?_
      refine lv_iload_n hx hb dX2_vector_19 rfl (lv_at hl 2 rfl) ?_
      refine gw_iald_n hx hb hK hG h_s 0 rfl (by omega) (by omega) dX2_vector_20 ?_
      refine vx_ret ?_
      exact gw_iret hx hb hr hlocks hG hT (by omega) (by omega) dX2_vector_21 ⟨rfl, rk, rj, ⟨hrk, rfl⟩, ⟨hrj, rfl⟩, rfl⟩

set_option maxHeartbeats 4000000 in
set_option maxRecDepth 100000 in
/-- same -/
theorem c_same (l : Launch) (hnt : l.stackTraces = false) (K : gw_C) (M : gw_M) (x : Nat) (ro : Nat → Nat) (S : gst) (r9 s9 : Int32) (hS : CS K M ro x S) : vx_Met l yX2_same wsX2_same ({ frames := 10, cells := 2, slots := 12, locals := 200 } : Room) (va_Pc [.ref x, .int r9, .int s9] (gw_I K M)) (va_Qi (fun r M1 => M1 = M ∧ ∃ rk rj, (rk < S.1 ∧ r9 = nI rk) ∧ (rj < S.1 ∧ s9 = nI rj) ∧ ((r = nI 1 ∧ heq (S.2.1 rk) (S.2.1 rj)) ∨ (r = nI 0 ∧ ¬ heq (S.2.1 rk) (S.2.1 rj)))) (gw_I K) (gw_A K)) (gw_X K (iae M (¬ (inN r9 S.1 ∧ inN s9 S.1)))) 2 12 (gw_A K) := by
  refine vx_ofW (cc := cX2_same) (maxL := 3) (ret := (some .boolean)) (by decide) rfl ?_
  intro p e s m args below meth c s₁ B hml hnone hv
  obtain ⟨hav, hI⟩ := hv
  have hx := B.exec
  have hb := B.bytes
  have hr := B.returns
  have hts := atoms_spec (ws := wsX2_same) B.pre
  have hown : s.vm.findClass RX2 = some m.cls := findClass_of_methodNamed B.named
  have hlocks : meth.locks = false := B.notSynchronized
  have hemp : c.exceptionTable.isEmpty = true := B.noHandlers (hts _ List.mem_cons_self)
  have hT := hI.2.2
  have hK := hT.K
  have hG := hI.B
  have hf11 := hts (.fieldLink RX2 11 "DotGossip" "holdings" "[LDotGossip$Holding;") (by decide +kernel)
  have hf23 := hts (.fieldLink RX2 23 "DotGossip" "replicaCount" "I") (by decide +kernel)
  have hinX0 : ∀ w ∈ wsX00, w ∈ wsX2_same := by decide +kernel
  have hinX2 : ∀ w ∈ wsX20, w ∈ wsX2_same := by decide +kernel
  have hE : entryFrame m args 3 = entryFrame m ([.ref x, .int r9, .int s9] : List Value).toArray 3 := by rw [hav]
  rw [hE]
  have hl := lv_entry ([.ref x, .int r9, .int s9]) (n := 3) (Nat.le_of_ble_eq_true rfl)
  rw [lg_entry_eq]
  generalize (lg_sl ([.ref x, .int r9, .int s9]) ++ List.replicate (3 - (lg_sl ([.ref x, .int r9, .int s9])).length) Slot.unset).toArray = ls at hl ⊢
  have hl : lv_has ls 3 [(0, .ref x), (1, .int r9), (2, .int s9)] := hl
  obtain ⟨aH, wl, la, cap, mc, g, lf, ho, had, my, sn, sad, hcs, hrs⟩ := id hS
  obtain ⟨c0, c1, c2, c3, c4, c5, c6⟩ := id hcs
  refine lv_aload_n hx hb dX2_same_0 rfl (lv_at hl 0 rfl) ?_
  refine lv_iload_n hx hb dX2_same_1 rfl (lv_at hl 1 rfl) ?_
  refine gw_xcallv (vx_runV (As := [.int r9]) (rest := []) ⟨hx, hb, hml, hown, hts⟩ (c_reqRep l hnt K M x S.1 _ _ r9 c1 c0.2) (cwV 1 hts gX2_same_X2_requireReplica rfl rfl rfl (by decide +kernel) ⟨Nat.le_of_ble_eq_true rfl, Nat.le_of_ble_eq_true rfl⟩) (gw_preV hG hT c1 rfl) rfl rfl hl.1 rfl (lv_room (Nat.le_of_ble_eq_true rfl)) dX2_same_2 ⟨Nat.le_of_ble_eq_true rfl, Nat.le_of_ble_eq_true rfl⟩) hG (fun E9 ce9 q9 M_99 H locs hw hG h7 h8 h9 => ?_) (fun M_99 H locs hw hG => ?_)
  · exact gw_out hemp hlocks hG hT h7 h8 h9 ⟨hw.1, hw.2.1, fun q => hw.2.2 q.1⟩ (by omega) (by omega)
  · obtain ⟨rk, hrk, rfl⟩ := hw.2
    rw [hw.1] at hG
    refine lv_aload_n hx hb dX2_same_5 rfl (lv_at hl 0 rfl) ?_
    refine lv_iload_n hx hb dX2_same_6 rfl (lv_at hl 2 rfl) ?_
    refine gw_xcallv (vx_runV (As := [.int s9]) (rest := []) ⟨hx, hb, hml, hown, hts⟩ (c_reqRep l hnt K M x S.1 _ _ s9 c1 c0.2) (cwV 1 hts gX2_same_X2_requireReplica rfl rfl rfl (by decide +kernel) ⟨Nat.le_of_ble_eq_true rfl, Nat.le_of_ble_eq_true rfl⟩) (gw_preV hG hT c1 rfl) rfl rfl hl.1 rfl (lv_room (Nat.le_of_ble_eq_true rfl)) dX2_same_7 ⟨Nat.le_of_ble_eq_true rfl, Nat.le_of_ble_eq_true rfl⟩) hG (fun E9 ce9 q9 M_101 H locs hw hG h7 h8 h9 => ?_) (fun M_101 H locs hw hG => ?_)
    · exact gw_out hemp hlocks hG hT h7 h8 h9 ⟨hw.1, hw.2.1, fun q => hw.2.2 q.2⟩ (by omega) (by omega)
    · obtain ⟨rj, hrj, rfl⟩ := hw.2
      rw [hw.1] at hG
      refine lv_aload_n hx hb dX2_same_10 rfl (lv_at hl 0 rfl) ?_
      refine gw_get (ci := 3) (C := RX2) (T := TX2) (N := 3) hx hb hts hinX2 hown hK hG c1 rfl 0 (by decide) hf11 (fun _ h9 => h9) rfl dX2_same_11 ?_
      refine lv_iload_n hx hb dX2_same_14 rfl (lv_at hl 1 rfl) ?_
      refine gw_aldq_n (v := some (ho rk)) hx hb hK hG c2 2 rfl (by omega) (by omega) (c3 rk (by omega)).1 dX2_same_15 ?_
      have hh_h := (c3 rk (by omega)).2
      obtain ⟨h_0, h_s, h_n, h_w, h_a, h_t, h_ne⟩ := id hh_h
      refine lv_aload_n hx hb dX2_same_16 rfl (lv_at hl 0 rfl) ?_
      refine gw_get (ci := 3) (C := RX2) (T := TX2) (N := 3) hx hb hts hinX2 hown hK hG c1 rfl 0 (by decide) hf11 (fun _ h9 => h9) rfl dX2_same_17 ?_
      refine lv_iload_n hx hb dX2_same_20 rfl (lv_at hl 2 rfl) ?_
      refine gw_aldq_n (v := some (ho rj)) hx hb hK hG c2 2 rfl (by omega) (by omega) (c3 rj (by omega)).1 dX2_same_21 ?_
      have hh_y := (c3 rj (by omega)).2
      obtain ⟨y_0, y_s, y_n, y_w, y_a, y_t, y_ne⟩ := id hh_y
      refine gw_calli (va_runV (As := [.ref (ho rj)]) (rest := []) ⟨hx, hb, hml, hown, hts⟩ (c_matches l K M (ho rk) (ho rj) (had rk) (had rj) (S.2.1 rk) (S.2.1 rj) hh_h hh_y) (cwV 1 hts gX2_same_X0_matches rfl rfl rfl (by decide +kernel) ⟨Nat.le_of_ble_eq_true rfl, Nat.le_of_ble_eq_true rfl⟩) (gw_preV hG hT h_0 rfl) rfl rfl hl.1 rfl (lv_room (Nat.le_of_ble_eq_true rfl)) dX2_same_22 ⟨Nat.le_of_ble_eq_true rfl, Nat.le_of_ble_eq_true rfl⟩) hG (fun r_102 M_103 H locs hw hG => ?_)
      have hw2 := hw.2
      rw [hw.1] at hG
      refine vx_ret ?_
      exact gw_zret hx hb hr hlocks hG hT (by omega) (by omega) dX2_same_25 (hw2.elim (fun q => Or.inr (q.1.trans (by decide))) (fun q => Or.inl (q.1.trans (by decide)))) ⟨rfl, rk, rj, ⟨hrk, rfl⟩, ⟨hrj, rfl⟩, hw2⟩

set_option maxHeartbeats 4000000 in
set_option maxRecDepth 100000 in
/-- write -/
theorem c_write (l : Launch) (hnt : l.stackTraces = false) (K : gw_C) (M : gw_M) (x : Nat) (ro : Nat → Nat) (S : gst) (r9 s9 v9 : Int32) (hS : CS K M ro x S) : vx_Met l yX2_write wsX2_write ({ frames := 10, cells := 2, slots := 12, locals := 200 } : Room) (va_Pc [.ref x, .int r9, .int s9, .int v9] (gw_I K M)) (va_Qi (fun r M1 => ∃ rk ks, (rk < S.1 ∧ r9 = nI rk) ∧ (ks < 4 ∧ s9 = nI ks) ∧ r = nI (dcnt (S.2.1 rk).2.1 (64 + ks) 6) ∧ CS K M1 ro x (shold S rk (vwr (S.2.1 rk) rk ks v9)) ∧ ofr 60 1000 M M1 ro ro) (gw_I K) (gw_A K)) (gw_X K (iae M (¬ (inN r9 S.1 ∧ inN s9 4)))) 2 12 (gw_A K) := by
  refine vx_ofW (cc := cX2_write) (maxL := 7) (ret := (some .int)) (by decide) rfl ?_
  intro p e s m args below meth c s₁ B hml hnone hv
  obtain ⟨hav, hI⟩ := hv
  have hx := B.exec
  have hb := B.bytes
  have hr := B.returns
  have hts := atoms_spec (ws := wsX2_write) B.pre
  have hown : s.vm.findClass RX2 = some m.cls := findClass_of_methodNamed B.named
  have hlocks : meth.locks = false := B.notSynchronized
  have hemp : c.exceptionTable.isEmpty = true := B.noHandlers (hts _ List.mem_cons_self)
  have hT := hI.2.2
  have hK := hT.K
  have hG := hI.B
  have hf11 := hts (.fieldLink RX2 11 "DotGossip" "holdings" "[LDotGossip$Holding;") (by decide +kernel)
  have hf23 := hts (.fieldLink RX2 23 "DotGossip" "replicaCount" "I") (by decide +kernel)
  have hf60 := hts (.fieldLink RX2 60 "DotGossip$Holding" "written" "[I") (by decide +kernel)
  have hinX0 : ∀ w ∈ wsX00, w ∈ wsX2_write := by decide +kernel
  have hinX2 : ∀ w ∈ wsX20, w ∈ wsX2_write := by decide +kernel
  have hE : entryFrame m args 7 = entryFrame m ([.ref x, .int r9, .int s9, .int v9] : List Value).toArray 7 := by rw [hav]
  rw [hE]
  have hl := lv_entry ([.ref x, .int r9, .int s9, .int v9]) (n := 7) (Nat.le_of_ble_eq_true rfl)
  rw [lg_entry_eq]
  generalize (lg_sl ([.ref x, .int r9, .int s9, .int v9]) ++ List.replicate (7 - (lg_sl ([.ref x, .int r9, .int s9, .int v9])).length) Slot.unset).toArray = ls at hl ⊢
  have hl : lv_has ls 7 [(0, .ref x), (1, .int r9), (2, .int s9), (3, .int v9)] := hl
  obtain ⟨aH, wl, la, cap, mc, g, lf, ho, had, my, sn, sad, hcs, hrs⟩ := id hS
  obtain ⟨c0, c1, c2, c3, c4, c5, c6⟩ := id hcs
  refine lv_aload_n hx hb dX2_write_0 rfl (lv_at hl 0 rfl) ?_
  refine lv_iload_n hx hb dX2_write_1 rfl (lv_at hl 1 rfl) ?_
  refine gw_xcallv (vx_runV (As := [.int r9]) (rest := []) ⟨hx, hb, hml, hown, hts⟩ (c_reqRep l hnt K M x S.1 _ _ r9 c1 c0.2) (cwV 1 hts gX2_write_X2_requireReplica rfl rfl rfl (by decide +kernel) ⟨Nat.le_of_ble_eq_true rfl, Nat.le_of_ble_eq_true rfl⟩) (gw_preV hG hT c1 rfl) rfl rfl hl.1 rfl (lv_room (Nat.le_of_ble_eq_true rfl)) dX2_write_2 ⟨Nat.le_of_ble_eq_true rfl, Nat.le_of_ble_eq_true rfl⟩) hG (fun E9 ce9 q9 M_105 H locs hw hG h7 h8 h9 => ?_) (fun M_105 H locs hw hG => ?_)
  · exact gw_out hemp hlocks hG hT h7 h8 h9 ⟨hw.1, hw.2.1, fun q => hw.2.2 q.1⟩ (by omega) (by omega)
  · obtain ⟨rk, hrk, rfl⟩ := hw.2
    rw [hw.1] at hG
    refine lv_iload_n hx hb dX2_write_5 rfl (lv_at hl 2 rfl) ?_
    refine lv_iconst (v := nI 4) hx hb dX2_write_6 (by decide) ?_
    refine gw_xcallv (vx_runS (As := [.int s9, .int (nI 4)]) (rest := []) ⟨hx, hb, hml, hown, hts⟩ (c_reqIx l hnt K M s9 (nI 4)) (va_cwS 2 hts gX2_write_X2_requireIndex rfl rfl rfl (by decide +kernel) ⟨Nat.le_of_ble_eq_true rfl, Nat.le_of_ble_eq_true rfl⟩) (gw_preS hG hT) rfl rfl hl.1 rfl (lv_room (Nat.le_of_ble_eq_true rfl)) dX2_write_7 ⟨Nat.le_of_ble_eq_true rfl, Nat.le_of_ble_eq_true rfl⟩) hG (fun E9 ce9 q9 M_107 H locs hw hG h7 h8 h9 => ?_) (fun M_107 H locs hw hG => ?_)
    · exact gw_out hemp hlocks hG hT h7 h8 h9 ⟨hw.1, hw.2.1, fun q => hw.2.2 ((inN_iff (by omega)).mpr q.2)⟩ (by omega) (by omega)
    · obtain ⟨ks, hks, rfl⟩ := (inN_iff (n := 4) (by omega)).mp hw.2
      rw [hw.1] at hG
      refine lv_aload_n hx hb dX2_write_10 rfl (lv_at hl 0 rfl) ?_
      refine gw_get (ci := 3) (C := RX2) (T := TX2) (N := 3) hx hb hts hinX2 hown hK hG c1 rfl 0 (by decide) hf11 (fun _ h9 => h9) rfl dX2_write_11 ?_
      refine lv_iload_n hx hb dX2_write_14 rfl (lv_at hl 1 rfl) ?_
      refine gw_aldq_n (v := some (ho rk)) hx hb hK hG c2 2 rfl (by omega) (by omega) (c3 rk (by omega)).1 dX2_write_15 ?_
      have hh_h := (c3 rk (by omega)).2
      obtain ⟨h_0, h_s, h_n, h_w, h_a, h_t, h_ne⟩ := id hh_h
      refine lv_astore (lv' := [(4, .ref (ho rk)), (0, .ref x), (1, .int (nI rk)), (2, .int (nI ks)), (3, .int v9)]) hx hb dX2_write_16 hl (by decide) rfl (fun ls hl => ?_)
      refine lv_bipush (v := nI 64) hx hb dX2_write_18 (by decide) ?_
      refine lv_iload_n hx hb dX2_write_20 rfl (lv_at hl 3 rfl) ?_
      refine gw_iadd hx hb dX2_write_21 ?_
      refine lv_istore (lv' := [(5, .int (nI (64 + ks))), (4, .ref (ho rk)), (0, .ref x), (1, .int (nI rk)), (2, .int (nI ks)), (3, .int v9)]) hx hb dX2_write_22 hl (by decide) rfl (fun ls hl => ?_)
      refine lv_aload hx hb dX2_write_24 (lv_at hl 1 rfl) ?_
      refine lv_iload hx hb dX2_write_26 (lv_at hl 0 rfl) ?_
      refine gw_calli (va_runV (As := [.int (nI (64 + ks))]) (rest := []) ⟨hx, hb, hml, hown, hts⟩ (c_forget l K M (ho rk) (had rk) (S.2.1 rk) (64 + ks) hh_h (by omega)) (cwV 1 hts gX2_write_X0_forget rfl rfl rfl (by decide +kernel) ⟨Nat.le_of_ble_eq_true rfl, Nat.le_of_ble_eq_true rfl⟩) (gw_preV hG hT h_0 rfl) rfl rfl hl.1 rfl (lv_room (Nat.le_of_ble_eq_true rfl)) dX2_write_28 ⟨Nat.le_of_ble_eq_true rfl, Nat.le_of_ble_eq_true rfl⟩) hG (fun r_108 M_109 H locs hw hG => ?_)
      obtain ⟨hr1, hd1, hf1⟩ := hw
      refine gw_as hr1 ?_
      refine lv_istore (lv' := [(6, .int (nI (dcnt (S.2.1 rk).2.1 (64 + ks) 6))), (5, .int (nI (64 + ks))), (4, .ref (ho rk)), (0, .ref x), (1, .int (nI rk)), (2, .int (nI ks)), (3, .int v9)]) hx hb dX2_write_31 hl (by decide) rfl (fun ls hl => ?_)
      refine lv_aload hx hb dX2_write_33 (lv_at hl 2 rfl) ?_
      refine lv_iload hx hb dX2_write_35 (lv_at hl 1 rfl) ?_
      refine lv_iload_n hx hb dX2_write_37 rfl (lv_at hl 4 rfl) ?_
      refine gw_calli (va_runV (As := [.int (nI (64 + ks)), .int (nI rk)]) (rest := []) ⟨hx, hb, hml, hown, hts⟩ (c_makeDot l K M_109 (ho rk) (had rk) ((S.2.1 rk).1, hclr (S.2.1 rk).2.1 (64 + ks) 6, (S.2.1 rk).2.2) (64 + ks) rk hd1 (by omega) (by omega)) (cwV 2 hts gX2_write_X0_makeDot rfl rfl rfl (by decide +kernel) ⟨Nat.le_of_ble_eq_true rfl, Nat.le_of_ble_eq_true rfl⟩) (gw_preV hG hT hd1.1 rfl) rfl rfl hl.1 rfl (lv_room (Nat.le_of_ble_eq_true rfl)) dX2_write_38 ⟨Nat.le_of_ble_eq_true rfl, Nat.le_of_ble_eq_true rfl⟩) hG (fun r_110 M_111 H locs hw hG => ?_)
      obtain ⟨hr2, hd2, hf2⟩ := hw
      obtain ⟨z_0, z_s, z_n, z_w, z_a, z_t, z_ne⟩ := id hd2
      have hne_112 : ho rk ≠ had rk 2 := (gw_io z_0 z_w)
      have hne_113 : had rk 0 ≠ had rk 2 := (fun z => absurd (z_ne 0 2 (by decide) (by decide) z) (by decide))
      have hne_114 : had rk 1 ≠ had rk 2 := (fun z => absurd (z_ne 1 2 (by decide) (by decide) z) (by decide))
      have hne_115 : had rk 3 ≠ had rk 2 := (fun z => absurd (z_ne 3 2 (by decide) (by decide) z) (by decide))
      have hne_116 : had rk 4 ≠ had rk 2 := (fun z => absurd (z_ne 4 2 (by decide) (by decide) z) (by decide))
      refine lv_pop hx hb dX2_write_41 rfl ?_
      refine lv_aload hx hb dX2_write_42 (lv_at hl 2 rfl) ?_
      refine gw_get (ci := 1) (C := RX0) (T := TX0) (N := 5) hx hb hts hinX0 hown hK hG z_0 rfl 2 (by decide) hf60 (fun _ h9 => h9) rfl dX2_write_44 ?_
      refine lv_iload_n hx hb dX2_write_47 rfl (lv_at hl 5 rfl) ?_
      refine lv_bipush (v := nI 6) hx hb dX2_write_48 (by decide) ?_
      refine gw_imul hx hb dX2_write_50 ?_
      refine lv_iload_n hx hb dX2_write_51 rfl (lv_at hl 4 rfl) ?_
      refine gw_iadd hx hb dX2_write_52 ?_
      refine lv_iload_n hx hb dX2_write_53 rfl (lv_at hl 6 rfl) ?_
      refine gw_iast_n hx hb hK hG z_w 0 rfl (by omega) (by omega) dX2_write_54 (fun H locs hG => ?_)
      obtain ⟨M_117, hM_118⟩ : ∃ M1 : gw_M, M1 = gw_up M_111 (had rk 2) (.inl (K.2.1 0, 24, .inl (upd ((S.2.1 rk).2.2.1) ((ks * 6) + rk) v9))) := ⟨_, rfl⟩
      have hG : gw_B K M_117 s.heap H locs := by rw [hM_118]; exact hG
      have hc_119 := (congrFun hM_118 (ho rk)).trans (gw_k hne_112 z_0)
      have hc_120 := (congrFun hM_118 (had rk 0)).trans (gw_k hne_113 z_s)
      have hc_121 := (congrFun hM_118 (had rk 1)).trans (gw_k hne_114 z_n)
      have hc_122 : M_117 (had rk 2) = some (.inl (K.2.1 0, 24, .inl (upd ((S.2.1 rk).2.2.1) ((ks * 6) + rk) v9))) := (congrFun hM_118 _).trans gw_s
      have hc_123 := (congrFun hM_118 (had rk 3)).trans (gw_k hne_115 z_a)
      have hc_124 := (congrFun hM_118 (had rk 4)).trans (gw_k hne_116 z_t)
      refine lv_iload hx hb dX2_write_55 (lv_at hl 0 rfl) ?_
      have hd3 : hd K M_117 (ho rk) (had rk) (vwr (S.2.1 rk) rk ks v9) := ⟨hc_119, hc_120, hc_121, hc_122, hc_123, hc_124, z_ne⟩
      obtain ⟨z1, z2⟩ := cs_hold hcs hrs (show rk < 6 by omega) hd3 ((hf1.tr hf2).tr (fun q hq => by rw [hM_118, gw_n (hq 2 (by decide))]))
      refine vx_ret ?_
      exact gw_iret hx hb hr hlocks hG hT (by omega) (by omega) dX2_write_57 ⟨rk, ks, ⟨hrk, rfl⟩, ⟨hks, rfl⟩, rfl, z1, z2⟩

set_option maxHeartbeats 4000000 in
set_option maxRecDepth 100000 in
/-- count -/
theorem c_count (l : Launch) (hnt : l.stackTraces = false) (K : gw_C) (M : gw_M) (x : Nat) (ro : Nat → Nat) (S : gst) (r9 s9 v9 : Int32) (hS : CS K M ro x S) : vx_Met l yX2_count wsX2_count ({ frames := 10, cells := 2, slots := 12, locals := 200 } : Room) (va_Pc [.ref x, .int r9, .int s9, .int v9] (gw_I K M)) (va_Qi (fun r M1 => ∃ rk ks, (rk < S.1 ∧ r9 = nI rk) ∧ (ks < 4 ∧ s9 = nI ks) ∧ r = (wsum (vcnt (S.2.1 rk) rk ks v9).2.2.2.1 (vcnt (S.2.1 rk) rk ks v9).2.2.2.2 ks 6).toInt32 ∧ CS K M1 ro x (shold S rk (vcnt (S.2.1 rk) rk ks v9)) ∧ ofr 60 1000 M M1 ro ro) (gw_I K) (gw_A K)) (gw_X K (iae M (¬ (inN r9 S.1 ∧ inN s9 4)))) 2 12 (gw_A K) := by
  refine vx_ofW (cc := cX2_count) (maxL := 6) (ret := (some .int)) (by decide) rfl ?_
  intro p e s m args below meth c s₁ B hml hnone hv
  obtain ⟨hav, hI⟩ := hv
  have hx := B.exec
  have hb := B.bytes
  have hr := B.returns
  have hts := atoms_spec (ws := wsX2_count) B.pre
  have hown : s.vm.findClass RX2 = some m.cls := findClass_of_methodNamed B.named
  have hlocks : meth.locks = false := B.notSynchronized
  have hemp : c.exceptionTable.isEmpty = true := B.noHandlers (hts _ List.mem_cons_self)
  have hT := hI.2.2
  have hK := hT.K
  have hG := hI.B
  have hf11 := hts (.fieldLink RX2 11 "DotGossip" "holdings" "[LDotGossip$Holding;") (by decide +kernel)
  have hf23 := hts (.fieldLink RX2 23 "DotGossip" "replicaCount" "I") (by decide +kernel)
  have hf64 := hts (.fieldLink RX2 64 "DotGossip$Holding" "added" "[J") (by decide +kernel)
  have hf68 := hts (.fieldLink RX2 68 "DotGossip$Holding" "taken" "[J") (by decide +kernel)
  have hinX0 : ∀ w ∈ wsX00, w ∈ wsX2_count := by decide +kernel
  have hinX2 : ∀ w ∈ wsX20, w ∈ wsX2_count := by decide +kernel
  have hE : entryFrame m args 6 = entryFrame m ([.ref x, .int r9, .int s9, .int v9] : List Value).toArray 6 := by rw [hav]
  rw [hE]
  have hl := lv_entry ([.ref x, .int r9, .int s9, .int v9]) (n := 6) (Nat.le_of_ble_eq_true rfl)
  rw [lg_entry_eq]
  generalize (lg_sl ([.ref x, .int r9, .int s9, .int v9]) ++ List.replicate (6 - (lg_sl ([.ref x, .int r9, .int s9, .int v9])).length) Slot.unset).toArray = ls at hl ⊢
  have hl : lv_has ls 6 [(0, .ref x), (1, .int r9), (2, .int s9), (3, .int v9)] := hl
  obtain ⟨aH, wl, la, cap, mc, g, lf, ho, had, my, sn, sad, hcs, hrs⟩ := id hS
  obtain ⟨c0, c1, c2, c3, c4, c5, c6⟩ := id hcs
  refine lv_aload_n hx hb dX2_count_0 rfl (lv_at hl 0 rfl) ?_
  refine lv_iload_n hx hb dX2_count_1 rfl (lv_at hl 1 rfl) ?_
  refine gw_xcallv (vx_runV (As := [.int r9]) (rest := []) ⟨hx, hb, hml, hown, hts⟩ (c_reqRep l hnt K M x S.1 _ _ r9 c1 c0.2) (cwV 1 hts gX2_count_X2_requireReplica rfl rfl rfl (by decide +kernel) ⟨Nat.le_of_ble_eq_true rfl, Nat.le_of_ble_eq_true rfl⟩) (gw_preV hG hT c1 rfl) rfl rfl hl.1 rfl (lv_room (Nat.le_of_ble_eq_true rfl)) dX2_count_2 ⟨Nat.le_of_ble_eq_true rfl, Nat.le_of_ble_eq_true rfl⟩) hG (fun E9 ce9 q9 M_126 H locs hw hG h7 h8 h9 => ?_) (fun M_126 H locs hw hG => ?_)
  · exact gw_out hemp hlocks hG hT h7 h8 h9 ⟨hw.1, hw.2.1, fun q => hw.2.2 q.1⟩ (by omega) (by omega)
  · obtain ⟨rk, hrk, rfl⟩ := hw.2
    rw [hw.1] at hG
    refine lv_iload_n hx hb dX2_count_5 rfl (lv_at hl 2 rfl) ?_
    refine lv_iconst (v := nI 4) hx hb dX2_count_6 (by decide) ?_
    refine gw_xcallv (vx_runS (As := [.int s9, .int (nI 4)]) (rest := []) ⟨hx, hb, hml, hown, hts⟩ (c_reqIx l hnt K M s9 (nI 4)) (va_cwS 2 hts gX2_count_X2_requireIndex rfl rfl rfl (by decide +kernel) ⟨Nat.le_of_ble_eq_true rfl, Nat.le_of_ble_eq_true rfl⟩) (gw_preS hG hT) rfl rfl hl.1 rfl (lv_room (Nat.le_of_ble_eq_true rfl)) dX2_count_7 ⟨Nat.le_of_ble_eq_true rfl, Nat.le_of_ble_eq_true rfl⟩) hG (fun E9 ce9 q9 M_128 H locs hw hG h7 h8 h9 => ?_) (fun M_128 H locs hw hG => ?_)
    · exact gw_out hemp hlocks hG hT h7 h8 h9 ⟨hw.1, hw.2.1, fun q => hw.2.2 ((inN_iff (by omega)).mpr q.2)⟩ (by omega) (by omega)
    · obtain ⟨ks, hks, rfl⟩ := (inN_iff (n := 4) (by omega)).mp hw.2
      rw [hw.1] at hG
      refine lv_aload_n hx hb dX2_count_10 rfl (lv_at hl 0 rfl) ?_
      refine gw_get (ci := 3) (C := RX2) (T := TX2) (N := 3) hx hb hts hinX2 hown hK hG c1 rfl 0 (by decide) hf11 (fun _ h9 => h9) rfl dX2_count_11 ?_
      refine lv_iload_n hx hb dX2_count_14 rfl (lv_at hl 1 rfl) ?_
      refine gw_aldq_n (v := some (ho rk)) hx hb hK hG c2 2 rfl (by omega) (by omega) (c3 rk (by omega)).1 dX2_count_15 ?_
      have hh_h := (c3 rk (by omega)).2
      obtain ⟨h_0, h_s, h_n, h_w, h_a, h_t, h_ne⟩ := id hh_h
      have hne_129 : ho rk ≠ had rk 3 := (gw_io h_0 h_a)
      have hne_130 : ho rk ≠ had rk 4 := (gw_io h_0 h_t)
      have hne_131 : had rk 0 ≠ had rk 3 := (fun z => absurd (h_ne 0 3 (by decide) (by decide) z) (by decide))
      have hne_132 : had rk 0 ≠ had rk 4 := (fun z => absurd (h_ne 0 4 (by decide) (by decide) z) (by decide))
      have hne_133 : had rk 1 ≠ had rk 3 := (fun z => absurd (h_ne 1 3 (by decide) (by decide) z) (by decide))
      have hne_134 : had rk 1 ≠ had rk 4 := (fun z => absurd (h_ne 1 4 (by decide) (by decide) z) (by decide))
      have hne_135 : had rk 2 ≠ had rk 3 := (fun z => absurd (h_ne 2 3 (by decide) (by decide) z) (by decide))
      have hne_136 : had rk 2 ≠ had rk 4 := (fun z => absurd (h_ne 2 4 (by decide) (by decide) z) (by decide))
      have hne_137 : had rk 3 ≠ had rk 4 := (fun z => absurd (h_ne 3 4 (by decide) (by decide) z) (by decide))
      have hne_138 : had rk 4 ≠ had rk 3 := (fun z => absurd (h_ne 4 3 (by decide) (by decide) z) (by decide))
      refine lv_astore (lv' := [(4, .ref (ho rk)), (0, .ref x), (1, .int (nI rk)), (2, .int (nI ks)), (3, .int v9)]) hx hb dX2_count_16 hl (by decide) rfl (fun ls hl => ?_)
      refine lv_iload_n hx hb dX2_count_18 rfl (lv_at hl 3 rfl) ?_
      refine lv_bipush (v := nI 6) hx hb dX2_count_19 (by decide) ?_
      refine gw_imul hx hb dX2_count_21 ?_
      refine lv_iload_n hx hb dX2_count_22 rfl (lv_at hl 2 rfl) ?_
      refine gw_iadd hx hb dX2_count_23 ?_
      refine lv_istore (lv' := [(5, .int (nI ((ks * 6) + rk))), (4, .ref (ho rk)), (0, .ref x), (1, .int (nI rk)), (2, .int (nI ks)), (3, .int v9)]) hx hb dX2_count_24 hl (by decide) rfl (fun ls hl => ?_)
      refine lv_iload_n hx hb dX2_count_26 rfl (lv_at hl 5 rfl) ?_
      refine lv_if_lt hx hb (tgt := 46) dX2_count_27 (by decide) (fun hc => ?_) (fun hc => ?_)
      · refine lv_aload hx hb dX2_count_46 (lv_at hl 1 rfl) ?_
        refine gw_get (ci := 1) (C := RX0) (T := TX0) (N := 5) hx hb hts hinX0 hown hK hG h_0 rfl 4 (by decide) hf68 (fun _ h9 => h9) rfl dX2_count_48 ?_
        refine lv_iload hx hb dX2_count_51 (lv_at hl 0 rfl) ?_
        refine lv_dup2_11 hx hb dX2_count_53 rfl rfl ?_
        refine gw_lald_n hx hb hK hG h_t 1 rfl (by omega) (by omega) dX2_count_54 ?_
        refine lv_iload_n hx hb dX2_count_55 rfl (lv_at hl 5 rfl) ?_
        refine lv_i2l hx hb dX2_count_56 rfl ?_
        refine lv_lsub hx hb dX2_count_57 ?_
        refine gw_last_n hx hb hK hG h_t 1 rfl (by omega) (by omega) dX2_count_58 (fun H locs hG => ?_)
        obtain ⟨M_139, hM_140⟩ : ∃ M1 : gw_M, M1 = gw_up M (had rk 4) (.inl (K.2.1 1, 24, .inr (.inl (vp_updL ((S.2.1 rk).2.2.2.2) ((ks * 6) + rk) ((((S.2.1 rk).2.2.2.2) ((ks * 6) + rk)) - v9.toInt64))))) := ⟨_, rfl⟩
        have hG : gw_B K M_139 s.heap H locs := by rw [hM_140]; exact hG
        have hc_143 := (congrFun hM_140 (ho rk)).trans (gw_k hne_130 h_0)
        have hc_144 := (congrFun hM_140 (had rk 0)).trans (gw_k hne_132 h_s)
        have hc_145 := (congrFun hM_140 (had rk 1)).trans (gw_k hne_134 h_n)
        have hc_146 := (congrFun hM_140 (had rk 2)).trans (gw_k hne_136 h_w)
        have hc_147 := (congrFun hM_140 (had rk 3)).trans (gw_k hne_137 h_a)
        have hc_148 : M_139 (had rk 4) = some (.inl (K.2.1 1, 24, .inr (.inl (vp_updL ((S.2.1 rk).2.2.2.2) ((ks * 6) + rk) ((((S.2.1 rk).2.2.2.2) ((ks * 6) + rk)) - v9.toInt64))))) := (congrFun hM_140 _).trans gw_s
        refine lv_aload hx hb dX2_count_59 (lv_at hl 1 rfl) ?_
        refine lv_iload_n hx hb dX2_count_61 rfl (lv_at hl 4 rfl) ?_
        have e9 : vcnt (S.2.1 rk) rk ks v9 = ((S.2.1 rk).1, (S.2.1 rk).2.1, (S.2.1 rk).2.2.1, (S.2.1 rk).2.2.2.1, vp_updL ((S.2.1 rk).2.2.2.2) ((ks * 6) + rk) ((((S.2.1 rk).2.2.2.2) ((ks * 6) + rk)) - v9.toInt64)) := by simp only [vcnt, if_neg (Int32.not_le.mpr hc)]
        have hd3 : hd K M_139 (ho rk) (had rk) (vcnt (S.2.1 rk) rk ks v9) := by rw [e9]; exact ⟨hc_143, hc_144, hc_145, hc_146, hc_147, hc_148, h_ne⟩
        refine gw_calli (va_runV (As := [.int (nI ks)]) (rest := []) ⟨hx, hb, hml, hown, hts⟩ (c_worth l K M_139 (ho rk) (had rk) (vcnt (S.2.1 rk) rk ks v9) ks hd3 hks) (cwV 1 hts gX2_count_X0_worth rfl rfl rfl (by decide +kernel) ⟨Nat.le_of_ble_eq_true rfl, Nat.le_of_ble_eq_true rfl⟩) (gw_preV hG hT hc_143 rfl) rfl rfl hl.1 rfl (lv_room (Nat.le_of_ble_eq_true rfl)) dX2_count_62 ⟨Nat.le_of_ble_eq_true rfl, Nat.le_of_ble_eq_true rfl⟩) hG (fun r_149 M_150 H locs hw hG => ?_)
        have hr3 := hw.2
        rw [hw.1] at hG
        obtain ⟨z1, z2⟩ := cs_hold hcs hrs (show rk < 6 by omega) hd3 (fun q hq => by rw [hM_140, gw_n (hq 4 (by decide))])
        refine vx_ret ?_
        exact gw_iret hx hb hr hlocks hG hT (by omega) (by omega) dX2_count_65 ⟨rk, ks, ⟨hrk, rfl⟩, ⟨hks, rfl⟩, hr3, z1, z2⟩
      · refine lv_aload hx hb dX2_count_30 (lv_at hl 1 rfl) ?_
        refine gw_get (ci := 1) (C := RX0) (T := TX0) (N := 5) hx hb hts hinX0 hown hK hG h_0 rfl 3 (by decide) hf64 (fun _ h9 => h9) rfl dX2_count_32 ?_
        refine lv_iload hx hb dX2_count_35 (lv_at hl 0 rfl) ?_
        refine lv_dup2_11 hx hb dX2_count_37 rfl rfl ?_
        refine gw_lald_n hx hb hK hG h_a 1 rfl (by omega) (by omega) dX2_count_38 ?_
        refine lv_iload_n hx hb dX2_count_39 rfl (lv_at hl 5 rfl) ?_
        refine lv_i2l hx hb dX2_count_40 rfl ?_
        refine lv_ladd hx hb dX2_count_41 ?_
        refine gw_last_n hx hb hK hG h_a 1 rfl (by omega) (by omega) dX2_count_42 (fun H locs hG => ?_)
        obtain ⟨M_151, hM_152⟩ : ∃ M1 : gw_M, M1 = gw_up M (had rk 3) (.inl (K.2.1 1, 24, .inr (.inl (vp_updL ((S.2.1 rk).2.2.2.1) ((ks * 6) + rk) ((((S.2.1 rk).2.2.2.1) ((ks * 6) + rk)) + v9.toInt64))))) := ⟨_, rfl⟩
        have hG : gw_B K M_151 s.heap H locs := by rw [hM_152]; exact hG
        have hc_155 := (congrFun hM_152 (ho rk)).trans (gw_k hne_129 h_0)
        have hc_156 := (congrFun hM_152 (had rk 0)).trans (gw_k hne_131 h_s)
        have hc_157 := (congrFun hM_152 (had rk 1)).trans (gw_k hne_133 h_n)
        have hc_158 := (congrFun hM_152 (had rk 2)).trans (gw_k hne_135 h_w)
        have hc_159 : M_151 (had rk 3) = some (.inl (K.2.1 1, 24, .inr (.inl (vp_updL ((S.2.1 rk).2.2.2.1) ((ks * 6) + rk) ((((S.2.1 rk).2.2.2.1) ((ks * 6) + rk)) + v9.toInt64))))) := (congrFun hM_152 _).trans gw_s
        have hc_160 := (congrFun hM_152 (had rk 4)).trans (gw_k hne_138 h_t)
        refine lv_goto (tgt := 59) hx hb dX2_count_43 (by decide) ?_
        refine lv_aload hx hb dX2_count_59 (lv_at hl 1 rfl) ?_
        refine lv_iload_n hx hb dX2_count_61 rfl (lv_at hl 4 rfl) ?_
        have e9 : vcnt (S.2.1 rk) rk ks v9 = ((S.2.1 rk).1, (S.2.1 rk).2.1, (S.2.1 rk).2.2.1, vp_updL ((S.2.1 rk).2.2.2.1) ((ks * 6) + rk) ((((S.2.1 rk).2.2.2.1) ((ks * 6) + rk)) + v9.toInt64), (S.2.1 rk).2.2.2.2) := by simp only [vcnt, if_pos (Int32.not_lt.mp hc)]
        have hd3 : hd K M_151 (ho rk) (had rk) (vcnt (S.2.1 rk) rk ks v9) := by rw [e9]; exact ⟨hc_155, hc_156, hc_157, hc_158, hc_159, hc_160, h_ne⟩
        refine gw_calli (va_runV (As := [.int (nI ks)]) (rest := []) ⟨hx, hb, hml, hown, hts⟩ (c_worth l K M_151 (ho rk) (had rk) (vcnt (S.2.1 rk) rk ks v9) ks hd3 hks) (cwV 1 hts gX2_count_X0_worth rfl rfl rfl (by decide +kernel) ⟨Nat.le_of_ble_eq_true rfl, Nat.le_of_ble_eq_true rfl⟩) (gw_preV hG hT hc_155 rfl) rfl rfl hl.1 rfl (lv_room (Nat.le_of_ble_eq_true rfl)) dX2_count_62 ⟨Nat.le_of_ble_eq_true rfl, Nat.le_of_ble_eq_true rfl⟩) hG (fun r_161 M_162 H locs hw hG => ?_)
        have hr3 := hw.2
        rw [hw.1] at hG
        obtain ⟨z1, z2⟩ := cs_hold hcs hrs (show rk < 6 by omega) hd3 (fun q hq => by rw [hM_152, gw_n (hq 3 (by decide))])
        refine vx_ret ?_
        exact gw_iret hx hb hr hlocks hG hT (by omega) (by omega) dX2_count_65 ⟨rk, ks, ⟨hrk, rfl⟩, ⟨hks, rfl⟩, hr3, z1, z2⟩
