/-- the merge's first half, t rows of it -/
def hmf (V U : hV) : Nat → hV × Nat
  | 0 => (V, 0)
  | t + 1 => (hmd (hmf V U t).1 U (t / 6) (t % 6), (hmf V U t).2 + hmc (hmf V U t).1 U (t / 6) (t % 6))
theorem hmf_s (V U : hV) {pl mk : Nat} (hk : mk < 6) : hmf V U (pl * 6 + mk + 1) = (hmd (hmf V U (pl * 6 + mk)).1 U pl mk, (hmf V U (pl * 6 + mk)).2 + hmc (hmf V U (pl * 6 + mk)).1 U pl mk) := by
  show (hmd _ U ((pl * 6 + mk) / 6) ((pl * 6 + mk) % 6), _ + hmc _ U ((pl * 6 + mk) / 6) ((pl * 6 + mk) % 6)) = _
  rw [show (pl * 6 + mk) / 6 = pl by omega, show (pl * 6 + mk) % 6 = mk by omega]
def hmx (f g : Nat → Int32) (i : Nat) : Nat → Int32 := fun k => if k < i then (if f k < g k then g k else f k) else f k
theorem hmx_0 (f g : Nat → Int32) : hmx f g 0 = f := by
  funext k
  unfold hmx
  rw [if_neg (by omega)]
theorem hmx_s (f g : Nat → Int32) (i : Nat) : upd (hmx f g i) i (if hmx f g i i < g i then g i else hmx f g i i) = hmx f g (i + 1) := by
  have e : hmx f g i i = f i := by unfold hmx; rw [if_neg (by omega)]
  rw [e]
  funext k
  unfold upd hmx
  by_cases h : k = i
  · rw [if_pos h, if_pos (show k < i + 1 by omega), h]
  · rw [if_neg h]
    by_cases h2 : k < i
    · rw [if_pos h2, if_pos (show k < i + 1 by omega)]
    · rw [if_neg h2, if_neg (show ¬ k < i + 1 by omega)]
def hmxl (f g : Nat → Int64) (i : Nat) : Nat → Int64 := fun k => if k < i then (if g k < f k then f k else g k) else f k
theorem hmxl_0 (f g : Nat → Int64) : hmxl f g 0 = f := by
  funext k
  unfold hmxl
  rw [if_neg (by omega)]
theorem hmxl_s (f g : Nat → Int64) (i : Nat) : vp_updL (hmxl f g i) i (if g i < hmxl f g i i then hmxl f g i i else g i) = hmxl f g (i + 1) := by
  have e : hmxl f g i i = f i := by unfold hmxl; rw [if_neg (by omega)]
  rw [e]
  funext k
  unfold vp_updL hmxl
  by_cases h : k = i
  · rw [if_pos h, if_pos (show k < i + 1 by omega), h]
  · rw [if_neg h]
    by_cases h2 : k < i
    · rw [if_pos h2, if_pos (show k < i + 1 by omega)]
    · rw [if_neg h2, if_neg (show ¬ k < i + 1 by omega)]
/-- the merge: what a holding is behind it, and how many dots came -/
def hmg (V U : hV) : hV := (hmx (hmf V U 408).1.1 U.1 6, (hmf V U 408).1.2.1, (hmf V U 408).1.2.2.1, hmxl (hmf V U 408).1.2.2.2.1 U.2.2.2.1 24, hmxl (hmf V U 408).1.2.2.2.2 U.2.2.2.2 24)
theorem hmc_01 (V U : hV) (pl mk : Nat) : hmc V U pl mk = 0 ∨ hmc V U pl mk = 1 := by
  unfold hmc
  split
  · exact Or.inl rfl
  · exact Or.inr rfl
set_option maxHeartbeats 4000000 in
set_option maxRecDepth 100000 in
/-- Arrays.fill -/
theorem c_fill0 (l : Launch) (K : gw_C) (M : gw_M) (a nn : Nat) (f : Nat → Int32) (v : Int32) (ha : M a = some (.inl (K.2.1 0, nn, .inl f))) (hn : nn < 2147483648) : Met l yJ7_fill_53178 wsJ7_fill_53178 ({ frames := 0, cells := 0, slots := 0, locals := 0 } : Room) (va_Pc [.ref a, .int v] (gw_I K M)) (va_Qv (fun M1 => M1 = gw_up M a (.inl (K.2.1 0, nn, .inl (ffl f v nn)))) (gw_I K) (gw_A K)) 0 0 (gw_A K) := by
  refine Met.ofW (cc := cJ7_fill_53178) (maxL := 4) (ret := none) (by decide) rfl ?_
  intro p e s m args below meth c s₁ B hml hv
  obtain ⟨hav, hI⟩ := hv
  have hx := B.exec
  have hb := B.bytes
  have hr := B.returns
  have hts := atoms_spec (ws := wsJ7_fill_53178) B.pre
  have hown : s.vm.findClass RJ7 = some m.cls := findClass_of_methodNamed B.named
  have hlocks : meth.locks = false := B.notSynchronized
  have hT := hI.2.2
  have hK := hT.K
  have hG := hI.B
  have hE : entryFrame m args 4 = entryFrame m ([.ref a, .int v] : List Value).toArray 4 := by rw [hav]
  rw [hE]
  have hl := lv_entry ([.ref a, .int v]) (n := 4) (Nat.le_of_ble_eq_true rfl)
  rw [lg_entry_eq]
  generalize (lg_sl ([.ref a, .int v]) ++ List.replicate (4 - (lg_sl ([.ref a, .int v])).length) Slot.unset).toArray = ls at hl ⊢
  have hl : lv_has ls 4 [(0, .ref a), (1, .int v)] := hl
  have hloop : ∀ (n : Nat) (i : Nat), i ≤ nn → nn + 1 ≤ i + n → ∀ (Mi : gw_M), Mi = gw_up M a (.inl (K.2.1 0, nn, .inl (ffl f v i))) → ∀ (H : Heap) (locs : List Loc), gw_B K Mi s.heap H locs → ∀ (ls : Array Slot), lv_has ls 4 [(3, .int (nI nn)), (2, .int (nI i)), (0, .ref a), (1, .int v)] → W p l e ({ frames := 0, cells := 0, slots := 0, locals := 0 } : Room) s m args below meth c H locs 0 0 (MQ below (va_Qv (fun M1 => M1 = gw_up M a (.inl (K.2.1 0, nn, .inl (ffl f v nn)))) (gw_I K) (gw_A K)) args s 0 0 (gw_A K)) (F0 m 5 ls []) := by
    intro n
    induction n with
    | zero =>
      intro i hg0 hm
      exact absurd hm (by omega)
    | succ n ih =>
      intro i hg0 hm Mi hMi H locs hG ls hl
      have hc_48 := (congrFun hMi a).trans gw_s
      refine lv_iload_n hx hb dJ7_fill_53178_5 rfl (lv_at hl 1 rfl) ?_
      refine lv_iload_n hx hb dJ7_fill_53178_6 rfl (lv_at hl 0 rfl) ?_
      refine gw_icmp_ge hx hb (by omega) (by omega) (tgt := 20) dJ7_fill_53178_7 (by decide) (fun hc => ?_) (fun hc => ?_)
      · obtain rfl : i = nn := by omega
        exact gw_vret hx hb hr hlocks hG hT (by omega) (by omega) dJ7_fill_53178_20 hMi
      · refine lv_aload_n hx hb dJ7_fill_53178_10 rfl (lv_at hl 2 rfl) ?_
        refine lv_iload_n hx hb dJ7_fill_53178_11 rfl (lv_at hl 1 rfl) ?_
        refine lv_iload_n hx hb dJ7_fill_53178_12 rfl (lv_at hl 3 rfl) ?_
        refine gw_iast_n hx hb hK hG hc_48 0 rfl (by omega) (by omega) dJ7_fill_53178_13 (fun H locs hG => ?_)
        obtain ⟨M_49, hM_50⟩ : ∃ M1 : gw_M, M1 = gw_up Mi a (.inl (K.2.1 0, nn, .inl (upd (ffl f v i) i v))) := ⟨_, rfl⟩
        have hG : gw_B K M_49 s.heap H locs := by rw [hM_50]; exact hG
        have hc_51 : M_49 a = some (.inl (K.2.1 0, nn, .inl (upd (ffl f v i) i v))) := (congrFun hM_50 _).trans gw_s
        refine lv_iinc (v := nI (i + 1)) (lv' := [(2, .int (nI (i + 1))), (3, .int (nI nn)), (0, .ref a), (1, .int v)]) hx hb dJ7_fill_53178_14 hl (k := 1) rfl (gw_inc _) (by decide) rfl (fun ls hl => ?_)
        refine lv_goto (tgt := 5) hx hb dJ7_fill_53178_17 (by decide) ?_
        exact ih (i + 1) (by omega) (by omega) _ (by rw [hM_50, hMi, gw_uu, ffl_s]) _ _ hG ls (lv_sub hl [1, 0, 2, 3] rfl)
  refine lv_iconst (v := nI 0) hx hb dJ7_fill_53178_0 (by decide) ?_
  refine lv_istore_n (lv' := [(2, .int (nI 0)), (0, .ref a), (1, .int v)]) hx hb dJ7_fill_53178_1 rfl hl (by decide) rfl (fun ls hl => ?_)
  refine lv_aload_n hx hb dJ7_fill_53178_2 rfl (lv_at hl 1 rfl) ?_
  refine gw_alen hx hb hK hG ha 0 rfl (v := nI nn) rfl dJ7_fill_53178_3 ?_
  refine lv_istore_n (lv' := [(3, .int (nI nn)), (2, .int (nI 0)), (0, .ref a), (1, .int v)]) hx hb dJ7_fill_53178_4 rfl hl (by decide) rfl (fun ls hl => ?_)
  exact hloop (nn + 1) 0 (by omega) (by omega) M (by rw [ffl_0]; exact (gw_same ha).symm) _ _ hG ls (lv_sub hl [0, 1, 2, 3] rfl)

set_option maxHeartbeats 4000000 in
set_option maxRecDepth 100000 in
/-- Arrays.fill -/
theorem c_fill1 (l : Launch) (K : gw_C) (M : gw_M) (a nn : Nat) (f : Nat → Int64) (v : Int64) (ha : M a = some (.inl (K.2.1 1, nn, .inr (.inl f)))) (hn : nn < 2147483648) : Met l yJ7_fill_d0a16 wsJ7_fill_d0a16 ({ frames := 0, cells := 0, slots := 0, locals := 0 } : Room) (va_Pc [.ref a, .long v] (gw_I K M)) (va_Qv (fun M1 => M1 = gw_up M a (.inl (K.2.1 1, nn, .inr (.inl (ffl f v nn))))) (gw_I K) (gw_A K)) 0 0 (gw_A K) := by
  refine Met.ofW (cc := cJ7_fill_d0a16) (maxL := 5) (ret := none) (by decide) rfl ?_
  intro p e s m args below meth c s₁ B hml hv
  obtain ⟨hav, hI⟩ := hv
  have hx := B.exec
  have hb := B.bytes
  have hr := B.returns
  have hts := atoms_spec (ws := wsJ7_fill_d0a16) B.pre
  have hown : s.vm.findClass RJ7 = some m.cls := findClass_of_methodNamed B.named
  have hlocks : meth.locks = false := B.notSynchronized
  have hT := hI.2.2
  have hK := hT.K
  have hG := hI.B
  have hE : entryFrame m args 5 = entryFrame m ([.ref a, .long v] : List Value).toArray 5 := by rw [hav]
  rw [hE]
  have hl := lv_entry ([.ref a, .long v]) (n := 5) (Nat.le_of_ble_eq_true rfl)
  rw [lg_entry_eq]
  generalize (lg_sl ([.ref a, .long v]) ++ List.replicate (5 - (lg_sl ([.ref a, .long v])).length) Slot.unset).toArray = ls at hl ⊢
  have hl : lv_has ls 5 [(0, .ref a), (1, .long v)] := hl
  have hloop : ∀ (n : Nat) (i : Nat), i ≤ nn → nn + 1 ≤ i + n → ∀ (Mi : gw_M), Mi = gw_up M a (.inl (K.2.1 1, nn, .inr (.inl (ffl f v i)))) → ∀ (H : Heap) (locs : List Loc), gw_B K Mi s.heap H locs → ∀ (ls : Array Slot), lv_has ls 5 [(4, .int (nI nn)), (3, .int (nI i)), (0, .ref a), (1, .long v)] → W p l e ({ frames := 0, cells := 0, slots := 0, locals := 0 } : Room) s m args below meth c H locs 0 0 (MQ below (va_Qv (fun M1 => M1 = gw_up M a (.inl (K.2.1 1, nn, .inr (.inl (ffl f v nn))))) (gw_I K) (gw_A K)) args s 0 0 (gw_A K)) (F0 m 6 ls []) := by
    intro n
    induction n with
    | zero =>
      intro i hg0 hm
      exact absurd hm (by omega)
    | succ n ih =>
      intro i hg0 hm Mi hMi H locs hG ls hl
      have hc_52 := (congrFun hMi a).trans gw_s
      refine lv_iload_n hx hb dJ7_fill_d0a16_6 rfl (lv_at hl 1 rfl) ?_
      refine lv_iload hx hb dJ7_fill_d0a16_7 (lv_at hl 0 rfl) ?_
      refine gw_icmp_ge hx hb (by omega) (by omega) (tgt := 22) dJ7_fill_d0a16_9 (by decide) (fun hc => ?_) (fun hc => ?_)
      · obtain rfl : i = nn := by omega
        exact gw_vret hx hb hr hlocks hG hT (by omega) (by omega) dJ7_fill_d0a16_22 hMi
      · refine lv_aload_n hx hb dJ7_fill_d0a16_12 rfl (lv_at hl 2 rfl) ?_
        refine lv_iload_n hx hb dJ7_fill_d0a16_13 rfl (lv_at hl 1 rfl) ?_
        refine lv_lload_n hx hb dJ7_fill_d0a16_14 rfl (lv_at hl 3 rfl) ?_
        refine gw_last_n hx hb hK hG hc_52 1 rfl (by omega) (by omega) dJ7_fill_d0a16_15 (fun H locs hG => ?_)
        obtain ⟨M_53, hM_54⟩ : ∃ M1 : gw_M, M1 = gw_up Mi a (.inl (K.2.1 1, nn, .inr (.inl (vp_updL (ffl f v i) i v)))) := ⟨_, rfl⟩
        have hG : gw_B K M_53 s.heap H locs := by rw [hM_54]; exact hG
        have hc_55 : M_53 a = some (.inl (K.2.1 1, nn, .inr (.inl (vp_updL (ffl f v i) i v)))) := (congrFun hM_54 _).trans gw_s
        refine lv_iinc (v := nI (i + 1)) (lv' := [(3, .int (nI (i + 1))), (4, .int (nI nn)), (0, .ref a), (1, .long v)]) hx hb dJ7_fill_d0a16_16 hl (k := 1) rfl (gw_inc _) (by decide) rfl (fun ls hl => ?_)
        refine lv_goto (tgt := 6) hx hb dJ7_fill_d0a16_19 (by decide) ?_
        exact ih (i + 1) (by omega) (by omega) _ (by rw [hM_54, hMi, gw_uu, ffl_sl]) _ _ hG ls (lv_sub hl [1, 0, 2, 3] rfl)
  refine lv_iconst (v := nI 0) hx hb dJ7_fill_d0a16_0 (by decide) ?_
  refine lv_istore_n (lv' := [(3, .int (nI 0)), (0, .ref a), (1, .long v)]) hx hb dJ7_fill_d0a16_1 rfl hl (by decide) rfl (fun ls hl => ?_)
  refine lv_aload_n hx hb dJ7_fill_d0a16_2 rfl (lv_at hl 1 rfl) ?_
  refine gw_alen hx hb hK hG ha 1 rfl (v := nI nn) rfl dJ7_fill_d0a16_3 ?_
  refine lv_istore (lv' := [(4, .int (nI nn)), (3, .int (nI 0)), (0, .ref a), (1, .long v)]) hx hb dJ7_fill_d0a16_4 hl (by decide) rfl (fun ls hl => ?_)
  exact hloop (nn + 1) 0 (by omega) (by omega) M (by rw [ffl_0]; exact (gw_same ha).symm) _ _ hG ls (lv_sub hl [0, 1, 2, 3] rfl)

set_option maxHeartbeats 4000000 in
set_option maxRecDepth 100000 in
/-- wipe -/
theorem c_wipe (l : Launch) (K : gw_C) (M : gw_M) (h : Nat) (ad : Nat → Nat) (V : hV) (hh : hd K M h ad V) : Met l yX0_wipe wsX0_wipe ({ frames := 1, cells := 0, slots := 0, locals := 24 } : Room) (va_Pc [.ref h] (gw_I K M)) (va_Qv (fun M1 => hd K M1 h ad (ffl V.1 (nI 0) 6, ffl V.2.1 (nI 0) 408, ffl V.2.2.1 (nI 0) 24, ffl V.2.2.2.1 0 24, ffl V.2.2.2.2 0 24) ∧ hfr M M1 ad) (gw_I K) (gw_A K)) 0 0 (gw_A K) := by
  refine Met.ofW (cc := cX0_wipe) (maxL := 1) (ret := none) (by decide) rfl ?_
  intro p e s m args below meth c s₁ B hml hv
  obtain ⟨hav, hI⟩ := hv
  have hx := B.exec
  have hb := B.bytes
  have hr := B.returns
  have hts := atoms_spec (ws := wsX0_wipe) B.pre
  have hown : s.vm.findClass RX0 = some m.cls := findClass_of_methodNamed B.named
  have hlocks : meth.locks = false := B.notSynchronized
  have hT := hI.2.2
  have hK := hT.K
  have hG := hI.B
  have hf9 := hts (.fieldLink RX0 9 "DotGossip$Holding" "seen" "[I") (by decide +kernel)
  have hf15 := hts (.fieldLink RX0 15 "DotGossip$Holding" "numbers" "[I") (by decide +kernel)
  have hf18 := hts (.fieldLink RX0 18 "DotGossip$Holding" "written" "[I") (by decide +kernel)
  have hf21 := hts (.fieldLink RX0 21 "DotGossip$Holding" "added" "[J") (by decide +kernel)
  have hf25 := hts (.fieldLink RX0 25 "DotGossip$Holding" "taken" "[J") (by decide +kernel)
  have hinX0 : ∀ w ∈ wsX00, w ∈ wsX0_wipe := by decide +kernel
  have hE : entryFrame m args 1 = entryFrame m ([.ref h] : List Value).toArray 1 := by rw [hav]
  rw [hE]
  have hl := lv_entry ([.ref h]) (n := 1) (Nat.le_of_ble_eq_true rfl)
  rw [lg_entry_eq]
  generalize (lg_sl ([.ref h]) ++ List.replicate (1 - (lg_sl ([.ref h])).length) Slot.unset).toArray = ls at hl ⊢
  have hl : lv_has ls 1 [(0, .ref h)] := hl
  obtain ⟨h_0, h_s, h_n, h_w, h_a, h_t, h_ne⟩ := id hh
  have hne_56 : h ≠ ad 0 := (gw_io h_0 h_s)
  have hne_57 : h ≠ ad 1 := (gw_io h_0 h_n)
  have hne_58 : h ≠ ad 2 := (gw_io h_0 h_w)
  have hne_59 : h ≠ ad 3 := (gw_io h_0 h_a)
  have hne_60 : h ≠ ad 4 := (gw_io h_0 h_t)
  have hne_61 : ad 0 ≠ ad 1 := (fun z => absurd (h_ne 0 1 (by decide) (by decide) z) (by decide))
  have hne_62 : ad 0 ≠ ad 2 := (fun z => absurd (h_ne 0 2 (by decide) (by decide) z) (by decide))
  have hne_63 : ad 0 ≠ ad 3 := (fun z => absurd (h_ne 0 3 (by decide) (by decide) z) (by decide))
  have hne_64 : ad 0 ≠ ad 4 := (fun z => absurd (h_ne 0 4 (by decide) (by decide) z) (by decide))
  have hne_65 : ad 1 ≠ ad 0 := (fun z => absurd (h_ne 1 0 (by decide) (by decide) z) (by decide))
  have hne_66 : ad 1 ≠ ad 2 := (fun z => absurd (h_ne 1 2 (by decide) (by decide) z) (by decide))
  have hne_67 : ad 1 ≠ ad 3 := (fun z => absurd (h_ne 1 3 (by decide) (by decide) z) (by decide))
  have hne_68 : ad 1 ≠ ad 4 := (fun z => absurd (h_ne 1 4 (by decide) (by decide) z) (by decide))
  have hne_69 : ad 2 ≠ ad 0 := (fun z => absurd (h_ne 2 0 (by decide) (by decide) z) (by decide))
  have hne_70 : ad 2 ≠ ad 1 := (fun z => absurd (h_ne 2 1 (by decide) (by decide) z) (by decide))
  have hne_71 : ad 2 ≠ ad 3 := (fun z => absurd (h_ne 2 3 (by decide) (by decide) z) (by decide))
  have hne_72 : ad 2 ≠ ad 4 := (fun z => absurd (h_ne 2 4 (by decide) (by decide) z) (by decide))
  have hne_73 : ad 3 ≠ ad 0 := (fun z => absurd (h_ne 3 0 (by decide) (by decide) z) (by decide))
  have hne_74 : ad 3 ≠ ad 1 := (fun z => absurd (h_ne 3 1 (by decide) (by decide) z) (by decide))
  have hne_75 : ad 3 ≠ ad 2 := (fun z => absurd (h_ne 3 2 (by decide) (by decide) z) (by decide))
  have hne_76 : ad 3 ≠ ad 4 := (fun z => absurd (h_ne 3 4 (by decide) (by decide) z) (by decide))
  have hne_77 : ad 4 ≠ ad 0 := (fun z => absurd (h_ne 4 0 (by decide) (by decide) z) (by decide))
  have hne_78 : ad 4 ≠ ad 1 := (fun z => absurd (h_ne 4 1 (by decide) (by decide) z) (by decide))
  have hne_79 : ad 4 ≠ ad 2 := (fun z => absurd (h_ne 4 2 (by decide) (by decide) z) (by decide))
  have hne_80 : ad 4 ≠ ad 3 := (fun z => absurd (h_ne 4 3 (by decide) (by decide) z) (by decide))
  refine lv_aload_n hx hb dX0_wipe_0 rfl (lv_at hl 0 rfl) ?_
  refine gw_get (ci := 1) (C := RX0) (T := TX0) (N := 5) hx hb hts hinX0 hown hK hG h_0 rfl 0 (by decide) hf9 (fun _ h9 => h9) rfl dX0_wipe_1 ?_
  refine lv_iconst (v := nI 0) hx hb dX0_wipe_4 (by decide) ?_
  refine gw_callv (va_runS (As := [.ref (ad 0), .int (nI 0)]) (rest := []) ⟨hx, hb, hml, hown, hts⟩ (c_fill0 l K M (ad 0) 6 (V.1) (nI 0) h_s (by decide)) (va_cwS 2 hts gX0_wipe_J7_fill_53178 rfl rfl rfl (by decide +kernel) ⟨Nat.le_of_ble_eq_true rfl, Nat.le_of_ble_eq_true rfl⟩) (gw_preS hG hT) rfl rfl hl.1 rfl (lv_room (Nat.le_of_ble_eq_true rfl)) dX0_wipe_5 ⟨Nat.le_of_ble_eq_true rfl, Nat.le_of_ble_eq_true rfl⟩) hG (fun M_82 H locs hw hG => ?_)
  have hM_83 := hw
  have hc_84 := (congrFun hM_83 h).trans (gw_k hne_56 h_0)
  have hc_85 : M_82 (ad 0) = some (.inl (K.2.1 0, 6, .inl (ffl V.1 (nI 0) 6))) := (congrFun hM_83 _).trans gw_s
  have hc_86 := (congrFun hM_83 (ad 1)).trans (gw_k hne_65 h_n)
  have hc_87 := (congrFun hM_83 (ad 2)).trans (gw_k hne_69 h_w)
  have hc_88 := (congrFun hM_83 (ad 3)).trans (gw_k hne_73 h_a)
  have hc_89 := (congrFun hM_83 (ad 4)).trans (gw_k hne_77 h_t)
  refine lv_aload_n hx hb dX0_wipe_8 rfl (lv_at hl 0 rfl) ?_
  refine gw_get (ci := 1) (C := RX0) (T := TX0) (N := 5) hx hb hts hinX0 hown hK hG hc_84 rfl 1 (by decide) hf15 (fun _ h9 => h9) rfl dX0_wipe_9 ?_
  refine lv_iconst (v := nI 0) hx hb dX0_wipe_12 (by decide) ?_
  refine gw_callv (va_runS (As := [.ref (ad 1), .int (nI 0)]) (rest := []) ⟨hx, hb, hml, hown, hts⟩ (c_fill0 l K M_82 (ad 1) 408 (V.2.1) (nI 0) hc_86 (by decide)) (va_cwS 2 hts gX0_wipe_J7_fill_53178 rfl rfl rfl (by decide +kernel) ⟨Nat.le_of_ble_eq_true rfl, Nat.le_of_ble_eq_true rfl⟩) (gw_preS hG hT) rfl rfl hl.1 rfl (lv_room (Nat.le_of_ble_eq_true rfl)) dX0_wipe_13 ⟨Nat.le_of_ble_eq_true rfl, Nat.le_of_ble_eq_true rfl⟩) hG (fun M_91 H locs hw hG => ?_)
  have hM_92 := hw
  have hc_93 := (congrFun hM_92 h).trans (gw_k hne_57 hc_84)
  have hc_94 := (congrFun hM_92 (ad 0)).trans (gw_k hne_61 hc_85)
  have hc_95 : M_91 (ad 1) = some (.inl (K.2.1 0, 408, .inl (ffl V.2.1 (nI 0) 408))) := (congrFun hM_92 _).trans gw_s
  have hc_96 := (congrFun hM_92 (ad 2)).trans (gw_k hne_70 hc_87)
  have hc_97 := (congrFun hM_92 (ad 3)).trans (gw_k hne_74 hc_88)
  have hc_98 := (congrFun hM_92 (ad 4)).trans (gw_k hne_78 hc_89)
  refine lv_aload_n hx hb dX0_wipe_16 rfl (lv_at hl 0 rfl) ?_
  refine gw_get (ci := 1) (C := RX0) (T := TX0) (N := 5) hx hb hts hinX0 hown hK hG hc_93 rfl 2 (by decide) hf18 (fun _ h9 => h9) rfl dX0_wipe_17 ?_
  refine lv_iconst (v := nI 0) hx hb dX0_wipe_20 (by decide) ?_
  refine gw_callv (va_runS (As := [.ref (ad 2), .int (nI 0)]) (rest := []) ⟨hx, hb, hml, hown, hts⟩ (c_fill0 l K M_91 (ad 2) 24 (V.2.2.1) (nI 0) hc_96 (by decide)) (va_cwS 2 hts gX0_wipe_J7_fill_53178 rfl rfl rfl (by decide +kernel) ⟨Nat.le_of_ble_eq_true rfl, Nat.le_of_ble_eq_true rfl⟩) (gw_preS hG hT) rfl rfl hl.1 rfl (lv_room (Nat.le_of_ble_eq_true rfl)) dX0_wipe_21 ⟨Nat.le_of_ble_eq_true rfl, Nat.le_of_ble_eq_true rfl⟩) hG (fun M_100 H locs hw hG => ?_)
  have hM_101 := hw
  have hc_102 := (congrFun hM_101 h).trans (gw_k hne_58 hc_93)
  have hc_103 := (congrFun hM_101 (ad 0)).trans (gw_k hne_62 hc_94)
  have hc_104 := (congrFun hM_101 (ad 1)).trans (gw_k hne_66 hc_95)
  have hc_105 : M_100 (ad 2) = some (.inl (K.2.1 0, 24, .inl (ffl V.2.2.1 (nI 0) 24))) := (congrFun hM_101 _).trans gw_s
  have hc_106 := (congrFun hM_101 (ad 3)).trans (gw_k hne_75 hc_97)
  have hc_107 := (congrFun hM_101 (ad 4)).trans (gw_k hne_79 hc_98)
  refine lv_aload_n hx hb dX0_wipe_24 rfl (lv_at hl 0 rfl) ?_
  refine gw_get (ci := 1) (C := RX0) (T := TX0) (N := 5) hx hb hts hinX0 hown hK hG hc_102 rfl 3 (by decide) hf21 (fun _ h9 => h9) rfl dX0_wipe_25 ?_
  refine lv_lconst (v := 0) hx hb dX0_wipe_28 (by decide) ?_
  refine gw_callv (va_runS (As := [.ref (ad 3), .long 0]) (rest := []) ⟨hx, hb, hml, hown, hts⟩ (c_fill1 l K M_100 (ad 3) 24 (V.2.2.2.1) 0 hc_106 (by decide)) (va_cwS 2 hts gX0_wipe_J7_fill_d0a16 rfl rfl rfl (by decide +kernel) ⟨Nat.le_of_ble_eq_true rfl, Nat.le_of_ble_eq_true rfl⟩) (gw_preS hG hT) rfl rfl hl.1 rfl (lv_room (Nat.le_of_ble_eq_true rfl)) dX0_wipe_29 ⟨Nat.le_of_ble_eq_true rfl, Nat.le_of_ble_eq_true rfl⟩) hG (fun M_109 H locs hw hG => ?_)
  have hM_110 := hw
  have hc_111 := (congrFun hM_110 h).trans (gw_k hne_59 hc_102)
  have hc_112 := (congrFun hM_110 (ad 0)).trans (gw_k hne_63 hc_103)
  have hc_113 := (congrFun hM_110 (ad 1)).trans (gw_k hne_67 hc_104)
  have hc_114 := (congrFun hM_110 (ad 2)).trans (gw_k hne_71 hc_105)
  have hc_115 : M_109 (ad 3) = some (.inl (K.2.1 1, 24, .inr (.inl (ffl V.2.2.2.1 0 24)))) := (congrFun hM_110 _).trans gw_s
  have hc_116 := (congrFun hM_110 (ad 4)).trans (gw_k hne_80 hc_107)
  refine lv_aload_n hx hb dX0_wipe_32 rfl (lv_at hl 0 rfl) ?_
  refine gw_get (ci := 1) (C := RX0) (T := TX0) (N := 5) hx hb hts hinX0 hown hK hG hc_111 rfl 4 (by decide) hf25 (fun _ h9 => h9) rfl dX0_wipe_33 ?_
  refine lv_lconst (v := 0) hx hb dX0_wipe_36 (by decide) ?_
  refine gw_callv (va_runS (As := [.ref (ad 4), .long 0]) (rest := []) ⟨hx, hb, hml, hown, hts⟩ (c_fill1 l K M_109 (ad 4) 24 (V.2.2.2.2) 0 hc_116 (by decide)) (va_cwS 2 hts gX0_wipe_J7_fill_d0a16 rfl rfl rfl (by decide +kernel) ⟨Nat.le_of_ble_eq_true rfl, Nat.le_of_ble_eq_true rfl⟩) (gw_preS hG hT) rfl rfl hl.1 rfl (lv_room (Nat.le_of_ble_eq_true rfl)) dX0_wipe_37 ⟨Nat.le_of_ble_eq_true rfl, Nat.le_of_ble_eq_true rfl⟩) hG (fun M_118 H locs hw hG => ?_)
  have hM_119 := hw
  have hc_120 := (congrFun hM_119 h).trans (gw_k hne_60 hc_111)
  have hc_121 := (congrFun hM_119 (ad 0)).trans (gw_k hne_64 hc_112)
  have hc_122 := (congrFun hM_119 (ad 1)).trans (gw_k hne_68 hc_113)
  have hc_123 := (congrFun hM_119 (ad 2)).trans (gw_k hne_72 hc_114)
  have hc_124 := (congrFun hM_119 (ad 3)).trans (gw_k hne_76 hc_115)
  have hc_125 : M_118 (ad 4) = some (.inl (K.2.1 1, 24, .inr (.inl (ffl V.2.2.2.2 0 24)))) := (congrFun hM_119 _).trans gw_s
  exact gw_vret hx hb hr hlocks hG hT (by omega) (by omega) dX0_wipe_40 ⟨⟨hc_120, hc_121, hc_122, hc_123, hc_124, hc_125, h_ne⟩, fun q hq => by rw [hM_119, gw_n (hq 4 (by decide)), hM_110, gw_n (hq 3 (by decide)), hM_101, gw_n (hq 2 (by decide)), hM_92, gw_n (hq 1 (by decide)), hM_83, gw_n (hq 0 (by decide))]⟩

set_option maxHeartbeats 4000000 in
set_option maxRecDepth 100000 in
/-- merge -/
theorem c_mergeF (l : Launch) (K : gw_C) (M : gw_M) (h g : Nat) (ad ad2 : Nat → Nat) (V U : hV) (F : Nat → hV × Nat) (hF0 : F 0 = (V, 0)) (hFs : ∀ pl mk, mk < 6 → F (pl * 6 + mk + 1) = (hmd (F (pl * 6 + mk)).1 U pl mk, (F (pl * 6 + mk)).2 + hmc (F (pl * 6 + mk)).1 U pl mk)) (hh : hd K M h ad V) (hg : hd K M g ad2 U) (hdis : ∀ i j, i < 5 → j < 5 → ad2 j ≠ ad i) : Met l yX0_merge wsX0_merge ({ frames := 1, cells := 0, slots := 0, locals := 26 } : Room) (va_Pc [.ref h, .ref g] (gw_I K M)) (va_Qi (fun r M1 => r = nI (F 408).2 ∧ hd K M1 h ad (hmx (F 408).1.1 U.1 6, (F 408).1.2.1, (F 408).1.2.2.1, hmxl (F 408).1.2.2.2.1 U.2.2.2.1 24, hmxl (F 408).1.2.2.2.2 U.2.2.2.2 24) ∧ hd K M1 g ad2 U ∧ hfr M M1 ad) (gw_I K) (gw_A K)) 0 0 (gw_A K) := by
  refine Met.ofW (cc := cX0_merge) (maxL := 5) (ret := (some .int)) (by decide) rfl ?_
  intro p e s m args below meth c s₁ B hml hv
  obtain ⟨hav, hI⟩ := hv
  have hx := B.exec
  have hb := B.bytes
  have hr := B.returns
  have hts := atoms_spec (ws := wsX0_merge) B.pre
  have hown : s.vm.findClass RX0 = some m.cls := findClass_of_methodNamed B.named
  have hlocks : meth.locks = false := B.notSynchronized
  have hT := hI.2.2
  have hK := hT.K
  have hG := hI.B
  have hf9 := hts (.fieldLink RX0 9 "DotGossip$Holding" "seen" "[I") (by decide +kernel)
  have hf15 := hts (.fieldLink RX0 15 "DotGossip$Holding" "numbers" "[I") (by decide +kernel)
  have hf18 := hts (.fieldLink RX0 18 "DotGossip$Holding" "written" "[I") (by decide +kernel)
  have hf21 := hts (.fieldLink RX0 21 "DotGossip$Holding" "added" "[J") (by decide +kernel)
  have hf25 := hts (.fieldLink RX0 25 "DotGossip$Holding" "taken" "[J") (by decide +kernel)
  have hinX0 : ∀ w ∈ wsX00, w ∈ wsX0_merge := by decide +kernel
  have hE : entryFrame m args 5 = entryFrame m ([.ref h, .ref g] : List Value).toArray 5 := by rw [hav]
  rw [hE]
  have hl := lv_entry ([.ref h, .ref g]) (n := 5) (Nat.le_of_ble_eq_true rfl)
  rw [lg_entry_eq]
  generalize (lg_sl ([.ref h, .ref g]) ++ List.replicate (5 - (lg_sl ([.ref h, .ref g])).length) Slot.unset).toArray = ls at hl ⊢
  have hl : lv_has ls 5 [(0, .ref h), (1, .ref g)] := hl
  have hV408 : ∃ W9 : hV, W9 = (F 408).1 := ⟨_, rfl⟩
  obtain ⟨W9, hW9⟩ := hV408
  have hl3 : ∀ (n : Nat) (cn i : Nat), i ≤ 24 → cn = (F 408).2 → 24 + 1 ≤ i + n → ∀ (Mi : gw_M), hd K Mi h ad (hmx W9.1 U.1 6, W9.2.1, W9.2.2.1, hmxl W9.2.2.2.1 U.2.2.2.1 i, hmxl W9.2.2.2.2 U.2.2.2.2 i) ∧ hd K Mi g ad2 U ∧ hfr M Mi ad → ∀ (H : Heap) (locs : List Loc), gw_B K Mi s.heap H locs → ∀ (ls : Array Slot), lv_has ls 5 [(3, .int (nI i)), (2, .int (nI cn)), (0, .ref h), (1, .ref g)] → W p l e ({ frames := 1, cells := 0, slots := 0, locals := 26 } : Room) s m args below meth c H locs 0 0 (MQ below (va_Qi (fun r M1 => r = nI (F 408).2 ∧ hd K M1 h ad (hmx (F 408).1.1 U.1 6, (F 408).1.2.1, (F 408).1.2.2.1, hmxl (F 408).1.2.2.2.1 U.2.2.2.1 24, hmxl (F 408).1.2.2.2.2 U.2.2.2.2 24) ∧ hd K M1 g ad2 U ∧ hfr M M1 ad) (gw_I K) (gw_A K)) args s 0 0 (gw_A K)) (F0 m 83 ls []) := by
    intro n
    induction n with
    | zero =>
      intro cn i hg0 hg1 hm
      exact absurd hm (by omega)
    | succ n ih =>
      intro cn i hg0 hg1 hm Mi hMi H locs hG ls hl
      generalize hA9 : hmxl W9.2.2.2.1 U.2.2.2.1 i = A9 at hMi
      generalize hB9 : hmxl W9.2.2.2.2 U.2.2.2.2 i = B9 at hMi
      obtain ⟨q1, q2, q3⟩ := hMi
      obtain ⟨x_0, x_s, x_n, x_w, x_a, x_t, x_ne⟩ := id q1
      obtain ⟨y_0, y_s, y_n, y_w, y_a, y_t, y_ne⟩ := id q2
      have hne_126 : h ≠ ad 3 := (gw_io x_0 x_a)
      have hne_127 : h ≠ ad 4 := (gw_io x_0 x_t)
      have hne_128 : g ≠ ad 3 := (gw_io y_0 x_a)
      have hne_129 : g ≠ ad 4 := (gw_io y_0 x_t)
      have hne_130 : ad 0 ≠ ad 3 := (fun z => absurd (x_ne 0 3 (by decide) (by decide) z) (by decide))
      have hne_131 : ad 0 ≠ ad 4 := (fun z => absurd (x_ne 0 4 (by decide) (by decide) z) (by decide))
      have hne_132 : ad 1 ≠ ad 3 := (fun z => absurd (x_ne 1 3 (by decide) (by decide) z) (by decide))
      have hne_133 : ad 1 ≠ ad 4 := (fun z => absurd (x_ne 1 4 (by decide) (by decide) z) (by decide))
      have hne_134 : ad 2 ≠ ad 3 := (fun z => absurd (x_ne 2 3 (by decide) (by decide) z) (by decide))
      have hne_135 : ad 2 ≠ ad 4 := (fun z => absurd (x_ne 2 4 (by decide) (by decide) z) (by decide))
      have hne_136 : ad 3 ≠ ad 4 := (fun z => absurd (x_ne 3 4 (by decide) (by decide) z) (by decide))
      have hne_137 : ad 4 ≠ ad 3 := (fun z => absurd (x_ne 4 3 (by decide) (by decide) z) (by decide))
      have hne_138 : ad2 0 ≠ ad 3 := (hdis 3 0 (by decide) (by decide))
      have hne_139 : ad2 0 ≠ ad 4 := (hdis 4 0 (by decide) (by decide))
      have hne_140 : ad2 1 ≠ ad 3 := (hdis 3 1 (by decide) (by decide))
      have hne_141 : ad2 1 ≠ ad 4 := (hdis 4 1 (by decide) (by decide))
      have hne_142 : ad2 2 ≠ ad 3 := (hdis 3 2 (by decide) (by decide))
      have hne_143 : ad2 2 ≠ ad 4 := (hdis 4 2 (by decide) (by decide))
      have hne_144 : ad2 3 ≠ ad 3 := (hdis 3 3 (by decide) (by decide))
      have hne_145 : ad2 3 ≠ ad 4 := (hdis 4 3 (by decide) (by decide))
      have hne_146 : ad2 4 ≠ ad 3 := (hdis 3 4 (by decide) (by decide))
      have hne_147 : ad2 4 ≠ ad 4 := (hdis 4 4 (by decide) (by decide))
      refine lv_iload_n hx hb dX0_merge_83 rfl (lv_at hl 0 rfl) ?_
      refine lv_bipush (v := nI 24) hx hb dX0_merge_84 (by decide) ?_
      refine gw_icmp_ge hx hb (by omega) (by omega) (tgt := 137) dX0_merge_86 (by decide) (fun hc => ?_) (fun hc => ?_)
      · obtain rfl : i = 24 := by omega
        refine lv_iload_n hx hb dX0_merge_137 rfl (lv_at hl 1 rfl) ?_
        exact gw_iret hx hb hr hlocks hG hT (by omega) (by omega) dX0_merge_138 ⟨by rw [hg1], by rw [← hW9, hA9, hB9]; exact q1, q2, q3⟩
      · refine lv_aload_n hx hb dX0_merge_89 rfl (lv_at hl 2 rfl) ?_
        refine gw_get (ci := 1) (C := RX0) (T := TX0) (N := 5) hx hb hts hinX0 hown hK hG x_0 rfl 3 (by decide) hf21 (fun _ h9 => h9) rfl dX0_merge_90 ?_
        refine lv_iload_n hx hb dX0_merge_93 rfl (lv_at hl 0 rfl) ?_
        refine lv_aload_n hx hb dX0_merge_94 rfl (lv_at hl 2 rfl) ?_
        refine gw_get (ci := 1) (C := RX0) (T := TX0) (N := 5) hx hb hts hinX0 hown hK hG x_0 rfl 3 (by decide) hf21 (fun _ h9 => h9) rfl dX0_merge_95 ?_
        refine lv_iload_n hx hb dX0_merge_98 rfl (lv_at hl 0 rfl) ?_
        refine gw_lald_n hx hb hK hG x_a 1 rfl (by omega) (by omega) dX0_merge_99 ?_
        refine lv_aload_n hx hb dX0_merge_100 rfl (lv_at hl 3 rfl) ?_
        refine gw_get (ci := 1) (C := RX0) (T := TX0) (N := 5) hx hb hts hinX0 hown hK hG y_0 rfl 3 (by decide) hf21 (fun _ h9 => h9) rfl dX0_merge_101 ?_
        refine lv_iload_n hx hb dX0_merge_104 rfl (lv_at hl 0 rfl) ?_
        refine gw_lald_n hx hb hK hG y_a 1 rfl (by omega) (by omega) dX0_merge_105 ?_
        refine va_mmax_long hx hb (hml.trans hl.1.symm) hown (hts (.methodLink RX0 58 Lib.MathLoose.max_long.x) (by decide +kernel)) (hts (.static Lib.MathLoose.max_long.x) (by decide +kernel)) (hts (.initialized "java/lang/Math") (by decide +kernel)) (hts (.code Lib.MathLoose.max_long.x Lib.MathLoose.max_long.code 4 (some .long)) (by decide +kernel)) (Nat.le_of_ble_eq_true rfl) (Nat.le_of_ble_eq_true rfl) (Nat.le_of_ble_eq_true rfl) (Nat.le_of_ble_eq_true rfl) dX0_merge_106 ?_
        refine gw_last_n hx hb hK hG x_a 1 rfl (by omega) (by omega) dX0_merge_109 (fun H locs hG => ?_)
        obtain ⟨M_148, hM_149⟩ : ∃ M1 : gw_M, M1 = gw_up Mi (ad 3) (.inl (K.2.1 1, 24, .inr (.inl (vp_updL A9 i (if U.2.2.2.1 i < A9 i then A9 i else U.2.2.2.1 i))))) := ⟨_, rfl⟩
        have hG : gw_B K M_148 s.heap H locs := by rw [hM_149]; exact hG
        have hc_150 := (congrFun hM_149 h).trans (gw_k hne_126 x_0)
        have hc_151 := (congrFun hM_149 (ad 0)).trans (gw_k hne_130 x_s)
        have hc_152 := (congrFun hM_149 (ad 1)).trans (gw_k hne_132 x_n)
        have hc_153 := (congrFun hM_149 (ad 2)).trans (gw_k hne_134 x_w)
        have hc_154 : M_148 (ad 3) = some (.inl (K.2.1 1, 24, .inr (.inl (vp_updL A9 i (if U.2.2.2.1 i < A9 i then A9 i else U.2.2.2.1 i))))) := (congrFun hM_149 _).trans gw_s
        have hc_155 := (congrFun hM_149 (ad 4)).trans (gw_k hne_137 x_t)
        have hc_156 := (congrFun hM_149 g).trans (gw_k hne_128 y_0)
        have hc_157 := (congrFun hM_149 (ad2 0)).trans (gw_k hne_138 y_s)
        have hc_158 := (congrFun hM_149 (ad2 1)).trans (gw_k hne_140 y_n)
        have hc_159 := (congrFun hM_149 (ad2 2)).trans (gw_k hne_142 y_w)
        have hc_160 := (congrFun hM_149 (ad2 3)).trans (gw_k hne_144 y_a)
        have hc_161 := (congrFun hM_149 (ad2 4)).trans (gw_k hne_146 y_t)
        refine lv_aload_n hx hb dX0_merge_110 rfl (lv_at hl 2 rfl) ?_
        refine gw_get (ci := 1) (C := RX0) (T := TX0) (N := 5) hx hb hts hinX0 hown hK hG hc_150 rfl 4 (by decide) hf25 (fun _ h9 => h9) rfl dX0_merge_111 ?_
        refine lv_iload_n hx hb dX0_merge_114 rfl (lv_at hl 0 rfl) ?_
        refine lv_aload_n hx hb dX0_merge_115 rfl (lv_at hl 2 rfl) ?_
        refine gw_get (ci := 1) (C := RX0) (T := TX0) (N := 5) hx hb hts hinX0 hown hK hG hc_150 rfl 4 (by decide) hf25 (fun _ h9 => h9) rfl dX0_merge_116 ?_
        refine lv_iload_n hx hb dX0_merge_119 rfl (lv_at hl 0 rfl) ?_
        refine gw_lald_n hx hb hK hG hc_155 1 rfl (by omega) (by omega) dX0_merge_120 ?_
        refine lv_aload_n hx hb dX0_merge_121 rfl (lv_at hl 3 rfl) ?_
        refine gw_get (ci := 1) (C := RX0) (T := TX0) (N := 5) hx hb hts hinX0 hown hK hG hc_156 rfl 4 (by decide) hf25 (fun _ h9 => h9) rfl dX0_merge_122 ?_
        refine lv_iload_n hx hb dX0_merge_125 rfl (lv_at hl 0 rfl) ?_
        refine gw_lald_n hx hb hK hG hc_161 1 rfl (by omega) (by omega) dX0_merge_126 ?_
        refine va_mmax_long hx hb (hml.trans hl.1.symm) hown (hts (.methodLink RX0 58 Lib.MathLoose.max_long.x) (by decide +kernel)) (hts (.static Lib.MathLoose.max_long.x) (by decide +kernel)) (hts (.initialized "java/lang/Math") (by decide +kernel)) (hts (.code Lib.MathLoose.max_long.x Lib.MathLoose.max_long.code 4 (some .long)) (by decide +kernel)) (Nat.le_of_ble_eq_true rfl) (Nat.le_of_ble_eq_true rfl) (Nat.le_of_ble_eq_true rfl) (Nat.le_of_ble_eq_true rfl) dX0_merge_127 ?_
        refine gw_last_n hx hb hK hG hc_155 1 rfl (by omega) (by omega) dX0_merge_130 (fun H locs hG => ?_)
        obtain ⟨M_162, hM_163⟩ : ∃ M1 : gw_M, M1 = gw_up M_148 (ad 4) (.inl (K.2.1 1, 24, .inr (.inl (vp_updL B9 i (if U.2.2.2.2 i < B9 i then B9 i else U.2.2.2.2 i))))) := ⟨_, rfl⟩
        have hG : gw_B K M_162 s.heap H locs := by rw [hM_163]; exact hG
        have hc_164 := (congrFun hM_163 h).trans (gw_k hne_127 hc_150)
        have hc_165 := (congrFun hM_163 (ad 0)).trans (gw_k hne_131 hc_151)
        have hc_166 := (congrFun hM_163 (ad 1)).trans (gw_k hne_133 hc_152)
        have hc_167 := (congrFun hM_163 (ad 2)).trans (gw_k hne_135 hc_153)
        have hc_168 := (congrFun hM_163 (ad 3)).trans (gw_k hne_136 hc_154)
        have hc_169 : M_162 (ad 4) = some (.inl (K.2.1 1, 24, .inr (.inl (vp_updL B9 i (if U.2.2.2.2 i < B9 i then B9 i else U.2.2.2.2 i))))) := (congrFun hM_163 _).trans gw_s
        have hc_170 := (congrFun hM_163 g).trans (gw_k hne_129 hc_156)
        have hc_171 := (congrFun hM_163 (ad2 0)).trans (gw_k hne_139 hc_157)
        have hc_172 := (congrFun hM_163 (ad2 1)).trans (gw_k hne_141 hc_158)
        have hc_173 := (congrFun hM_163 (ad2 2)).trans (gw_k hne_143 hc_159)
        have hc_174 := (congrFun hM_163 (ad2 3)).trans (gw_k hne_145 hc_160)
        have hc_175 := (congrFun hM_163 (ad2 4)).trans (gw_k hne_147 hc_161)
        refine lv_iinc (v := nI (i + 1)) (lv' := [(3, .int (nI (i + 1))), (2, .int (nI cn)), (0, .ref h), (1, .ref g)]) hx hb dX0_merge_131 hl (k := 0) rfl (gw_inc _) (by decide) rfl (fun ls hl => ?_)
        refine lv_goto (tgt := 83) hx hb dX0_merge_134 (by decide) ?_
        rw [← hA9, hmxl_s] at hc_168
        rw [← hB9, hmxl_s] at hc_169
        exact ih cn (i + 1) (by omega) hg1 (by omega) _ ⟨⟨hc_164, hc_165, hc_166, hc_167, hc_168, hc_169, x_ne⟩, ⟨hc_170, hc_171, hc_172, hc_173, hc_174, hc_175, y_ne⟩, fun q hq => by rw [hM_163, gw_n (hq 4 (by decide)), hM_149, gw_n (hq 3 (by decide))]; exact q3 q hq⟩ _ _ hG ls (lv_sub hl [0, 1, 2, 3] rfl)
  have hl2 : ∀ (n : Nat) (cn i : Nat), i ≤ 6 → cn = (F 408).2 → 6 + 1 ≤ i + n → ∀ (Mi : gw_M), hd K Mi h ad (hmx W9.1 U.1 i, W9.2) ∧ hd K Mi g ad2 U ∧ hfr M Mi ad → ∀ (H : Heap) (locs : List Loc), gw_B K Mi s.heap H locs → ∀ (ls : Array Slot), lv_has ls 5 [(3, .int (nI i)), (2, .int (nI cn)), (0, .ref h), (1, .ref g)] → W p l e ({ frames := 1, cells := 0, slots := 0, locals := 26 } : Room) s m args below meth c H locs 0 0 (MQ below (va_Qi (fun r M1 => r = nI (F 408).2 ∧ hd K M1 h ad (hmx (F 408).1.1 U.1 6, (F 408).1.2.1, (F 408).1.2.2.1, hmxl (F 408).1.2.2.2.1 U.2.2.2.1 24, hmxl (F 408).1.2.2.2.2 U.2.2.2.2 24) ∧ hd K M1 g ad2 U ∧ hfr M M1 ad) (gw_I K) (gw_A K)) args s 0 0 (gw_A K)) (F0 m 48 ls []) := by
    intro n
    induction n with
    | zero =>
      intro cn i hg0 hg1 hm
      exact absurd hm (by omega)
    | succ n ih =>
      intro cn i hg0 hg1 hm Mi hMi H locs hG ls hl
      generalize hA9 : hmx W9.1 U.1 i = A9 at hMi
      obtain ⟨q1, q2, q3⟩ := hMi
      obtain ⟨x_0, x_s, x_n, x_w, x_a, x_t, x_ne⟩ := id q1
      obtain ⟨y_0, y_s, y_n, y_w, y_a, y_t, y_ne⟩ := id q2
      have hne_176 : h ≠ ad 0 := (gw_io x_0 x_s)
      have hne_177 : g ≠ ad 0 := (gw_io y_0 x_s)
      have hne_178 : ad 1 ≠ ad 0 := (fun z => absurd (x_ne 1 0 (by decide) (by decide) z) (by decide))
      have hne_179 : ad 2 ≠ ad 0 := (fun z => absurd (x_ne 2 0 (by decide) (by decide) z) (by decide))
      have hne_180 : ad 3 ≠ ad 0 := (fun z => absurd (x_ne 3 0 (by decide) (by decide) z) (by decide))
      have hne_181 : ad 4 ≠ ad 0 := (fun z => absurd (x_ne 4 0 (by decide) (by decide) z) (by decide))
      have hne_182 : ad2 0 ≠ ad 0 := (hdis 0 0 (by decide) (by decide))
      have hne_183 : ad2 1 ≠ ad 0 := (hdis 0 1 (by decide) (by decide))
      have hne_184 : ad2 2 ≠ ad 0 := (hdis 0 2 (by decide) (by decide))
      have hne_185 : ad2 3 ≠ ad 0 := (hdis 0 3 (by decide) (by decide))
      have hne_186 : ad2 4 ≠ ad 0 := (hdis 0 4 (by decide) (by decide))
      refine lv_iload_n hx hb dX0_merge_48 rfl (lv_at hl 0 rfl) ?_
      refine lv_bipush (v := nI 6) hx hb dX0_merge_49 (by decide) ?_
      refine gw_icmp_ge hx hb (by omega) (by omega) (tgt := 81) dX0_merge_51 (by decide) (fun hc => ?_) (fun hc => ?_)
      · obtain rfl : i = 6 := by omega
        refine lv_iconst (v := nI 0) hx hb dX0_merge_81 (by decide) ?_
        refine lv_istore_n (lv' := [(3, .int (nI 0)), (2, .int (nI cn)), (0, .ref h), (1, .ref g)]) hx hb dX0_merge_82 rfl hl (by decide) rfl (fun ls hl => ?_)
        exact hl3 25 cn 0 (by omega) hg1 (by omega) Mi ⟨by rw [hA9, hmxl_0, hmxl_0]; exact q1, q2, q3⟩ _ _ hG ls (lv_sub hl [0, 1, 2, 3] rfl)
      · refine lv_aload_n hx hb dX0_merge_54 rfl (lv_at hl 2 rfl) ?_
        refine gw_get (ci := 1) (C := RX0) (T := TX0) (N := 5) hx hb hts hinX0 hown hK hG x_0 rfl 0 (by decide) hf9 (fun _ h9 => h9) rfl dX0_merge_55 ?_
        refine lv_iload_n hx hb dX0_merge_58 rfl (lv_at hl 0 rfl) ?_
        refine lv_aload_n hx hb dX0_merge_59 rfl (lv_at hl 2 rfl) ?_
        refine gw_get (ci := 1) (C := RX0) (T := TX0) (N := 5) hx hb hts hinX0 hown hK hG x_0 rfl 0 (by decide) hf9 (fun _ h9 => h9) rfl dX0_merge_60 ?_
        refine lv_iload_n hx hb dX0_merge_63 rfl (lv_at hl 0 rfl) ?_
        refine gw_iald_n hx hb hK hG x_s 0 rfl (by omega) (by omega) dX0_merge_64 ?_
        refine lv_aload_n hx hb dX0_merge_65 rfl (lv_at hl 3 rfl) ?_
        refine gw_get (ci := 1) (C := RX0) (T := TX0) (N := 5) hx hb hts hinX0 hown hK hG y_0 rfl 0 (by decide) hf9 (fun _ h9 => h9) rfl dX0_merge_66 ?_
        refine lv_iload_n hx hb dX0_merge_69 rfl (lv_at hl 0 rfl) ?_
        refine gw_iald_n hx hb hK hG y_s 0 rfl (by omega) (by omega) dX0_merge_70 ?_
        refine va_mmax hx hb (hml.trans hl.1.symm) hown (hts (.methodLink RX0 52 Lib.Math.max.name) (by decide +kernel)) (hts (.static Lib.Math.max.name) (by decide +kernel)) (hts (.initialized "java/lang/Math") (by decide +kernel)) (hts (.code Lib.Math.max.name Lib.Math.max.code 2 (some .int)) (by decide +kernel)) (Nat.le_of_ble_eq_true rfl) (Nat.le_of_ble_eq_true rfl) (Nat.le_of_ble_eq_true rfl) (Nat.le_of_ble_eq_true rfl) dX0_merge_71 ?_
        refine gw_iast_n hx hb hK hG x_s 0 rfl (by omega) (by omega) dX0_merge_74 (fun H locs hG => ?_)
        obtain ⟨M_187, hM_188⟩ : ∃ M1 : gw_M, M1 = gw_up Mi (ad 0) (.inl (K.2.1 0, 6, .inl (upd A9 i (if A9 i < U.1 i then U.1 i else A9 i)))) := ⟨_, rfl⟩
        have hG : gw_B K M_187 s.heap H locs := by rw [hM_188]; exact hG
        have hc_189 := (congrFun hM_188 h).trans (gw_k hne_176 x_0)
        have hc_190 : M_187 (ad 0) = some (.inl (K.2.1 0, 6, .inl (upd A9 i (if A9 i < U.1 i then U.1 i else A9 i)))) := (congrFun hM_188 _).trans gw_s
        have hc_191 := (congrFun hM_188 (ad 1)).trans (gw_k hne_178 x_n)
        have hc_192 := (congrFun hM_188 (ad 2)).trans (gw_k hne_179 x_w)
        have hc_193 := (congrFun hM_188 (ad 3)).trans (gw_k hne_180 x_a)
        have hc_194 := (congrFun hM_188 (ad 4)).trans (gw_k hne_181 x_t)
        have hc_195 := (congrFun hM_188 g).trans (gw_k hne_177 y_0)
        have hc_196 := (congrFun hM_188 (ad2 0)).trans (gw_k hne_182 y_s)
        have hc_197 := (congrFun hM_188 (ad2 1)).trans (gw_k hne_183 y_n)
        have hc_198 := (congrFun hM_188 (ad2 2)).trans (gw_k hne_184 y_w)
        have hc_199 := (congrFun hM_188 (ad2 3)).trans (gw_k hne_185 y_a)
        have hc_200 := (congrFun hM_188 (ad2 4)).trans (gw_k hne_186 y_t)
        refine lv_iinc (v := nI (i + 1)) (lv' := [(3, .int (nI (i + 1))), (2, .int (nI cn)), (0, .ref h), (1, .ref g)]) hx hb dX0_merge_75 hl (k := 0) rfl (gw_inc _) (by decide) rfl (fun ls hl => ?_)
        refine lv_goto (tgt := 48) hx hb dX0_merge_78 (by decide) ?_
        rw [← hA9, hmx_s] at hc_190
        exact ih cn (i + 1) (by omega) hg1 (by omega) _ ⟨⟨hc_189, hc_190, hc_191, hc_192, hc_193, hc_194, x_ne⟩, ⟨hc_195, hc_196, hc_197, hc_198, hc_199, hc_200, y_ne⟩, fun q hq => by rw [hM_188, gw_n (hq 0 (by decide))]; exact q3 q hq⟩ _ _ hG ls (lv_sub hl [0, 1, 2, 3] rfl)
  have hl1 : ∀ (n : Nat) (pl : Nat), pl ≤ 68 → 68 + 1 ≤ pl + n → ∀ (Mi : gw_M), hd K Mi h ad ((F (pl * 6)).1) ∧ hd K Mi g ad2 U ∧ hfr M Mi ad → ∀ (H : Heap) (locs : List Loc), gw_B K Mi s.heap H locs → ∀ (ls : Array Slot), lv_has ls 5 [(3, .int (nI pl)), (2, .int (nI ((F (pl * 6)).2))), (0, .ref h), (1, .ref g)] → W p l e ({ frames := 1, cells := 0, slots := 0, locals := 26 } : Room) s m args below meth c H locs 0 0 (MQ below (va_Qi (fun r M1 => r = nI (F 408).2 ∧ hd K M1 h ad (hmx (F 408).1.1 U.1 6, (F 408).1.2.1, (F 408).1.2.2.1, hmxl (F 408).1.2.2.2.1 U.2.2.2.1 24, hmxl (F 408).1.2.2.2.2 U.2.2.2.2 24) ∧ hd K M1 g ad2 U ∧ hfr M M1 ad) (gw_I K) (gw_A K)) args s 0 0 (gw_A K)) (F0 m 4 ls []) := by
    intro n
    induction n with
    | zero =>
      intro pl hg0 hm
      exact absurd hm (by omega)
    | succ n ih =>
      intro pl hg0 hm Mi hMi H locs hG ls hl
      refine lv_iload_n hx hb dX0_merge_4 rfl (lv_at hl 0 rfl) ?_
      refine lv_bipush (v := nI 68) hx hb dX0_merge_5 (by decide) ?_
      refine gw_icmp_ge hx hb (by omega) (by omega) (tgt := 46) dX0_merge_7 (by decide) (fun hc => ?_) (fun hc => ?_)
      · have e68 : pl * 6 = 408 := by omega
        refine lv_iconst (v := nI 0) hx hb dX0_merge_46 (by decide) ?_
        refine lv_istore_n (lv' := [(3, .int (nI 0)), (2, .int (nI ((F (pl * 6)).2))), (0, .ref h), (1, .ref g)]) hx hb dX0_merge_47 rfl hl (by decide) rfl (fun ls hl => ?_)
        exact hl2 7 _ 0 (by omega) (by rw [e68]) (by omega) Mi (by rw [hmx_0, hW9, ← e68]; exact hMi) _ _ hG ls (lv_sub hl [0, 1, 2, 3] rfl)
      · have hl0 : ∀ (n2 : Nat) (mk : Nat), mk ≤ 6 → 6 + 1 ≤ mk + n2 → ∀ (Mj : gw_M), hd K Mj h ad ((F (pl * 6 + mk)).1) ∧ hd K Mj g ad2 U ∧ hfr M Mj ad → ∀ (H : Heap) (locs : List Loc), gw_B K Mj s.heap H locs → ∀ (ls : Array Slot), lv_has ls 5 [(4, .int (nI mk)), (3, .int (nI pl)), (2, .int (nI ((F (pl * 6 + mk)).2))), (0, .ref h), (1, .ref g)] → W p l e ({ frames := 1, cells := 0, slots := 0, locals := 26 } : Room) s m args below meth c H locs 0 0 (MQ below (va_Qi (fun r M1 => r = nI (F 408).2 ∧ hd K M1 h ad (hmx (F 408).1.1 U.1 6, (F 408).1.2.1, (F 408).1.2.2.1, hmxl (F 408).1.2.2.2.1 U.2.2.2.1 24, hmxl (F 408).1.2.2.2.2 U.2.2.2.2 24) ∧ hd K M1 g ad2 U ∧ hfr M M1 ad) (gw_I K) (gw_A K)) args s 0 0 (gw_A K)) (F0 m 13 ls []) := by
          intro n2
          induction n2 with
          | zero =>
            intro mk hg0 hm
            exact absurd hm (by omega)
          | succ n2 ih2 =>
            intro mk hg0 hm Mj hMj H locs hG ls hl
            obtain ⟨q1, q2, q3⟩ := hMj
            obtain ⟨x_0, x_s, x_n, x_w, x_a, x_t, x_ne⟩ := id q1
            refine lv_iload hx hb dX0_merge_13 (lv_at hl 0 rfl) ?_
            refine lv_bipush (v := nI 6) hx hb dX0_merge_15 (by decide) ?_
            refine gw_icmp_ge hx hb (by omega) (by omega) (tgt := 40) dX0_merge_17 (by decide) (fun hc2 => ?_) (fun hc2 => ?_)
            · refine lv_iinc (v := nI (pl + 1)) (lv' := [(3, .int (nI (pl + 1))), (4, .int (nI mk)), (2, .int (nI ((F (pl * 6 + mk)).2))), (0, .ref h), (1, .ref g)]) hx hb dX0_merge_40 hl (k := 1) rfl (gw_inc _) (by decide) rfl (fun ls hl => ?_)
              refine lv_goto (tgt := 4) hx hb dX0_merge_43 (by decide) ?_
              have e6 : (pl + 1) * 6 = pl * 6 + mk := by omega
              exact ih (pl + 1) (by omega) (by omega) Mj (by rw [e6]; exact ⟨q1, q2, q3⟩) _ _ hG ls (by rw [e6]; exact lv_sub hl [0, 2, 3, 4] rfl)
            · refine lv_aload_n hx hb dX0_merge_20 rfl (lv_at hl 3 rfl) ?_
              refine lv_aload_n hx hb dX0_merge_21 rfl (lv_at hl 4 rfl) ?_
              refine lv_iload_n hx hb dX0_merge_22 rfl (lv_at hl 1 rfl) ?_
              refine lv_iload hx hb dX0_merge_23 (lv_at hl 0 rfl) ?_
              refine gw_calli (va_runV (As := [.ref g, .int (nI pl), .int (nI mk)]) (rest := []) ⟨hx, hb, hml, hown, hts⟩ (c_mergeDot l K Mj h g ad ad2 (F (pl * 6 + mk)).1 U pl mk q1 q2 hdis (by omega) hc2) (cwV 3 hts gX0_merge_X0_mergeDot rfl rfl rfl (by decide +kernel) ⟨Nat.le_of_ble_eq_true rfl, Nat.le_of_ble_eq_true rfl⟩) (gw_preV hG hT x_0 rfl) rfl rfl hl.1 rfl (lv_room (Nat.le_of_ble_eq_true rfl)) dX0_merge_25 ⟨Nat.le_of_ble_eq_true rfl, Nat.le_of_ble_eq_true rfl⟩) hG (fun r_201 M_202 H locs hw hG => ?_)
              obtain ⟨hr9, w1, w2, w3⟩ := hw
              have es := hFs pl mk hc2
              refine lv_if_eq hx hb (tgt := 34) dX0_merge_28 (by decide) (fun hz => ?_) (fun hz => ?_)
              · have ec : hmc (F (pl * 6 + mk)).1 U pl mk = 0 := (hmc_01 _ U pl mk).resolve_right (fun q => by rw [hr9, q] at hz; exact absurd hz (by decide))
                refine lv_iinc (v := nI (mk + 1)) (lv' := [(4, .int (nI (mk + 1))), (3, .int (nI pl)), (2, .int (nI ((F (pl * 6 + mk)).2))), (0, .ref h), (1, .ref g)]) hx hb dX0_merge_34 hl (k := 0) rfl (gw_inc _) (by decide) rfl (fun ls hl => ?_)
                refine lv_goto (tgt := 13) hx hb dX0_merge_37 (by decide) ?_
                rw [ec] at es
                clear ec
                exact ih2 (mk + 1) (by omega) (by omega) _ (by rw [← Nat.add_assoc, es]; exact ⟨w1, w2, q3.tr w3⟩) _ _ hG ls (by rw [← Nat.add_assoc, es]; exact lv_sub hl [0, 1, 2, 3, 4] rfl)
              · have ec : hmc (F (pl * 6 + mk)).1 U pl mk = 1 := (hmc_01 _ U pl mk).resolve_left (fun q => by rw [hr9, q] at hz; exact hz (by decide))
                refine lv_iinc (v := nI (((F (pl * 6 + mk)).2) + 1)) (lv' := [(2, .int (nI (((F (pl * 6 + mk)).2) + 1))), (4, .int (nI mk)), (3, .int (nI pl)), (0, .ref h), (1, .ref g)]) hx hb dX0_merge_31 hl (k := 2) rfl (gw_inc _) (by decide) rfl (fun ls hl => ?_)
                refine lv_iinc (v := nI (mk + 1)) (lv' := [(4, .int (nI (mk + 1))), (2, .int (nI (((F (pl * 6 + mk)).2) + 1))), (3, .int (nI pl)), (0, .ref h), (1, .ref g)]) hx hb dX0_merge_34 hl (k := 1) rfl (gw_inc _) (by decide) rfl (fun ls hl => ?_)
                refine lv_goto (tgt := 13) hx hb dX0_merge_37 (by decide) ?_
                rw [ec] at es
                clear ec
                exact ih2 (mk + 1) (by omega) (by omega) _ (by rw [← Nat.add_assoc, es]; exact ⟨w1, w2, q3.tr w3⟩) _ _ hG ls (by rw [← Nat.add_assoc, es]; exact lv_sub hl [0, 2, 1, 3, 4] rfl)
        refine lv_iconst (v := nI 0) hx hb dX0_merge_10 (by decide) ?_
        refine lv_istore (lv' := [(4, .int (nI 0)), (3, .int (nI pl)), (2, .int (nI ((F (pl * 6)).2))), (0, .ref h), (1, .ref g)]) hx hb dX0_merge_11 hl (by decide) rfl (fun ls hl => ?_)
        exact hl0 7 0 (by omega) (by omega) Mi hMi _ _ hG ls (lv_sub hl [0, 1, 2, 3, 4] rfl)
  refine lv_iconst (v := nI 0) hx hb dX0_merge_0 (by decide) ?_
  refine lv_istore_n (lv' := [(2, .int (nI 0)), (0, .ref h), (1, .ref g)]) hx hb dX0_merge_1 rfl hl (by decide) rfl (fun ls hl => ?_)
  refine lv_iconst (v := nI 0) hx hb dX0_merge_2 (by decide) ?_
  refine lv_istore_n (lv' := [(3, .int (nI 0)), (2, .int (nI 0)), (0, .ref h), (1, .ref g)]) hx hb dX0_merge_3 rfl hl (by decide) rfl (fun ls hl => ?_)
  exact hl1 69 0 (by omega) (by omega) M ⟨by rw [Nat.zero_mul, hF0]; exact hh, hg, hfr.rf⟩ _ _ hG ls (by rw [Nat.zero_mul, hF0]; exact lv_sub hl [0, 1, 2, 3] rfl)

theorem c_merge (l : Launch) (K : gw_C) (M : gw_M) (h g : Nat) (ad ad2 : Nat → Nat) (V U : hV) (hh : hd K M h ad V) (hg : hd K M g ad2 U) (hdis : ∀ i j, i < 5 → j < 5 → ad2 j ≠ ad i) : Met l yX0_merge wsX0_merge ({ frames := 1, cells := 0, slots := 0, locals := 26 } : Room) (va_Pc [.ref h, .ref g] (gw_I K M)) (va_Qi (fun r M1 => r = nI (hmf V U 408).2 ∧ hd K M1 h ad (hmg V U) ∧ hd K M1 g ad2 U ∧ hfr M M1 ad) (gw_I K) (gw_A K)) 0 0 (gw_A K) :=
  c_mergeF l K M h g ad ad2 V U (hmf V U) rfl (fun _ _ hk => hmf_s V U hk) hh hg hdis
