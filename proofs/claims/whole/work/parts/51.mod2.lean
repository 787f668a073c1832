/-- i entries from pa on laid from pb on -/
def mcp {α : Type} (f : Nat → α) (pa pb i : Nat) : Nat → α := fun j => if pb ≤ j ∧ j < pb + i then f (pa + (j - pb)) else f j
theorem mcp_0 {α : Type} (f : Nat → α) (pa pb : Nat) : mcp f pa pb 0 = f := by
  funext j
  unfold mcp
  rw [if_neg (by omega)]
theorem mcp_at {α : Type} (f : Nat → α) (pa pb i : Nat) (h : ¬ (pb ≤ pa + i ∧ pa + i < pb + i)) : mcp f pa pb i (pa + i) = f (pa + i) := by
  unfold mcp
  rw [if_neg h]
theorem mcp_st {α : Type} (f g : Nat → α) (pa pb i : Nat) (h : ¬ (pb ≤ pa + i ∧ pa + i < pb + i)) (hg : g = fun j => if j = pb + i then mcp f pa pb i (pa + i) else mcp f pa pb i j) : g = mcp f pa pb (i + 1) := by
  rw [hg, mcp_at f pa pb i h]
  funext j
  show (if j = pb + i then f (pa + i) else mcp f pa pb i j) = mcp f pa pb (i + 1) j
  unfold mcp
  by_cases hj : j = pb + i
  · rw [if_pos hj, if_pos (by omega), hj, Nat.add_sub_cancel_left]
  · rw [if_neg hj]
    by_cases h2 : pb ≤ j ∧ j < pb + i
    · rw [if_pos h2, if_pos (by omega)]
    · rw [if_neg h2, if_neg (by omega)]
theorem mcp_s (f : Nat → Int32) (pa pb i : Nat) (h : ¬ (pb ≤ pa + i ∧ pa + i < pb + i)) : upd (mcp f pa pb i) (pb + i) (mcp f pa pb i (pa + i)) = mcp f pa pb (i + 1) := mcp_st f _ pa pb i h rfl
theorem mcp_sl (f : Nat → Int64) (pa pb i : Nat) (h : ¬ (pb ≤ pa + i ∧ pa + i < pb + i)) : vp_updL (mcp f pa pb i) (pb + i) (mcp f pa pb i (pa + i)) = mcp f pa pb (i + 1) := mcp_st f _ pa pb i h rfl
/-- C entries from B on taken from s places further -/
def msh {α : Type} (f : Nat → α) (s B C : Nat) : Nat → α := fun j => if B ≤ j ∧ j < B + C then f (j + s) else f j
theorem msh_0 {α : Type} (f : Nat → α) (s B : Nat) : msh f s B 0 = f := by
  funext j
  unfold msh
  rw [if_neg (by omega)]
theorem msh_s {α : Type} (f : Nat → α) (s B C : Nat) : mcp (msh f s B C) (B + C + s) (B + C) s = msh f s B (C + s) := by
  funext j
  unfold mcp
  by_cases h : B + C ≤ j ∧ j < B + C + s
  · rw [if_pos h]
    unfold msh
    rw [if_neg (by omega), if_pos (by omega)]
    congr 1
    omega
  · rw [if_neg h]
    unfold msh
    by_cases h2 : B ≤ j ∧ j < B + C
    · rw [if_pos h2, if_pos (by omega)]
    · rw [if_neg h2, if_neg (by omega)]
theorem msh_1 (f : Nat → Int32) (B C : Nat) : upd (msh f 1 B C) (B + C) (msh f 1 B C (B + C + 1)) = msh f 1 B (C + 1) := by
  rw [← msh_s f 1 B C]
  funext j
  unfold mcp
  show (if j = B + C then msh f 1 B C (B + C + 1) else msh f 1 B C j) = _
  by_cases h : j = B + C
  · rw [if_pos h, if_pos (by omega), h, Nat.sub_self, Nat.add_zero]
  · rw [if_neg h, if_neg (by omega)]
/-- whose dot is the one at place ii -/
def mgo (f : Nat → Int32) (b : Nat) (ii : Int32) : Nat → Int32
  | 0 => -1
  | k + 1 => if mgo f b ii k = -1 then (if f (b + k) ≤ 0 then -1 else if nI (mny f b k) = ii then nI k else -1) else mgo f b ii k
theorem mgo_stay (f : Nat → Int32) (b : Nat) (ii : Int32) (k : Nat) (h : mgo f b ii k ≠ -1) : ∀ j, mgo f b ii (k + j) = mgo f b ii k := by
  intro j
  induction j with
  | zero => rfl
  | succ j ih =>
    show (if mgo f b ii (k + j) = -1 then _ else mgo f b ii (k + j)) = _
    rw [ih, if_neg h]
theorem mgo_neg (f : Nat → Int32) (b : Nat) (ii : Int32) (h : ii < 0) : ∀ k, k ≤ 6 → mgo f b ii k = -1 := by
  intro k hk
  induction k with
  | zero => rfl
  | succ k ih =>
    show (if mgo f b ii k = -1 then _ else _) = _
    rw [if_pos (ih (by omega))]
    split
    · rfl
    · rw [if_neg (fun z => ?_)]
      have := mny_le f b k
      rw [← z] at h
      exact absurd h (fun q => by
        have h1 := Int32.lt_iff_toInt_lt.mp q
        rw [nI_toInt (by omega)] at h1
        have e : (0 : Int32).toInt = 0 := by decide
        omega)
theorem gw_decN {i : Nat} (h : 0 < i) : nI i + Int32.ofInt (-1) = nI (i - 1) := by
  obtain ⟨j, rfl⟩ : ∃ j, i = j + 1 := ⟨i - 1, by omega⟩
  rw [Nat.add_sub_cancel, ← gw_inc j, Int32.add_assoc]
  have : Int32.ofInt 1 + Int32.ofInt (-1) = 0 := by decide
  rw [this, Int32.add_zero]
set_option maxHeartbeats 4000000 in
set_option maxRecDepth 100000 in
/-- c_copies -/
theorem c_copies (l : Launch) (K : gw_C) (M : gw_M) (mo : Nat) (ad : Nat → Nat) (cd : Int32) (nn kk : Nat) (tb vb : Nat → Int32) (sb : Nat → Int64) (fm tq : Nat → Int32) (wa wb : Nat)  (hm : md K M mo ad cd nn kk tb vb sb fm tq) (hwa : wa < 106) (hwb : wb < 106) (hne : wa ≠ wb) : Met l yX3_copies wsX3_copies ({ frames := 0, cells := 0, slots := 0, locals := 0 } : Room) (va_Pc [.ref mo, .int (nI wa), .int (nI wb)] (gw_I K M)) (va_Qv (fun M1 => md K M1 mo ad cd nn kk (mcp tb (414 * wa) (414 * wb) 414) (mcp vb (24 * wa) (24 * wb) 24) (mcp sb (48 * wa) (48 * wb) 48) fm tq ∧ mfr M M1 mo ad) (gw_I K) (gw_A K)) 0 0 (gw_A K) := by
  refine Met.ofW (cc := cX3_copies) (maxL := 4) (ret := none) (by decide) rfl ?_
  intro p e s m args below meth c s₁ B hml hv
  obtain ⟨hav, hI⟩ := hv
  have hx := B.exec
  have hb := B.bytes
  have hr := B.returns
  have hts := atoms_spec (ws := wsX3_copies) B.pre
  have hown : s.vm.findClass RX3 = some m.cls := findClass_of_methodNamed B.named
  have hlocks : meth.locks = false := B.notSynchronized
  have hT := hI.2.2
  have hK := hT.K
  have hG := hI.B
  have hf14 := hts (.fieldLink RX3 14 "DotGossipModel" "table" "[I") (by decide +kernel)
  have hf18 := hts (.fieldLink RX3 18 "DotGossipModel" "values" "[I") (by decide +kernel)
  have hf21 := hts (.fieldLink RX3 21 "DotGossipModel" "sums" "[J") (by decide +kernel)
  have hinX3 : ∀ w ∈ wsX30, w ∈ wsX3_copies := by decide +kernel
  have hE : entryFrame m args 4 = entryFrame m ([.ref mo, .int (nI wa), .int (nI wb)] : List Value).toArray 4 := by rw [hav]
  rw [hE]
  have hl := lv_entry ([.ref mo, .int (nI wa), .int (nI wb)]) (n := 4) (Nat.le_of_ble_eq_true rfl)
  rw [lg_entry_eq]
  generalize (lg_sl ([.ref mo, .int (nI wa), .int (nI wb)]) ++ List.replicate (4 - (lg_sl ([.ref mo, .int (nI wa), .int (nI wb)])).length) Slot.unset).toArray = ls at hl ⊢
  have hl : lv_has ls 4 [(0, .ref mo), (1, .int (nI wa)), (2, .int (nI wb))] := hl
  obtain ⟨p0_b, p0_o, p0_0, p0_1, p0_2, p0_3, p0_4, p0_ne⟩ := id hm
  have ne_o0 : mo ≠ ad 0 := gw_io p0_o p0_0
  have ne_o1 : mo ≠ ad 1 := gw_io p0_o p0_1
  have ne_o2 : mo ≠ ad 2 := gw_io p0_o p0_2
  have ne_o3 : mo ≠ ad 3 := gw_io p0_o p0_3
  have ne_o4 : mo ≠ ad 4 := gw_io p0_o p0_4
  have hl2 : ∀ (z9 : Nat) (i : Nat), i ≤ 48 → 48 + 1 ≤ i + z9 → ∀ (Mi : gw_M), (md K Mi mo ad cd nn kk (mcp tb (414 * wa) (414 * wb) 414) (mcp vb (24 * wa) (24 * wb) 24) (mcp sb (48 * wa) (48 * wb) i) fm tq ∧ mfr M Mi mo ad) → ∀ (H : Heap) (locs : List Loc), gw_B K Mi s.heap H locs → ∀ (ls : Array Slot), lv_has ls 4 [(3, .int (nI i)), (0, .ref mo), (1, .int (nI wa)), (2, .int (nI wb))] → W p l e ({ frames := 0, cells := 0, slots := 0, locals := 0 } : Room) s m args below meth c H locs (0) (0) (MQ below (va_Qv (fun M1 => md K M1 mo ad cd nn kk (mcp tb (414 * wa) (414 * wb) 414) (mcp vb (24 * wa) (24 * wb) 24) (mcp sb (48 * wa) (48 * wb) 48) fm tq ∧ mfr M M1 mo ad) (gw_I K) (gw_A K)) args s 0 0 (gw_A K)) (F0 m 77 ls []) := by
    intro z9
    induction z9 with
    | zero =>
      intro i hg0 hm
      exact absurd hm (by omega)
    | succ z9 ih =>
      intro i hg0 hm Mi hMi H locs hG ls hl
      obtain ⟨hmi, hfi⟩ := hMi
      obtain ⟨p_15_b, p_15_o, p_15_0, p_15_1, p_15_2, p_15_3, p_15_4, p_15_ne⟩ := id hmi
      refine lv_iload_n hx hb dX3_copies_77 rfl (lv_at hl 0 rfl) ?_
      refine lv_bipush (v := nI 48) hx hb dX3_copies_78 (by decide) ?_
      refine gw_icmp_ge hx hb (by omega) (by omega) (tgt := 111) dX3_copies_80 (by decide) (fun hc => ?_) (fun hc => ?_)
      · have e6 : i = 48 := by omega
        rw [e6] at hmi
        exact gw_vret hx hb hr hlocks hG hT (by omega) (by omega) dX3_copies_111 ⟨hmi, hfi⟩
      · refine lv_aload_n hx hb dX3_copies_83 rfl (lv_at hl 1 rfl) ?_
        refine gw_get (ci := 4) (C := RX3) (T := TX3) (N := 8) hx hb hts hinX3 hown hK hG p_15_o rfl 5 (by decide) hf21 (fun _ h9 => h9) rfl dX3_copies_84 ?_
        refine lv_bipush (v := nI 48) hx hb dX3_copies_87 (by decide) ?_
        refine lv_iload_n hx hb dX3_copies_89 rfl (lv_at hl 3 rfl) ?_
        refine gw_imul hx hb dX3_copies_90 ?_
        refine lv_iload_n hx hb dX3_copies_91 rfl (lv_at hl 0 rfl) ?_
        refine gw_iadd hx hb dX3_copies_92 ?_
        refine lv_aload_n hx hb dX3_copies_93 rfl (lv_at hl 1 rfl) ?_
        refine gw_get (ci := 4) (C := RX3) (T := TX3) (N := 8) hx hb hts hinX3 hown hK hG p_15_o rfl 5 (by decide) hf21 (fun _ h9 => h9) rfl dX3_copies_94 ?_
        refine lv_bipush (v := nI 48) hx hb dX3_copies_97 (by decide) ?_
        refine lv_iload_n hx hb dX3_copies_99 rfl (lv_at hl 2 rfl) ?_
        refine gw_imul hx hb dX3_copies_100 ?_
        refine lv_iload_n hx hb dX3_copies_101 rfl (lv_at hl 0 rfl) ?_
        refine gw_iadd hx hb dX3_copies_102 ?_
        refine gw_lald_n hx hb hK hG p_15_2 1 rfl (by omega) (by omega) dX3_copies_103 ?_
        refine gw_last_n hx hb hK hG p_15_2 1 rfl (by omega) (by omega) dX3_copies_104 (fun H locs hG => ?_)
        obtain ⟨M_16, hM_17⟩ : ∃ M1 : gw_M, M1 = gw_up Mi (ad 2) (.inl (K.2.1 1, 5088, .inr (.inl (vp_updL (mcp sb (48 * wa) (48 * wb) i) ((48 * wb) + i) ((mcp sb (48 * wa) (48 * wb) i) ((48 * wa) + i)))))) := ⟨_, rfl⟩
        have hG : gw_B K M_16 s.heap H locs := by rw [hM_17]; exact hG
        have hc_18 := (congrFun hM_17 mo).trans (gw_k ne_o2 p_15_o)
        have hc_19 := (congrFun hM_17 (ad 0)).trans (gw_k (fun z => absurd (p0_ne 0 2 (by decide) (by decide) z) (by decide)) p_15_0)
        have hc_20 := (congrFun hM_17 (ad 1)).trans (gw_k (fun z => absurd (p0_ne 1 2 (by decide) (by decide) z) (by decide)) p_15_1)
        have hc_21 : M_16 (ad 2) = some (.inl (K.2.1 1, 5088, .inr (.inl (vp_updL (mcp sb (48 * wa) (48 * wb) i) ((48 * wb) + i) ((mcp sb (48 * wa) (48 * wb) i) ((48 * wa) + i)))))) := (congrFun hM_17 _).trans gw_s
        have hc_22 := (congrFun hM_17 (ad 3)).trans (gw_k (fun z => absurd (p0_ne 3 2 (by decide) (by decide) z) (by decide)) p_15_3)
        have hc_23 := (congrFun hM_17 (ad 4)).trans (gw_k (fun z => absurd (p0_ne 4 2 (by decide) (by decide) z) (by decide)) p_15_4)
        have fr_24 : mfr M M_16 mo ad := fun q h1 h2 => ((congrFun hM_17 q).trans (gw_n (h2 2 (by decide)))).trans (hfi q h1 h2)
        refine lv_iinc (v := nI (i + 1)) (lv' := [(3, .int (nI (i + 1))), (0, .ref mo), (1, .int (nI wa)), (2, .int (nI wb))]) hx hb dX3_copies_105 hl (k := 0) rfl (gw_inc _) (by decide) rfl (fun ls hl => ?_)
        refine lv_goto (tgt := 77) hx hb dX3_copies_108 (by decide) ?_
        have hm9 : md K M_16 mo ad cd nn kk (mcp tb (414 * wa) (414 * wb) 414) (mcp vb (24 * wa) (24 * wb) 24) (mcp sb (48 * wa) (48 * wb) (i + 1)) fm tq := by rw [← mcp_sl sb _ _ _ (by omega)]; exact ⟨p0_b, hc_18, hc_19, hc_20, hc_21, hc_22, hc_23, p0_ne⟩
        exact ih (i + 1) (by omega) (by omega) _ ⟨hm9, fr_24⟩ _ _ hG ls (lv_sub hl [0, 1, 2, 3] rfl)
  have hl1 : ∀ (z9 : Nat) (i : Nat), i ≤ 24 → 24 + 1 ≤ i + z9 → ∀ (Mi : gw_M), (md K Mi mo ad cd nn kk (mcp tb (414 * wa) (414 * wb) 414) (mcp vb (24 * wa) (24 * wb) i) sb fm tq ∧ mfr M Mi mo ad) → ∀ (H : Heap) (locs : List Loc), gw_B K Mi s.heap H locs → ∀ (ls : Array Slot), lv_has ls 4 [(3, .int (nI i)), (0, .ref mo), (1, .int (nI wa)), (2, .int (nI wb))] → W p l e ({ frames := 0, cells := 0, slots := 0, locals := 0 } : Room) s m args below meth c H locs (0) (0) (MQ below (va_Qv (fun M1 => md K M1 mo ad cd nn kk (mcp tb (414 * wa) (414 * wb) 414) (mcp vb (24 * wa) (24 * wb) 24) (mcp sb (48 * wa) (48 * wb) 48) fm tq ∧ mfr M M1 mo ad) (gw_I K) (gw_A K)) args s 0 0 (gw_A K)) (F0 m 41 ls []) := by
    intro z9
    induction z9 with
    | zero =>
      intro i hg0 hm
      exact absurd hm (by omega)
    | succ z9 ih =>
      intro i hg0 hm Mi hMi H locs hG ls hl
      obtain ⟨hmi, hfi⟩ := hMi
      obtain ⟨p_25_b, p_25_o, p_25_0, p_25_1, p_25_2, p_25_3, p_25_4, p_25_ne⟩ := id hmi
      refine lv_iload_n hx hb dX3_copies_41 rfl (lv_at hl 0 rfl) ?_
      refine lv_bipush (v := nI 24) hx hb dX3_copies_42 (by decide) ?_
      refine gw_icmp_ge hx hb (by omega) (by omega) (tgt := 75) dX3_copies_44 (by decide) (fun hc => ?_) (fun hc => ?_)
      · have e6 : i = 24 := by omega
        rw [e6] at hmi
        refine lv_iconst (v := nI 0) hx hb dX3_copies_75 (by decide) ?_
        refine lv_istore_n (lv' := [(3, .int (nI 0)), (0, .ref mo), (1, .int (nI wa)), (2, .int (nI wb))]) hx hb dX3_copies_76 rfl hl (by decide) rfl (fun ls hl => ?_)
        exact hl2 49 0 (by omega) (by omega) _ ⟨by rw [mcp_0]; exact hmi, hfi⟩ _ _ hG ls (lv_sub hl [0, 1, 2, 3] rfl)
      · refine lv_aload_n hx hb dX3_copies_47 rfl (lv_at hl 1 rfl) ?_
        refine gw_get (ci := 4) (C := RX3) (T := TX3) (N := 8) hx hb hts hinX3 hown hK hG p_25_o rfl 4 (by decide) hf18 (fun _ h9 => h9) rfl dX3_copies_48 ?_
        refine lv_bipush (v := nI 24) hx hb dX3_copies_51 (by decide) ?_
        refine lv_iload_n hx hb dX3_copies_53 rfl (lv_at hl 3 rfl) ?_
        refine gw_imul hx hb dX3_copies_54 ?_
        refine lv_iload_n hx hb dX3_copies_55 rfl (lv_at hl 0 rfl) ?_
        refine gw_iadd hx hb dX3_copies_56 ?_
        refine lv_aload_n hx hb dX3_copies_57 rfl (lv_at hl 1 rfl) ?_
        refine gw_get (ci := 4) (C := RX3) (T := TX3) (N := 8) hx hb hts hinX3 hown hK hG p_25_o rfl 4 (by decide) hf18 (fun _ h9 => h9) rfl dX3_copies_58 ?_
        refine lv_bipush (v := nI 24) hx hb dX3_copies_61 (by decide) ?_
        refine lv_iload_n hx hb dX3_copies_63 rfl (lv_at hl 2 rfl) ?_
        refine gw_imul hx hb dX3_copies_64 ?_
        refine lv_iload_n hx hb dX3_copies_65 rfl (lv_at hl 0 rfl) ?_
        refine gw_iadd hx hb dX3_copies_66 ?_
        refine gw_iald_n hx hb hK hG p_25_1 0 rfl (by omega) (by omega) dX3_copies_67 ?_
        refine gw_iast_n hx hb hK hG p_25_1 0 rfl (by omega) (by omega) dX3_copies_68 (fun H locs hG => ?_)
        obtain ⟨M_26, hM_27⟩ : ∃ M1 : gw_M, M1 = gw_up Mi (ad 1) (.inl (K.2.1 0, 2544, .inl (upd (mcp vb (24 * wa) (24 * wb) i) ((24 * wb) + i) ((mcp vb (24 * wa) (24 * wb) i) ((24 * wa) + i))))) := ⟨_, rfl⟩
        have hG : gw_B K M_26 s.heap H locs := by rw [hM_27]; exact hG
        have hc_28 := (congrFun hM_27 mo).trans (gw_k ne_o1 p_25_o)
        have hc_29 := (congrFun hM_27 (ad 0)).trans (gw_k (fun z => absurd (p0_ne 0 1 (by decide) (by decide) z) (by decide)) p_25_0)
        have hc_30 : M_26 (ad 1) = some (.inl (K.2.1 0, 2544, .inl (upd (mcp vb (24 * wa) (24 * wb) i) ((24 * wb) + i) ((mcp vb (24 * wa) (24 * wb) i) ((24 * wa) + i))))) := (congrFun hM_27 _).trans gw_s
        have hc_31 := (congrFun hM_27 (ad 2)).trans (gw_k (fun z => absurd (p0_ne 2 1 (by decide) (by decide) z) (by decide)) p_25_2)
        have hc_32 := (congrFun hM_27 (ad 3)).trans (gw_k (fun z => absurd (p0_ne 3 1 (by decide) (by decide) z) (by decide)) p_25_3)
        have hc_33 := (congrFun hM_27 (ad 4)).trans (gw_k (fun z => absurd (p0_ne 4 1 (by decide) (by decide) z) (by decide)) p_25_4)
        have fr_34 : mfr M M_26 mo ad := fun q h1 h2 => ((congrFun hM_27 q).trans (gw_n (h2 1 (by decide)))).trans (hfi q h1 h2)
        refine lv_iinc (v := nI (i + 1)) (lv' := [(3, .int (nI (i + 1))), (0, .ref mo), (1, .int (nI wa)), (2, .int (nI wb))]) hx hb dX3_copies_69 hl (k := 0) rfl (gw_inc _) (by decide) rfl (fun ls hl => ?_)
        refine lv_goto (tgt := 41) hx hb dX3_copies_72 (by decide) ?_
        have hm9 : md K M_26 mo ad cd nn kk (mcp tb (414 * wa) (414 * wb) 414) (mcp vb (24 * wa) (24 * wb) (i + 1)) sb fm tq := by rw [← mcp_s vb _ _ _ (by omega)]; exact ⟨p0_b, hc_28, hc_29, hc_30, hc_31, hc_32, hc_33, p0_ne⟩
        exact ih (i + 1) (by omega) (by omega) _ ⟨hm9, fr_34⟩ _ _ hG ls (lv_sub hl [0, 1, 2, 3] rfl)
  have hl0 : ∀ (z9 : Nat) (i : Nat), i ≤ 414 → 414 + 1 ≤ i + z9 → ∀ (Mi : gw_M), (md K Mi mo ad cd nn kk (mcp tb (414 * wa) (414 * wb) i) vb sb fm tq ∧ mfr M Mi mo ad) → ∀ (H : Heap) (locs : List Loc), gw_B K Mi s.heap H locs → ∀ (ls : Array Slot), lv_has ls 4 [(3, .int (nI i)), (0, .ref mo), (1, .int (nI wa)), (2, .int (nI wb))] → W p l e ({ frames := 0, cells := 0, slots := 0, locals := 0 } : Room) s m args below meth c H locs (0) (0) (MQ below (va_Qv (fun M1 => md K M1 mo ad cd nn kk (mcp tb (414 * wa) (414 * wb) 414) (mcp vb (24 * wa) (24 * wb) 24) (mcp sb (48 * wa) (48 * wb) 48) fm tq ∧ mfr M M1 mo ad) (gw_I K) (gw_A K)) args s 0 0 (gw_A K)) (F0 m 2 ls []) := by
    intro z9
    induction z9 with
    | zero =>
      intro i hg0 hm
      exact absurd hm (by omega)
    | succ z9 ih =>
      intro i hg0 hm Mi hMi H locs hG ls hl
      obtain ⟨hmi, hfi⟩ := hMi
      obtain ⟨p_35_b, p_35_o, p_35_0, p_35_1, p_35_2, p_35_3, p_35_4, p_35_ne⟩ := id hmi
      refine lv_iload_n hx hb dX3_copies_2 rfl (lv_at hl 0 rfl) ?_
      refine lv_sipush (v := nI 414) hx hb dX3_copies_3 (by decide) ?_
      refine gw_icmp_ge hx hb (by omega) (by omega) (tgt := 39) dX3_copies_6 (by decide) (fun hc => ?_) (fun hc => ?_)
      · have e6 : i = 414 := by omega
        rw [e6] at hmi
        refine lv_iconst (v := nI 0) hx hb dX3_copies_39 (by decide) ?_
        refine lv_istore_n (lv' := [(3, .int (nI 0)), (0, .ref mo), (1, .int (nI wa)), (2, .int (nI wb))]) hx hb dX3_copies_40 rfl hl (by decide) rfl (fun ls hl => ?_)
        exact hl1 25 0 (by omega) (by omega) _ ⟨by rw [mcp_0]; exact hmi, hfi⟩ _ _ hG ls (lv_sub hl [0, 1, 2, 3] rfl)
      · refine lv_aload_n hx hb dX3_copies_9 rfl (lv_at hl 1 rfl) ?_
        refine gw_get (ci := 4) (C := RX3) (T := TX3) (N := 8) hx hb hts hinX3 hown hK hG p_35_o rfl 3 (by decide) hf14 (fun _ h9 => h9) rfl dX3_copies_10 ?_
        refine lv_sipush (v := nI 414) hx hb dX3_copies_13 (by decide) ?_
        refine lv_iload_n hx hb dX3_copies_16 rfl (lv_at hl 3 rfl) ?_
        refine gw_imul hx hb dX3_copies_17 ?_
        refine lv_iload_n hx hb dX3_copies_18 rfl (lv_at hl 0 rfl) ?_
        refine gw_iadd hx hb dX3_copies_19 ?_
        refine lv_aload_n hx hb dX3_copies_20 rfl (lv_at hl 1 rfl) ?_
        refine gw_get (ci := 4) (C := RX3) (T := TX3) (N := 8) hx hb hts hinX3 hown hK hG p_35_o rfl 3 (by decide) hf14 (fun _ h9 => h9) rfl dX3_copies_21 ?_
        refine lv_sipush (v := nI 414) hx hb dX3_copies_24 (by decide) ?_
        refine lv_iload_n hx hb dX3_copies_27 rfl (lv_at hl 2 rfl) ?_
        refine gw_imul hx hb dX3_copies_28 ?_
        refine lv_iload_n hx hb dX3_copies_29 rfl (lv_at hl 0 rfl) ?_
        refine gw_iadd hx hb dX3_copies_30 ?_
        refine gw_iald_n hx hb hK hG p_35_0 0 rfl (by omega) (by omega) dX3_copies_31 ?_
        refine gw_iast_n hx hb hK hG p_35_0 0 rfl (by omega) (by omega) dX3_copies_32 (fun H locs hG => ?_)
        obtain ⟨M_36, hM_37⟩ : ∃ M1 : gw_M, M1 = gw_up Mi (ad 0) (.inl (K.2.1 0, 43884, .inl (upd (mcp tb (414 * wa) (414 * wb) i) ((414 * wb) + i) ((mcp tb (414 * wa) (414 * wb) i) ((414 * wa) + i))))) := ⟨_, rfl⟩
        have hG : gw_B K M_36 s.heap H locs := by rw [hM_37]; exact hG
        have hc_38 := (congrFun hM_37 mo).trans (gw_k ne_o0 p_35_o)
        have hc_39 : M_36 (ad 0) = some (.inl (K.2.1 0, 43884, .inl (upd (mcp tb (414 * wa) (414 * wb) i) ((414 * wb) + i) ((mcp tb (414 * wa) (414 * wb) i) ((414 * wa) + i))))) := (congrFun hM_37 _).trans gw_s
        have hc_40 := (congrFun hM_37 (ad 1)).trans (gw_k (fun z => absurd (p0_ne 1 0 (by decide) (by decide) z) (by decide)) p_35_1)
        have hc_41 := (congrFun hM_37 (ad 2)).trans (gw_k (fun z => absurd (p0_ne 2 0 (by decide) (by decide) z) (by decide)) p_35_2)
        have hc_42 := (congrFun hM_37 (ad 3)).trans (gw_k (fun z => absurd (p0_ne 3 0 (by decide) (by decide) z) (by decide)) p_35_3)
        have hc_43 := (congrFun hM_37 (ad 4)).trans (gw_k (fun z => absurd (p0_ne 4 0 (by decide) (by decide) z) (by decide)) p_35_4)
        have fr_44 : mfr M M_36 mo ad := fun q h1 h2 => ((congrFun hM_37 q).trans (gw_n (h2 0 (by decide)))).trans (hfi q h1 h2)
        refine lv_iinc (v := nI (i + 1)) (lv' := [(3, .int (nI (i + 1))), (0, .ref mo), (1, .int (nI wa)), (2, .int (nI wb))]) hx hb dX3_copies_33 hl (k := 0) rfl (gw_inc _) (by decide) rfl (fun ls hl => ?_)
        refine lv_goto (tgt := 2) hx hb dX3_copies_36 (by decide) ?_
        have hm9 : md K M_36 mo ad cd nn kk (mcp tb (414 * wa) (414 * wb) (i + 1)) vb sb fm tq := by rw [← mcp_s tb _ _ _ (by omega)]; exact ⟨p0_b, hc_38, hc_39, hc_40, hc_41, hc_42, hc_43, p0_ne⟩
        exact ih (i + 1) (by omega) (by omega) _ ⟨hm9, fr_44⟩ _ _ hG ls (lv_sub hl [0, 1, 2, 3] rfl)
  refine lv_iconst (v := nI 0) hx hb dX3_copies_0 (by decide) ?_
  refine lv_istore_n (lv' := [(3, .int (nI 0)), (0, .ref mo), (1, .int (nI wa)), (2, .int (nI wb))]) hx hb dX3_copies_1 rfl hl (by decide) rfl (fun ls hl => ?_)
  exact hl0 415 0 (by omega) (by omega) _ ⟨by rw [mcp_0]; exact hm, mfr.rf⟩ _ _ hG ls (lv_sub hl [0, 1, 2, 3] rfl)

set_option maxHeartbeats 4000000 in
set_option maxRecDepth 100000 in
/-- c_origin -/
theorem c_origin (l : Launch) (K : gw_C) (M : gw_M) (mo : Nat) (ad : Nat → Nat) (cd : Int32) (nn kk : Nat) (tb vb : Nat → Int32) (sb : Nat → Int64) (fm tq : Nat → Int32) (who row : Nat) (ii : Int32)  (hm : md K M mo ad cd nn kk tb vb sb fm tq) (hwho : who < 106) (hrow : row < 68) : Met l yX3_origin wsX3_origin ({ frames := 1, cells := 0, slots := 0, locals := 30 } : Room) (va_Pc [.ref mo, .int (nI who), .int (nI row), .int ii] (gw_I K M)) (va_Qi (fun r M1 => M1 = M ∧ r = mgo tb (414 * who + 6 + 6 * row) ii 6) (gw_I K) (gw_A K)) 0 0 (gw_A K) := by
  refine Met.ofW (cc := cX3_origin) (maxL := 6) (ret := (some .int)) (by decide) rfl ?_
  intro p e s m args below meth c s₁ B hml hv
  obtain ⟨hav, hI⟩ := hv
  have hx := B.exec
  have hb := B.bytes
  have hr := B.returns
  have hts := atoms_spec (ws := wsX3_origin) B.pre
  have hown : s.vm.findClass RX3 = some m.cls := findClass_of_methodNamed B.named
  have hlocks : meth.locks = false := B.notSynchronized
  have hT := hI.2.2
  have hK := hT.K
  have hG := hI.B
  have hf14 := hts (.fieldLink RX3 14 "DotGossipModel" "table" "[I") (by decide +kernel)
  have hinX3 : ∀ w ∈ wsX30, w ∈ wsX3_origin := by decide +kernel
  have hE : entryFrame m args 6 = entryFrame m ([.ref mo, .int (nI who), .int (nI row), .int ii] : List Value).toArray 6 := by rw [hav]
  rw [hE]
  have hl := lv_entry ([.ref mo, .int (nI who), .int (nI row), .int ii]) (n := 6) (Nat.le_of_ble_eq_true rfl)
  rw [lg_entry_eq]
  generalize (lg_sl ([.ref mo, .int (nI who), .int (nI row), .int ii]) ++ List.replicate (6 - (lg_sl ([.ref mo, .int (nI who), .int (nI row), .int ii])).length) Slot.unset).toArray = ls at hl ⊢
  have hl : lv_has ls 6 [(0, .ref mo), (1, .int (nI who)), (2, .int (nI row)), (3, .int ii)] := hl
  obtain ⟨p0_b, p0_o, p0_0, p0_1, p0_2, p0_3, p0_4, p0_ne⟩ := id hm
  have ne_o0 : mo ≠ ad 0 := gw_io p0_o p0_0
  have ne_o1 : mo ≠ ad 1 := gw_io p0_o p0_1
  have ne_o2 : mo ≠ ad 2 := gw_io p0_o p0_2
  have ne_o3 : mo ≠ ad 3 := gw_io p0_o p0_3
  have ne_o4 : mo ≠ ad 4 := gw_io p0_o p0_4
  by_cases hneg : ii < 0
  · refine lv_iload_n hx hb dX3_origin_0 rfl (lv_at hl 3 rfl) ?_
    refine lv_istore (lv' := [(4, .int ii), (0, .ref mo), (1, .int (nI who)), (2, .int (nI row)), (3, .int ii)]) hx hb dX3_origin_1 hl (by decide) rfl (fun ls hl => ?_)
    refine lv_iconst (v := nI 0) hx hb dX3_origin_3 (by decide) ?_
    refine lv_istore (lv' := [(5, .int (nI 0)), (4, .int ii), (0, .ref mo), (1, .int (nI who)), (2, .int (nI row)), (3, .int ii)]) hx hb dX3_origin_4 hl (by decide) rfl (fun ls hl => ?_)
    refine lv_iload hx hb dX3_origin_6 (lv_at hl 0 rfl) ?_
    refine lv_bipush (v := nI 6) hx hb dX3_origin_8 (by decide) ?_
    refine gw_icmp_ge hx hb (by omega) (by omega) (tgt := 51) dX3_origin_10 (by decide) (fun hc => absurd hc (by decide)) (fun hc => ?_)
    refine lv_iload hx hb dX3_origin_13 (lv_at hl 1 rfl) ?_
    refine lv_if_lt hx hb (tgt := 51) dX3_origin_15 (by decide) (fun hc => ?_) (fun hc => absurd hneg hc)
    refine lv_iconst (v := (-1)) hx hb dX3_origin_51 (by decide) ?_
    exact gw_iret hx hb hr hlocks hG hT (by omega) (by omega) dX3_origin_52 ⟨rfl, (mgo_neg _ _ _ hneg 6 (by omega)).symm⟩
  · obtain ⟨L0, hL0, hii⟩ : ∃ L0, L0 < 2 ^ 31 ∧ ii = nI L0 := nI_of hneg
    have hloop : ∀ (z9 : Nat) (i L : Nat), i ≤ 6 → mgo tb (414 * who + 6 + 6 * row) ii i = -1 → L0 = L + mny tb (414 * who + 6 + 6 * row) i → 6 + 1 ≤ i + z9 → ∀ (Mi : gw_M), Mi = M → ∀ (H : Heap) (locs : List Loc), gw_B K Mi s.heap H locs → ∀ (ls : Array Slot), lv_has ls 6 [(5, .int (nI i)), (4, .int (nI L)), (0, .ref mo), (1, .int (nI who)), (2, .int (nI row))] → W p l e ({ frames := 1, cells := 0, slots := 0, locals := 30 } : Room) s m args below meth c H locs (0) (0) (MQ below (va_Qi (fun r M1 => M1 = M ∧ r = mgo tb (414 * who + 6 + 6 * row) ii 6) (gw_I K) (gw_A K)) args s 0 0 (gw_A K)) (F0 m 6 ls []) := by
      intro z9
      induction z9 with
      | zero =>
        intro i L hg0 hg1 hg2 hm
        exact absurd hm (by omega)
      | succ z9 ih =>
        intro i L hg0 hg1 hg2 hm Mi hMi H locs hG ls hl
        rw [hMi] at hG
        refine lv_iload hx hb dX3_origin_6 (lv_at hl 0 rfl) ?_
        refine lv_bipush (v := nI 6) hx hb dX3_origin_8 (by decide) ?_
        refine gw_icmp_ge hx hb (by omega) (by omega) (tgt := 51) dX3_origin_10 (by decide) (fun hc => ?_) (fun hc => ?_)
        · have e6 : i = 6 := by omega
          rw [e6] at hg1
          refine lv_iconst (v := (-1)) hx hb dX3_origin_51 (by decide) ?_
          exact gw_iret hx hb hr hlocks hG hT (by omega) (by omega) dX3_origin_52 ⟨rfl, hg1.symm⟩
        · refine lv_iload hx hb dX3_origin_13 (lv_at hl 1 rfl) ?_
          refine lv_if_lt hx hb (tgt := 51) dX3_origin_15 (by decide) (fun hc => absurd hc (nI_pos (by omega))) (fun hc => ?_)
          refine lv_aload_n hx hb dX3_origin_18 rfl (lv_at hl 2 rfl) ?_
          refine gw_get (ci := 4) (C := RX3) (T := TX3) (N := 8) hx hb hts hinX3 hown hK hG p0_o rfl 3 (by decide) hf14 (fun _ h9 => h9) rfl dX3_origin_19 ?_
          refine lv_iload_n hx hb dX3_origin_22 rfl (lv_at hl 3 rfl) ?_
          refine lv_iload_n hx hb dX3_origin_23 rfl (lv_at hl 4 rfl) ?_
          refine gw_calli (va_runS (As := [.int (nI who), .int (nI row)]) (rest := [.ref (ad 0)]) ⟨hx, hb, hml, hown, hts⟩ (c_dots l K M who row) (va_cwS 2 hts gX3_origin_X3_dots rfl rfl rfl (by decide +kernel) ⟨Nat.le_of_ble_eq_true rfl, Nat.le_of_ble_eq_true rfl⟩) (gw_preS hG hT) rfl rfl hl.1 rfl (lv_room (Nat.le_of_ble_eq_true rfl)) dX3_origin_24 ⟨Nat.le_of_ble_eq_true rfl, Nat.le_of_ble_eq_true rfl⟩) hG (fun r_45 M_46 H locs hw hG => ?_)
          rw [hw.1] at hG
          refine gw_as hw.2 ?_
          refine lv_iload hx hb dX3_origin_27 (lv_at hl 0 rfl) ?_
          refine gw_iadd hx hb dX3_origin_29 ?_
          refine gw_iald_n hx hb hK hG p0_0 0 rfl (by omega) (by omega) dX3_origin_30 ?_
          refine lv_if_le hx hb (tgt := 45) dX3_origin_31 (by decide) (fun hz => ?_) (fun hz => ?_)
          · have e9 : mny tb (414 * who + 6 + 6 * row) (i + 1) = mny tb (414 * who + 6 + 6 * row) i := by show mny tb (414 * who + 6 + 6 * row) i + (if tb (414 * who + 6 + 6 * row + i) ≤ 0 then 0 else 1) = _; rw [if_pos hz]; rfl
            have e8 : mgo tb (414 * who + 6 + 6 * row) ii (i + 1) = -1 := by show (if mgo tb (414 * who + 6 + 6 * row) ii i = -1 then (if tb (414 * who + 6 + 6 * row + i) ≤ 0 then (-1 : Int32) else _) else _) = -1; rw [if_pos hg1, if_pos hz]
            refine lv_iinc (v := nI (i + 1)) (lv' := [(5, .int (nI (i + 1))), (4, .int (nI L)), (0, .ref mo), (1, .int (nI who)), (2, .int (nI row))]) hx hb dX3_origin_45 hl (k := 0) rfl (gw_inc _) (by decide) rfl (fun ls hl => ?_)
            refine lv_goto (tgt := 6) hx hb dX3_origin_48 (by decide) ?_
            exact ih (i + 1) L (by omega) e8 (by rw [e9]; exact hg2) (by omega) _ rfl _ _ hG ls (lv_sub hl [0, 1, 2, 3, 4] rfl)
          · have e9 : mny tb (414 * who + 6 + 6 * row) (i + 1) = mny tb (414 * who + 6 + 6 * row) i + 1 := by show mny tb (414 * who + 6 + 6 * row) i + (if tb (414 * who + 6 + 6 * row + i) ≤ 0 then 0 else 1) = _; rw [if_neg hz]
            refine lv_iload hx hb dX3_origin_34 (lv_at hl 1 rfl) ?_
            refine lv_if_ne hx hb (tgt := 42) dX3_origin_36 (by decide) (fun hq => ?_) (fun hq => ?_)
            · have hL : 0 < L := Nat.pos_of_ne_zero (fun z => hq (by rw [z]; rfl))
              have e8 : mgo tb (414 * who + 6 + 6 * row) ii (i + 1) = -1 := by show (if mgo tb (414 * who + 6 + 6 * row) ii i = -1 then (if tb (414 * who + 6 + 6 * row + i) ≤ 0 then (-1 : Int32) else if nI (mny tb (414 * who + 6 + 6 * row) i) = ii then nI i else -1) else _) = -1; rw [if_pos hg1, if_neg hz, if_neg (fun z => by rw [hii] at z; have := (nI_eq (by omega) (by omega)).mp z; omega)]
              refine lv_iinc (v := nI (L - 1)) (lv' := [(4, .int (nI (L - 1))), (5, .int (nI i)), (0, .ref mo), (1, .int (nI who)), (2, .int (nI row))]) hx hb dX3_origin_42 hl (k := 1) rfl (gw_decN hL) (by decide) rfl (fun ls hl => ?_)
              refine lv_iinc (v := nI (i + 1)) (lv' := [(5, .int (nI (i + 1))), (4, .int (nI (L - 1))), (0, .ref mo), (1, .int (nI who)), (2, .int (nI row))]) hx hb dX3_origin_45 hl (k := 1) rfl (gw_inc _) (by decide) rfl (fun ls hl => ?_)
              refine lv_goto (tgt := 6) hx hb dX3_origin_48 (by decide) ?_
              exact ih (i + 1) (L - 1) (by omega) e8 (by rw [e9]; omega) (by omega) _ rfl _ _ hG ls (lv_sub hl [0, 1, 2, 3, 4] rfl)
            · have hL : L = 0 := Classical.byContradiction fun z => absurd hq (nI_ne0 (by omega) (by omega))
              have e8 : mgo tb (414 * who + 6 + 6 * row) ii (i + 1) = nI i := by show (if mgo tb (414 * who + 6 + 6 * row) ii i = -1 then (if tb (414 * who + 6 + 6 * row + i) ≤ 0 then (-1 : Int32) else if nI (mny tb (414 * who + 6 + 6 * row) i) = ii then nI i else -1) else _) = nI i; rw [if_pos hg1, if_neg hz, if_pos (by rw [hii, hg2, hL, Nat.zero_add])]
              have e7 : mgo tb (414 * who + 6 + 6 * row) ii 6 = nI i := by have h7 := mgo_stay tb (414 * who + 6 + 6 * row) ii (i + 1) (by rw [e8]; exact nI_ne1 (by omega)) (6 - (i + 1)); rw [e8, show i + 1 + (6 - (i + 1)) = 6 by omega] at h7; exact h7
              refine lv_iload hx hb dX3_origin_39 (lv_at hl 0 rfl) ?_
              exact gw_iret hx hb hr hlocks hG hT (by omega) (by omega) dX3_origin_41 ⟨rfl, e7.symm⟩
    rw [hii] at hl
    refine lv_iload_n hx hb dX3_origin_0 rfl (lv_at hl 3 rfl) ?_
    refine lv_istore (lv' := [(4, .int (nI L0)), (0, .ref mo), (1, .int (nI who)), (2, .int (nI row)), (3, .int (nI L0))]) hx hb dX3_origin_1 hl (by decide) rfl (fun ls hl => ?_)
    refine lv_iconst (v := nI 0) hx hb dX3_origin_3 (by decide) ?_
    refine lv_istore (lv' := [(5, .int (nI 0)), (4, .int (nI L0)), (0, .ref mo), (1, .int (nI who)), (2, .int (nI row)), (3, .int (nI L0))]) hx hb dX3_origin_4 hl (by decide) rfl (fun ls hl => ?_)
    exact hloop 7 0 L0 (by omega) rfl rfl (by omega) _ rfl _ _ hG ls (lv_sub hl [0, 1, 2, 3, 4] rfl)

set_option maxHeartbeats 4000000 in
set_option maxRecDepth 100000 in
/-- c_gone -/
theorem c_gone (l : Launch) (K : gw_C) (M : gw_M) (mo : Nat) (ad : Nat → Nat) (cd : Int32) (nn kk : Nat) (tb vb : Nat → Int32) (sb : Nat → Int64) (fm tq : Nat → Int32) (ii : Nat)  (hm : md K M mo ad cd nn kk tb vb sb fm tq) (hii : ii < kk) : Met l yX3_gone wsX3_gone ({ frames := 2, cells := 0, slots := 0, locals := 60 } : Room) (va_Pc [.ref mo, .int (nI ii)] (gw_I K M)) (va_Qv (fun M1 => md K M1 mo ad cd nn (kk - 1) (msh tb 414 (414 * (6 + ii)) (414 * (kk - 1 - ii))) (msh vb 24 (24 * (6 + ii)) (24 * (kk - 1 - ii))) (msh sb 48 (48 * (6 + ii)) (48 * (kk - 1 - ii))) (msh fm 1 ii (kk - 1 - ii)) (msh tq 1 ii (kk - 1 - ii)) ∧ mfr M M1 mo ad) (gw_I K) (gw_A K)) 0 0 (gw_A K) := by
  refine Met.ofW (cc := cX3_gone) (maxL := 3) (ret := none) (by decide) rfl ?_
  intro p e s m args below meth c s₁ B hml hv
  obtain ⟨hav, hI⟩ := hv
  have hx := B.exec
  have hb := B.bytes
  have hr := B.returns
  have hts := atoms_spec (ws := wsX3_gone) B.pre
  have hown : s.vm.findClass RX3 = some m.cls := findClass_of_methodNamed B.named
  have hlocks : meth.locks = false := B.notSynchronized
  have hT := hI.2.2
  have hK := hT.K
  have hG := hI.B
  have hf14 := hts (.fieldLink RX3 14 "DotGossipModel" "table" "[I") (by decide +kernel)
  have hf18 := hts (.fieldLink RX3 18 "DotGossipModel" "values" "[I") (by decide +kernel)
  have hf21 := hts (.fieldLink RX3 21 "DotGossipModel" "sums" "[J") (by decide +kernel)
  have hf25 := hts (.fieldLink RX3 25 "DotGossipModel" "from" "[I") (by decide +kernel)
  have hf28 := hts (.fieldLink RX3 28 "DotGossipModel" "to" "[I") (by decide +kernel)
  have hf41 := hts (.fieldLink RX3 41 "DotGossipModel" "messages" "I") (by decide +kernel)
  have hinX3 : ∀ w ∈ wsX30, w ∈ wsX3_gone := by decide +kernel
  have hE : entryFrame m args 3 = entryFrame m ([.ref mo, .int (nI ii)] : List Value).toArray 3 := by rw [hav]
  rw [hE]
  have hl := lv_entry ([.ref mo, .int (nI ii)]) (n := 3) (Nat.le_of_ble_eq_true rfl)
  rw [lg_entry_eq]
  generalize (lg_sl ([.ref mo, .int (nI ii)]) ++ List.replicate (3 - (lg_sl ([.ref mo, .int (nI ii)])).length) Slot.unset).toArray = ls at hl ⊢
  have hl : lv_has ls 3 [(0, .ref mo), (1, .int (nI ii))] := hl
  obtain ⟨p0_b, p0_o, p0_0, p0_1, p0_2, p0_3, p0_4, p0_ne⟩ := id hm
  have ne_o0 : mo ≠ ad 0 := gw_io p0_o p0_0
  have ne_o1 : mo ≠ ad 1 := gw_io p0_o p0_1
  have ne_o2 : mo ≠ ad 2 := gw_io p0_o p0_2
  have ne_o3 : mo ≠ ad 3 := gw_io p0_o p0_3
  have ne_o4 : mo ≠ ad 4 := gw_io p0_o p0_4
  have hloop : ∀ (z9 : Nat) (j : Nat), ii + j + 1 ≤ kk → kk + 1 ≤ ii + j + 1 + z9 → ∀ (Mi : gw_M), (md K Mi mo ad cd nn kk (msh tb 414 (414 * (6 + ii)) (414 * j)) (msh vb 24 (24 * (6 + ii)) (24 * j)) (msh sb 48 (48 * (6 + ii)) (48 * j)) (msh fm 1 ii j) (msh tq 1 ii j) ∧ mfr M Mi mo ad) → ∀ (H : Heap) (locs : List Loc), gw_B K Mi s.heap H locs → ∀ (ls : Array Slot), lv_has ls 3 [(2, .int (nI (ii + j))), (0, .ref mo), (1, .int (nI ii))] → W p l e ({ frames := 2, cells := 0, slots := 0, locals := 60 } : Room) s m args below meth c H locs (0) (0) (MQ below (va_Qv (fun M1 => md K M1 mo ad cd nn (kk - 1) (msh tb 414 (414 * (6 + ii)) (414 * (kk - 1 - ii))) (msh vb 24 (24 * (6 + ii)) (24 * (kk - 1 - ii))) (msh sb 48 (48 * (6 + ii)) (48 * (kk - 1 - ii))) (msh fm 1 ii (kk - 1 - ii)) (msh tq 1 ii (kk - 1 - ii)) ∧ mfr M M1 mo ad) (gw_I K) (gw_A K)) args s 0 0 (gw_A K)) (F0 m 2 ls []) := by
    intro z9
    induction z9 with
    | zero =>
      intro j hg0 hm
      exact absurd hm (by omega)
    | succ z9 ih =>
      intro j hg0 hm Mi hMi H locs hG ls hl
      obtain ⟨hmi, hfi⟩ := hMi
      have hk100 := p0_b.2
      obtain ⟨p_47_b, p_47_o, p_47_0, p_47_1, p_47_2, p_47_3, p_47_4, p_47_ne⟩ := id hmi
      refine lv_iload_n hx hb dX3_gone_2 rfl (lv_at hl 0 rfl) ?_
      refine lv_iconst (v := nI 1) hx hb dX3_gone_3 (by decide) ?_
      refine gw_iadd hx hb dX3_gone_4 ?_
      refine lv_aload_n hx hb dX3_gone_5 rfl (lv_at hl 1 rfl) ?_
      refine gw_get (ci := 4) (C := RX3) (T := TX3) (N := 8) hx hb hts hinX3 hown hK hG p_47_o rfl 2 (by decide) hf41 (fun _ h9 => h9) rfl dX3_gone_6 ?_
      refine gw_icmp_ge hx hb (by omega) (by omega) (tgt := 60) dX3_gone_9 (by decide) (fun hc => ?_) (fun hc => ?_)
      · have ej : j = kk - 1 - ii := by omega
        rw [ej] at hmi
        obtain ⟨p_48_b, p_48_o, p_48_0, p_48_1, p_48_2, p_48_3, p_48_4, p_48_ne⟩ := id hmi
        refine lv_aload_n hx hb dX3_gone_60 rfl (lv_at hl 1 rfl) ?_
        refine lv_dup hx hb dX3_gone_61 rfl ?_
        refine gw_get (ci := 4) (C := RX3) (T := TX3) (N := 8) hx hb hts hinX3 hown hK hG p_48_o rfl 2 (by decide) hf41 (fun _ h9 => h9) rfl dX3_gone_62 ?_
        refine lv_iconst (v := nI 1) hx hb dX3_gone_65 (by decide) ?_
        refine gw_isub hx hb (by omega) dX3_gone_66 ?_
        refine gw_put (ci := 4) (v := .int (nI (kk - 1))) (ty := .int) (C := RX3) (T := TX3) (N := 8) hx hb hts hinX3 tyX3 tyX3_ok nmX3 hown hK hG p_48_o rfl 2 (by decide) hf41 (fun _ h9 => h9) rfl (by decide +kernel) rfl rfl (Nat.le_of_ble_eq_true rfl) dX3_gone_67 (fun H locs hG => ?_)
        obtain ⟨M_49, hM_50⟩ : ∃ M1 : gw_M, M1 = gw_up Mi mo (.inr (4, [.int cd, .int (nI nn), .int (nI (kk - 1)), .ref (ad 0), .ref (ad 1), .ref (ad 2), .ref (ad 3), .ref (ad 4)])) := ⟨_, rfl⟩
        have hG : gw_B K M_49 s.heap H locs := by rw [hM_50]; exact hG
        have hc_51 : M_49 mo = some (.inr (4, [.int cd, .int (nI nn), .int (nI (kk - 1)), .ref (ad 0), .ref (ad 1), .ref (ad 2), .ref (ad 3), .ref (ad 4)])) := (congrFun hM_50 _).trans gw_s
        have hc_52 := (congrFun hM_50 (ad 0)).trans (gw_k (Ne.symm ne_o0) p_48_0)
        have hc_53 := (congrFun hM_50 (ad 1)).trans (gw_k (Ne.symm ne_o1) p_48_1)
        have hc_54 := (congrFun hM_50 (ad 2)).trans (gw_k (Ne.symm ne_o2) p_48_2)
        have hc_55 := (congrFun hM_50 (ad 3)).trans (gw_k (Ne.symm ne_o3) p_48_3)
        have hc_56 := (congrFun hM_50 (ad 4)).trans (gw_k (Ne.symm ne_o4) p_48_4)
        have fr_57 : mfr M M_49 mo ad := fun q h1 h2 => ((congrFun hM_50 q).trans (gw_n h1)).trans (hfi q h1 h2)
        exact gw_vret hx hb hr hlocks hG hT (by omega) (by omega) dX3_gone_70 ⟨⟨⟨p0_b.1, by omega⟩, hc_51, hc_52, hc_53, hc_54, hc_55, hc_56, p0_ne⟩, fr_57⟩
      · refine lv_aload_n hx hb dX3_gone_12 rfl (lv_at hl 1 rfl) ?_
        refine lv_bipush (v := nI 6) hx hb dX3_gone_13 (by decide) ?_
        refine lv_iload_n hx hb dX3_gone_15 rfl (lv_at hl 0 rfl) ?_
        refine gw_iadd hx hb dX3_gone_16 ?_
        refine lv_iconst (v := nI 1) hx hb dX3_gone_17 (by decide) ?_
        refine gw_iadd hx hb dX3_gone_18 ?_
        refine lv_bipush (v := nI 6) hx hb dX3_gone_19 (by decide) ?_
        refine lv_iload_n hx hb dX3_gone_21 rfl (lv_at hl 0 rfl) ?_
        refine gw_iadd hx hb dX3_gone_22 ?_
        have hm_58 : md K Mi mo ad cd nn kk (msh tb 414 (414 * (6 + ii)) (414 * j)) (msh vb 24 (24 * (6 + ii)) (24 * j)) (msh sb 48 (48 * (6 + ii)) (48 * j)) (msh fm 1 ii j) (msh tq 1 ii j) := ⟨p0_b, p_47_o, p_47_0, p_47_1, p_47_2, p_47_3, p_47_4, p0_ne⟩
        refine gw_callv (va_runV (As := [.int (nI ((6 + (ii + j)) + 1)), .int (nI (6 + (ii + j)))]) (rest := []) ⟨hx, hb, hml, hown, hts⟩ (c_copies l K Mi mo ad _ _ _ _ _ _ _ _ (6 + (ii + j) + 1) (6 + (ii + j)) hm_58 (by omega) (by omega) (by omega)) (cwV 2 hts gX3_gone_X3_copies rfl rfl rfl (by decide +kernel) ⟨Nat.le_of_ble_eq_true rfl, Nat.le_of_ble_eq_true rfl⟩) (gw_preV hG hT p_47_o rfl) rfl rfl hl.1 rfl (lv_room (Nat.le_of_ble_eq_true rfl)) dX3_gone_23 ⟨Nat.le_of_ble_eq_true rfl, Nat.le_of_ble_eq_true rfl⟩) hG (fun M_60 H locs hw hG => ?_)
        obtain ⟨hm_61, fr_62⟩ := hw
        have fr_63 : mfr M M_60 mo ad := mfr.tr hfi fr_62
        obtain ⟨p_64_b, p_64_o, p_64_0, p_64_1, p_64_2, p_64_3, p_64_4, p_64_ne⟩ := id hm_61
        refine lv_aload_n hx hb dX3_gone_26 rfl (lv_at hl 1 rfl) ?_
        refine gw_get (ci := 4) (C := RX3) (T := TX3) (N := 8) hx hb hts hinX3 hown hK hG p_64_o rfl 6 (by decide) hf25 (fun _ h9 => h9) rfl dX3_gone_27 ?_
        refine lv_iload_n hx hb dX3_gone_30 rfl (lv_at hl 0 rfl) ?_
        refine lv_aload_n hx hb dX3_gone_31 rfl (lv_at hl 1 rfl) ?_
        refine gw_get (ci := 4) (C := RX3) (T := TX3) (N := 8) hx hb hts hinX3 hown hK hG p_64_o rfl 6 (by decide) hf25 (fun _ h9 => h9) rfl dX3_gone_32 ?_
        refine lv_iload_n hx hb dX3_gone_35 rfl (lv_at hl 0 rfl) ?_
        refine lv_iconst (v := nI 1) hx hb dX3_gone_36 (by decide) ?_
        refine gw_iadd hx hb dX3_gone_37 ?_
        refine gw_iald_n hx hb hK hG p_64_3 0 rfl (by omega) (by omega) dX3_gone_38 ?_
        refine gw_iast_n hx hb hK hG p_64_3 0 rfl (by omega) (by omega) dX3_gone_39 (fun H locs hG => ?_)
        obtain ⟨M_65, hM_66⟩ : ∃ M1 : gw_M, M1 = gw_up M_60 (ad 3) (.inl (K.2.1 0, 100, .inl (upd (msh fm 1 ii j) (ii + j) ((msh fm 1 ii j) ((ii + j) + 1))))) := ⟨_, rfl⟩
        have hG : gw_B K M_65 s.heap H locs := by rw [hM_66]; exact hG
        have hc_67 := (congrFun hM_66 mo).trans (gw_k ne_o3 p_64_o)
        have hc_68 := (congrFun hM_66 (ad 0)).trans (gw_k (fun z => absurd (p0_ne 0 3 (by decide) (by decide) z) (by decide)) p_64_0)
        have hc_69 := (congrFun hM_66 (ad 1)).trans (gw_k (fun z => absurd (p0_ne 1 3 (by decide) (by decide) z) (by decide)) p_64_1)
        have hc_70 := (congrFun hM_66 (ad 2)).trans (gw_k (fun z => absurd (p0_ne 2 3 (by decide) (by decide) z) (by decide)) p_64_2)
        have hc_71 : M_65 (ad 3) = some (.inl (K.2.1 0, 100, .inl (upd (msh fm 1 ii j) (ii + j) ((msh fm 1 ii j) ((ii + j) + 1))))) := (congrFun hM_66 _).trans gw_s
        have hc_72 := (congrFun hM_66 (ad 4)).trans (gw_k (fun z => absurd (p0_ne 4 3 (by decide) (by decide) z) (by decide)) p_64_4)
        have fr_73 : mfr M M_65 mo ad := fun q h1 h2 => ((congrFun hM_66 q).trans (gw_n (h2 3 (by decide)))).trans (fr_63 q h1 h2)
        refine lv_aload_n hx hb dX3_gone_40 rfl (lv_at hl 1 rfl) ?_
        refine gw_get (ci := 4) (C := RX3) (T := TX3) (N := 8) hx hb hts hinX3 hown hK hG hc_67 rfl 7 (by decide) hf28 (fun _ h9 => h9) rfl dX3_gone_41 ?_
        refine lv_iload_n hx hb dX3_gone_44 rfl (lv_at hl 0 rfl) ?_
        refine lv_aload_n hx hb dX3_gone_45 rfl (lv_at hl 1 rfl) ?_
        refine gw_get (ci := 4) (C := RX3) (T := TX3) (N := 8) hx hb hts hinX3 hown hK hG hc_67 rfl 7 (by decide) hf28 (fun _ h9 => h9) rfl dX3_gone_46 ?_
        refine lv_iload_n hx hb dX3_gone_49 rfl (lv_at hl 0 rfl) ?_
        refine lv_iconst (v := nI 1) hx hb dX3_gone_50 (by decide) ?_
        refine gw_iadd hx hb dX3_gone_51 ?_
        refine gw_iald_n hx hb hK hG hc_72 0 rfl (by omega) (by omega) dX3_gone_52 ?_
        refine gw_iast_n hx hb hK hG hc_72 0 rfl (by omega) (by omega) dX3_gone_53 (fun H locs hG => ?_)
        obtain ⟨M_74, hM_75⟩ : ∃ M1 : gw_M, M1 = gw_up M_65 (ad 4) (.inl (K.2.1 0, 100, .inl (upd (msh tq 1 ii j) (ii + j) ((msh tq 1 ii j) ((ii + j) + 1))))) := ⟨_, rfl⟩
        have hG : gw_B K M_74 s.heap H locs := by rw [hM_75]; exact hG
        have hc_76 := (congrFun hM_75 mo).trans (gw_k ne_o4 hc_67)
        have hc_77 := (congrFun hM_75 (ad 0)).trans (gw_k (fun z => absurd (p0_ne 0 4 (by decide) (by decide) z) (by decide)) hc_68)
        have hc_78 := (congrFun hM_75 (ad 1)).trans (gw_k (fun z => absurd (p0_ne 1 4 (by decide) (by decide) z) (by decide)) hc_69)
        have hc_79 := (congrFun hM_75 (ad 2)).trans (gw_k (fun z => absurd (p0_ne 2 4 (by decide) (by decide) z) (by decide)) hc_70)
        have hc_80 := (congrFun hM_75 (ad 3)).trans (gw_k (fun z => absurd (p0_ne 3 4 (by decide) (by decide) z) (by decide)) hc_71)
        have hc_81 : M_74 (ad 4) = some (.inl (K.2.1 0, 100, .inl (upd (msh tq 1 ii j) (ii + j) ((msh tq 1 ii j) ((ii + j) + 1))))) := (congrFun hM_75 _).trans gw_s
        have fr_82 : mfr M M_74 mo ad := fun q h1 h2 => ((congrFun hM_75 q).trans (gw_n (h2 4 (by decide)))).trans (fr_73 q h1 h2)
        refine lv_iinc (v := nI ((ii + j) + 1)) (lv' := [(2, .int (nI ((ii + j) + 1))), (0, .ref mo), (1, .int (nI ii))]) hx hb dX3_gone_54 hl (k := 0) rfl (gw_inc _) (by decide) rfl (fun ls hl => ?_)
        refine lv_goto (tgt := 2) hx hb dX3_gone_57 (by decide) ?_
        have hm9 : md K M_74 mo ad cd nn kk (msh tb 414 (414 * (6 + ii)) (414 * (j + 1))) (msh vb 24 (24 * (6 + ii)) (24 * (j + 1))) (msh sb 48 (48 * (6 + ii)) (48 * (j + 1))) (msh fm 1 ii (j + 1)) (msh tq 1 ii (j + 1)) := by
          have e1 := msh_s tb 414 (414 * (6 + ii)) (414 * j)
          have e2 := msh_s vb 24 (24 * (6 + ii)) (24 * j)
          have e3 := msh_s sb 48 (48 * (6 + ii)) (48 * j)
          rw [show 414 * (6 + ii) + 414 * j + 414 = 414 * (6 + (ii + j) + 1) by omega, show 414 * (6 + ii) + 414 * j = 414 * (6 + (ii + j)) by omega, show 414 * j + 414 = 414 * (j + 1) by omega] at e1
          rw [show 24 * (6 + ii) + 24 * j + 24 = 24 * (6 + (ii + j) + 1) by omega, show 24 * (6 + ii) + 24 * j = 24 * (6 + (ii + j)) by omega, show 24 * j + 24 = 24 * (j + 1) by omega] at e2
          rw [show 48 * (6 + ii) + 48 * j + 48 = 48 * (6 + (ii + j) + 1) by omega, show 48 * (6 + ii) + 48 * j = 48 * (6 + (ii + j)) by omega, show 48 * j + 48 = 48 * (j + 1) by omega] at e3
          rw [← e1, ← e2, ← e3, ← msh_1 fm ii j, ← msh_1 tq ii j]
          exact ⟨p0_b, hc_76, hc_77, hc_78, hc_79, hc_80, hc_81, p0_ne⟩
        exact ih (j + 1) (by omega) (by omega) _ ⟨hm9, fr_82⟩ _ _ hG ls (lv_sub hl [0, 1, 2] rfl)
  refine lv_iload_n hx hb dX3_gone_0 rfl (lv_at hl 1 rfl) ?_
  refine lv_istore_n (lv' := [(2, .int (nI ii)), (0, .ref mo), (1, .int (nI ii))]) hx hb dX3_gone_1 rfl hl (by decide) rfl (fun ls hl => ?_)
  exact hloop (kk + 1) 0 (by omega) (by omega) _ ⟨by simp only [Nat.mul_zero, msh_0]; exact hm, mfr.rf⟩ _ _ hG ls (lv_sub hl [0, 1, 2] rfl)
