/-! HOLDING: its picture and its methods' contracts. V = (seen, numbers, written, added, taken) -/
abbrev hV : Type := (Nat → Int32) × (Nat → Int32) × (Nat → Int32) × (Nat → Int64) × (Nat → Int64)
def hd (K : gw_C) (M : gw_M) (h : Nat) (ad : Nat → Nat) (V : hV) : Prop :=
  M h = some (.inr (1, [.ref (ad 0), .ref (ad 1), .ref (ad 2), .ref (ad 3), .ref (ad 4)])) ∧ M (ad 0) = some (.inl (K.2.1 0, 6, .inl V.1)) ∧ M (ad 1) = some (.inl (K.2.1 0, 408, .inl V.2.1)) ∧ M (ad 2) = some (.inl (K.2.1 0, 24, .inl V.2.2.1)) ∧ M (ad 3) = some (.inl (K.2.1 1, 24, .inr (.inl V.2.2.2.1))) ∧ M (ad 4) = some (.inl (K.2.1 1, 24, .inr (.inl V.2.2.2.2))) ∧ ∀ i j, i < 5 → j < 5 → ad i = ad j → i = j
/-- how many dots a place has, among the first k makers -/
def dcnt (f : Nat → Int32) (pl : Nat) : Nat → Nat
  | 0 => 0
  | k + 1 => dcnt f pl k + (if f (pl * 6 + k) = 0 then 0 else 1)
theorem dcnt_le (f : Nat → Int32) (pl k : Nat) : dcnt f pl k ≤ k := by
  induction k with
  | zero => exact Nat.le_refl 0
  | succ k ih =>
    show dcnt f pl k + (if f (pl * 6 + k) = 0 then 0 else 1) ≤ k + 1
    split <;> omega
theorem gw_io {M : gw_M} {a b : Nat} {o : Nat × List Value} {x : ClassId × vp_A} (ha : M a = some (.inr o)) (hb : M b = some (.inl x)) : a ≠ b := fun z => by
  rw [z, hb] at ha
  cases ha
/-- nothing but the arrays at ad has changed -/
def hfr (M M1 : gw_M) (ad : Nat → Nat) : Prop := ∀ q, (∀ i, i < 5 → q ≠ ad i) → M1 q = M q
theorem hfr.rf {M : gw_M} {ad : Nat → Nat} : hfr M M ad := fun _ _ => rfl
theorem hfr.tr {M M1 M2 : gw_M} {ad : Nat → Nat} (h1 : hfr M M1 ad) (h2 : hfr M1 M2 ad) : hfr M M2 ad := fun q hq => (h2 q hq).trans (h1 q hq)
/-- a place's first i numbers made 0 -/
def hclr (f : Nat → Int32) (pl i : Nat) : Nat → Int32 := fun j => if pl * 6 ≤ j ∧ j < pl * 6 + i then 0 else f j
theorem hclr_0 (f : Nat → Int32) (pl : Nat) : hclr f pl 0 = f := by
  funext j
  unfold hclr
  rw [if_neg (by omega)]
theorem hclr_s (f : Nat → Int32) (pl i : Nat) : upd (hclr f pl i) (pl * 6 + i) (nI 0) = hclr f pl (i + 1) := by
  funext j
  unfold upd hclr
  by_cases h : j = pl * 6 + i
  · rw [if_pos h, if_pos (by omega)]; rfl
  · rw [if_neg h]
    by_cases h2 : pl * 6 ≤ j ∧ j < pl * 6 + i
    · rw [if_pos h2, if_pos (by omega)]
    · rw [if_neg h2, if_neg (by omega)]
/-- which maker's dot is the one at place ii, among the first k: -1 where there is none -/
def mko (f : Nat → Int32) (pl : Nat) (ii : Int32) : Nat → Int32
  | 0 => -1
  | k + 1 => if mko f pl ii k = -1 then (if f (pl * 6 + k) = 0 then -1 else if nI (dcnt f pl k) = ii then nI k else -1) else mko f pl ii k
theorem mko_stay (f : Nat → Int32) (pl : Nat) (ii : Int32) (k : Nat) (h : mko f pl ii k ≠ -1) : ∀ j, mko f pl ii (k + j) = mko f pl ii k := by
  intro j
  induction j with
  | zero => rfl
  | succ j ih =>
    show (if mko f pl ii (k + j) = -1 then _ else mko f pl ii (k + j)) = _
    rw [ih, if_neg h]
theorem nI_ne1 {k : Nat} (h : k < 2 ^ 31) : nI k ≠ -1 := fun q => by
  have := nI_toInt h
  rw [q] at this
  have e : (-1 : Int32).toInt = -1 := by decide
  omega
/-- a counter's value, of the first k replicas -/
def wsum (f g : Nat → Int64) (ct : Nat) : Nat → Int64
  | 0 => 0
  | k + 1 => wsum f g ct k + (f (ct * 6 + k) - g (ct * 6 + k))
set_option maxHeartbeats 4000000 in
set_option maxRecDepth 100000 in
/-- dotsAt: how many -/
theorem c_dotsAt (l : Launch) (K : gw_C) (M : gw_M) (h : Nat) (ad : Nat → Nat) (V : hV) (pl : Nat) (hh : hd K M h ad V) (hp : pl < 68) : Met l yX0_dotsAt wsX0_dotsAt ({ frames := 0, cells := 0, slots := 0, locals := 0 } : Room) (va_Pc [.ref h, .int (nI pl)] (gw_I K M)) (va_Qi (fun r M1 => M1 = M ∧ r = nI (dcnt V.2.1 pl 6)) (gw_I K) (gw_A K)) 0 0 (gw_A K) := by
  refine Met.ofW (cc := cX0_dotsAt) (maxL := 4) (ret := (some .int)) (by decide) rfl ?_
  intro p e s m args below meth c s₁ B hml hv
  obtain ⟨hav, hI⟩ := hv
  have hx := B.exec
  have hb := B.bytes
  have hr := B.returns
  have hts := atoms_spec (ws := wsX0_dotsAt) B.pre
  have hown : s.vm.findClass RX0 = some m.cls := findClass_of_methodNamed B.named
  have hlocks : meth.locks = false := B.notSynchronized
  have hT := hI.2.2
  have hK := hT.K
  have hG := hI.B
  have hf15 := hts (.fieldLink RX0 15 "DotGossip$Holding" "numbers" "[I") (by decide +kernel)
  have hinX0 : ∀ w ∈ wsX00, w ∈ wsX0_dotsAt := by decide +kernel
  have hE : entryFrame m args 4 = entryFrame m ([.ref h, .int (nI pl)] : List Value).toArray 4 := by rw [hav]
  rw [hE]
  have hl := lv_entry ([.ref h, .int (nI pl)]) (n := 4) (Nat.le_of_ble_eq_true rfl)
  rw [lg_entry_eq]
  generalize (lg_sl ([.ref h, .int (nI pl)]) ++ List.replicate (4 - (lg_sl ([.ref h, .int (nI pl)])).length) Slot.unset).toArray = ls at hl ⊢
  have hl : lv_has ls 4 [(0, .ref h), (1, .int (nI pl))] := hl
  obtain ⟨h_0, h_s, h_n, h_w, h_a, h_t, h_ne⟩ := id hh
  have hloop : ∀ (n : Nat) (i : Nat), i ≤ 6 → 6 + 1 ≤ i + n → ∀ (ls : Array Slot), lv_has ls 4 [(3, .int (nI i)), (2, .int (nI (dcnt V.2.1 pl i))), (0, .ref h), (1, .int (nI pl))] → W p l e ({ frames := 0, cells := 0, slots := 0, locals := 0 } : Room) s m args below meth c s.heap [] 0 0 (MQ below (va_Qi (fun r M1 => M1 = M ∧ r = nI (dcnt V.2.1 pl 6)) (gw_I K) (gw_A K)) args s 0 0 (gw_A K)) (F0 m 4 ls []) := by
    intro n
    induction n with
    | zero =>
      intro i hg0 hm
      exact absurd hm (by omega)
    | succ n ih =>
      intro i hg0 hm ls hl
      have hd9 := dcnt_le V.2.1 pl i
      refine lv_iload_n hx hb dX0_dotsAt_4 rfl (lv_at hl 0 rfl) ?_
      refine lv_bipush (v := nI 6) hx hb dX0_dotsAt_5 (by decide) ?_
      refine gw_icmp_ge hx hb (by omega) (by omega) (tgt := 33) dX0_dotsAt_7 (by decide) (fun hc => ?_) (fun hc => ?_)
      · obtain rfl : i = 6 := by omega
        refine lv_iload_n hx hb dX0_dotsAt_33 rfl (lv_at hl 1 rfl) ?_
        exact gw_iret hx hb hr hlocks hG hT (by omega) (by omega) dX0_dotsAt_34 ⟨rfl, rfl⟩
      · refine lv_aload_n hx hb dX0_dotsAt_10 rfl (lv_at hl 2 rfl) ?_
        refine gw_get (ci := 1) (C := RX0) (T := TX0) (N := 5) hx hb hts hinX0 hown hK hG h_0 rfl 1 (by decide) hf15 (fun _ h9 => h9) rfl dX0_dotsAt_11 ?_
        refine lv_iload_n hx hb dX0_dotsAt_14 rfl (lv_at hl 3 rfl) ?_
        refine lv_bipush (v := nI 6) hx hb dX0_dotsAt_15 (by decide) ?_
        refine gw_imul hx hb dX0_dotsAt_17 ?_
        refine lv_iload_n hx hb dX0_dotsAt_18 rfl (lv_at hl 0 rfl) ?_
        refine gw_iadd hx hb dX0_dotsAt_19 ?_
        refine gw_iald_n hx hb hK hG h_n 0 rfl (by omega) (by omega) dX0_dotsAt_20 ?_
        refine lv_if_eq hx hb (tgt := 27) dX0_dotsAt_21 (by decide) (fun hz => ?_) (fun hz => ?_)
        · have e9 : dcnt V.2.1 pl (i + 1) = dcnt V.2.1 pl i := by simp [dcnt, hz]
          refine lv_iinc (v := nI (i + 1)) (lv' := [(3, .int (nI (i + 1))), (2, .int (nI (dcnt V.2.1 pl i))), (0, .ref h), (1, .int (nI pl))]) hx hb dX0_dotsAt_27 hl (k := 0) rfl (gw_inc _) (by decide) rfl (fun ls hl => ?_)
          refine lv_goto (tgt := 4) hx hb dX0_dotsAt_30 (by decide) ?_
          rw [← e9] at hl
          exact ih (i + 1) (by omega) (by omega) ls (lv_sub hl [0, 1, 2, 3] rfl)
        · have e9 : dcnt V.2.1 pl (i + 1) = dcnt V.2.1 pl i + 1 := by simp [dcnt, hz]
          refine lv_iinc (v := nI ((dcnt V.2.1 pl i) + 1)) (lv' := [(2, .int (nI ((dcnt V.2.1 pl i) + 1))), (3, .int (nI i)), (0, .ref h), (1, .int (nI pl))]) hx hb dX0_dotsAt_24 hl (k := 1) rfl (gw_inc _) (by decide) rfl (fun ls hl => ?_)
          refine lv_iinc (v := nI (i + 1)) (lv' := [(3, .int (nI (i + 1))), (2, .int (nI ((dcnt V.2.1 pl i) + 1))), (0, .ref h), (1, .int (nI pl))]) hx hb dX0_dotsAt_27 hl (k := 1) rfl (gw_inc _) (by decide) rfl (fun ls hl => ?_)
          refine lv_goto (tgt := 4) hx hb dX0_dotsAt_30 (by decide) ?_
          rw [← e9] at hl
          exact ih (i + 1) (by omega) (by omega) ls (lv_sub hl [0, 1, 2, 3] rfl)
  refine lv_iconst (v := nI 0) hx hb dX0_dotsAt_0 (by decide) ?_
  refine lv_istore_n (lv' := [(2, .int (nI 0)), (0, .ref h), (1, .int (nI pl))]) hx hb dX0_dotsAt_1 rfl hl (by decide) rfl (fun ls hl => ?_)
  refine lv_iconst (v := nI 0) hx hb dX0_dotsAt_2 (by decide) ?_
  refine lv_istore_n (lv' := [(3, .int (nI 0)), (2, .int (nI 0)), (0, .ref h), (1, .int (nI pl))]) hx hb dX0_dotsAt_3 rfl hl (by decide) rfl (fun ls hl => ?_)
  exact hloop 7 0 (by omega) (by omega) ls (lv_sub hl [0, 1, 2, 3] rfl)

set_option maxHeartbeats 4000000 in
set_option maxRecDepth 100000 in
/-- makeDot: the next number -/
theorem c_makeDot (l : Launch) (K : gw_C) (M : gw_M) (h : Nat) (ad : Nat → Nat) (V : hV) (pl mk : Nat) (hh : hd K M h ad V) (hp : pl < 68) (hk : mk < 6) : Met l yX0_makeDot wsX0_makeDot ({ frames := 0, cells := 0, slots := 0, locals := 0 } : Room) (va_Pc [.ref h, .int (nI pl), .int (nI mk)] (gw_I K M)) (va_Qi (fun r M1 => r = V.1 mk + nI 1 ∧ hd K M1 h ad (upd V.1 mk (V.1 mk + nI 1), upd V.2.1 (pl * 6 + mk) (V.1 mk + nI 1), V.2.2) ∧ hfr M M1 ad) (gw_I K) (gw_A K)) 0 0 (gw_A K) := by
  refine Met.ofW (cc := cX0_makeDot) (maxL := 3) (ret := (some .int)) (by decide) rfl ?_
  intro p e s m args below meth c s₁ B hml hv
  obtain ⟨hav, hI⟩ := hv
  have hx := B.exec
  have hb := B.bytes
  have hr := B.returns
  have hts := atoms_spec (ws := wsX0_makeDot) B.pre
  have hown : s.vm.findClass RX0 = some m.cls := findClass_of_methodNamed B.named
  have hlocks : meth.locks = false := B.notSynchronized
  have hT := hI.2.2
  have hK := hT.K
  have hG := hI.B
  have hf9 := hts (.fieldLink RX0 9 "DotGossip$Holding" "seen" "[I") (by decide +kernel)
  have hf15 := hts (.fieldLink RX0 15 "DotGossip$Holding" "numbers" "[I") (by decide +kernel)
  have hinX0 : ∀ w ∈ wsX00, w ∈ wsX0_makeDot := by decide +kernel
  have hE : entryFrame m args 3 = entryFrame m ([.ref h, .int (nI pl), .int (nI mk)] : List Value).toArray 3 := by rw [hav]
  rw [hE]
  have hl := lv_entry ([.ref h, .int (nI pl), .int (nI mk)]) (n := 3) (Nat.le_of_ble_eq_true rfl)
  rw [lg_entry_eq]
  generalize (lg_sl ([.ref h, .int (nI pl), .int (nI mk)]) ++ List.replicate (3 - (lg_sl ([.ref h, .int (nI pl), .int (nI mk)])).length) Slot.unset).toArray = ls at hl ⊢
  have hl : lv_has ls 3 [(0, .ref h), (1, .int (nI pl)), (2, .int (nI mk))] := hl
  obtain ⟨h_0, h_s, h_n, h_w, h_a, h_t, h_ne⟩ := id hh
  have hne_1 : h ≠ ad 0 := (gw_io h_0 h_s)
  have hne_2 : h ≠ ad 1 := (gw_io h_0 h_n)
  have hne_3 : ad 0 ≠ ad 1 := (fun z => absurd (h_ne 0 1 (by decide) (by decide) z) (by decide))
  have hne_4 : ad 1 ≠ ad 0 := (fun z => absurd (h_ne 1 0 (by decide) (by decide) z) (by decide))
  have hne_5 : ad 2 ≠ ad 0 := (fun z => absurd (h_ne 2 0 (by decide) (by decide) z) (by decide))
  have hne_6 : ad 2 ≠ ad 1 := (fun z => absurd (h_ne 2 1 (by decide) (by decide) z) (by decide))
  have hne_7 : ad 3 ≠ ad 0 := (fun z => absurd (h_ne 3 0 (by decide) (by decide) z) (by decide))
  have hne_8 : ad 3 ≠ ad 1 := (fun z => absurd (h_ne 3 1 (by decide) (by decide) z) (by decide))
  have hne_9 : ad 4 ≠ ad 0 := (fun z => absurd (h_ne 4 0 (by decide) (by decide) z) (by decide))
  have hne_10 : ad 4 ≠ ad 1 := (fun z => absurd (h_ne 4 1 (by decide) (by decide) z) (by decide))
  refine lv_aload_n hx hb dX0_makeDot_0 rfl (lv_at hl 0 rfl) ?_
  refine gw_get (ci := 1) (C := RX0) (T := TX0) (N := 5) hx hb hts hinX0 hown hK hG h_0 rfl 0 (by decide) hf9 (fun _ h9 => h9) rfl dX0_makeDot_1 ?_
  refine lv_iload_n hx hb dX0_makeDot_4 rfl (lv_at hl 2 rfl) ?_
  refine lv_dup2_11 hx hb dX0_makeDot_5 rfl rfl ?_
  refine gw_iald_n hx hb hK hG h_s 0 rfl (by omega) (by omega) dX0_makeDot_6 ?_
  refine lv_iconst (v := nI 1) hx hb dX0_makeDot_7 (by decide) ?_
  refine lv_iadd hx hb dX0_makeDot_8 ?_
  refine gw_iast_n hx hb hK hG h_s 0 rfl (by omega) (by omega) dX0_makeDot_9 (fun H locs hG => ?_)
  obtain ⟨M_11, hM_12⟩ : ∃ M1 : gw_M, M1 = gw_up M (ad 0) (.inl (K.2.1 0, 6, .inl (upd V.1 mk ((V.1 mk) + (nI 1))))) := ⟨_, rfl⟩
  have hG : gw_B K M_11 s.heap H locs := by rw [hM_12]; exact hG
  have hc_13 := (congrFun hM_12 h).trans (gw_k hne_1 h_0)
  have hc_14 : M_11 (ad 0) = some (.inl (K.2.1 0, 6, .inl (upd V.1 mk ((V.1 mk) + (nI 1))))) := (congrFun hM_12 _).trans gw_s
  have hc_15 := (congrFun hM_12 (ad 1)).trans (gw_k hne_4 h_n)
  have hc_16 := (congrFun hM_12 (ad 2)).trans (gw_k hne_5 h_w)
  have hc_17 := (congrFun hM_12 (ad 3)).trans (gw_k hne_7 h_a)
  have hc_18 := (congrFun hM_12 (ad 4)).trans (gw_k hne_9 h_t)
  refine lv_aload_n hx hb dX0_makeDot_10 rfl (lv_at hl 0 rfl) ?_
  refine gw_get (ci := 1) (C := RX0) (T := TX0) (N := 5) hx hb hts hinX0 hown hK hG hc_13 rfl 1 (by decide) hf15 (fun _ h9 => h9) rfl dX0_makeDot_11 ?_
  refine lv_iload_n hx hb dX0_makeDot_14 rfl (lv_at hl 1 rfl) ?_
  refine lv_bipush (v := nI 6) hx hb dX0_makeDot_15 (by decide) ?_
  refine gw_imul hx hb dX0_makeDot_17 ?_
  refine lv_iload_n hx hb dX0_makeDot_18 rfl (lv_at hl 2 rfl) ?_
  refine gw_iadd hx hb dX0_makeDot_19 ?_
  refine lv_aload_n hx hb dX0_makeDot_20 rfl (lv_at hl 0 rfl) ?_
  refine gw_get (ci := 1) (C := RX0) (T := TX0) (N := 5) hx hb hts hinX0 hown hK hG hc_13 rfl 0 (by decide) hf9 (fun _ h9 => h9) rfl dX0_makeDot_21 ?_
  refine lv_iload_n hx hb dX0_makeDot_24 rfl (lv_at hl 2 rfl) ?_
  refine gw_iald_n hx hb hK hG hc_14 0 rfl (by omega) (by omega) dX0_makeDot_25 ?_
  refine gw_as pk_us ?_
  refine gw_iast_n hx hb hK hG hc_15 0 rfl (by omega) (by omega) dX0_makeDot_26 (fun H locs hG => ?_)
  obtain ⟨M_19, hM_20⟩ : ∃ M1 : gw_M, M1 = gw_up M_11 (ad 1) (.inl (K.2.1 0, 408, .inl (upd V.2.1 ((pl * 6) + mk) (V.1 mk + nI 1)))) := ⟨_, rfl⟩
  have hG : gw_B K M_19 s.heap H locs := by rw [hM_20]; exact hG
  have hc_21 := (congrFun hM_20 h).trans (gw_k hne_2 hc_13)
  have hc_22 := (congrFun hM_20 (ad 0)).trans (gw_k hne_3 hc_14)
  have hc_23 : M_19 (ad 1) = some (.inl (K.2.1 0, 408, .inl (upd V.2.1 ((pl * 6) + mk) (V.1 mk + nI 1)))) := (congrFun hM_20 _).trans gw_s
  have hc_24 := (congrFun hM_20 (ad 2)).trans (gw_k hne_6 hc_16)
  have hc_25 := (congrFun hM_20 (ad 3)).trans (gw_k hne_8 hc_17)
  have hc_26 := (congrFun hM_20 (ad 4)).trans (gw_k hne_10 hc_18)
  refine lv_aload_n hx hb dX0_makeDot_27 rfl (lv_at hl 0 rfl) ?_
  refine gw_get (ci := 1) (C := RX0) (T := TX0) (N := 5) hx hb hts hinX0 hown hK hG hc_21 rfl 0 (by decide) hf9 (fun _ h9 => h9) rfl dX0_makeDot_28 ?_
  refine lv_iload_n hx hb dX0_makeDot_31 rfl (lv_at hl 2 rfl) ?_
  refine gw_iald_n hx hb hK hG hc_22 0 rfl (by omega) (by omega) dX0_makeDot_32 ?_
  refine gw_as pk_us ?_
  exact gw_iret hx hb hr hlocks hG hT (by omega) (by omega) dX0_makeDot_33 ⟨rfl, ⟨hc_21, hc_22, hc_23, hc_24, hc_25, hc_26, h_ne⟩, fun q hq => by rw [hM_20, gw_n (hq 1 (by decide)), hM_12, gw_n (hq 0 (by decide))]⟩

set_option maxHeartbeats 4000000 in
set_option maxRecDepth 100000 in
/-- forget: the place has no dots behind it -/
theorem c_forget (l : Launch) (K : gw_C) (M : gw_M) (h : Nat) (ad : Nat → Nat) (V : hV) (pl : Nat) (hh : hd K M h ad V) (hp : pl < 68) : Met l yX0_forget wsX0_forget ({ frames := 1, cells := 0, slots := 0, locals := 23 } : Room) (va_Pc [.ref h, .int (nI pl)] (gw_I K M)) (va_Qi (fun r M1 => r = nI (dcnt V.2.1 pl 6) ∧ hd K M1 h ad (V.1, hclr V.2.1 pl 6, V.2.2) ∧ hfr M M1 ad) (gw_I K) (gw_A K)) 0 0 (gw_A K) := by
  refine Met.ofW (cc := cX0_forget) (maxL := 4) (ret := (some .int)) (by decide) rfl ?_
  intro p e s m args below meth c s₁ B hml hv
  obtain ⟨hav, hI⟩ := hv
  have hx := B.exec
  have hb := B.bytes
  have hr := B.returns
  have hts := atoms_spec (ws := wsX0_forget) B.pre
  have hown : s.vm.findClass RX0 = some m.cls := findClass_of_methodNamed B.named
  have hlocks : meth.locks = false := B.notSynchronized
  have hT := hI.2.2
  have hK := hT.K
  have hG := hI.B
  have hf15 := hts (.fieldLink RX0 15 "DotGossip$Holding" "numbers" "[I") (by decide +kernel)
  have hinX0 : ∀ w ∈ wsX00, w ∈ wsX0_forget := by decide +kernel
  have hE : entryFrame m args 4 = entryFrame m ([.ref h, .int (nI pl)] : List Value).toArray 4 := by rw [hav]
  rw [hE]
  have hl := lv_entry ([.ref h, .int (nI pl)]) (n := 4) (Nat.le_of_ble_eq_true rfl)
  rw [lg_entry_eq]
  generalize (lg_sl ([.ref h, .int (nI pl)]) ++ List.replicate (4 - (lg_sl ([.ref h, .int (nI pl)])).length) Slot.unset).toArray = ls at hl ⊢
  have hl : lv_has ls 4 [(0, .ref h), (1, .int (nI pl))] := hl
  obtain ⟨h_0, h_s, h_n, h_w, h_a, h_t, h_ne⟩ := id hh
  have hne_27 : h ≠ ad 1 := (gw_io h_0 h_n)
  have hne_28 : ad 0 ≠ ad 1 := (fun z => absurd (h_ne 0 1 (by decide) (by decide) z) (by decide))
  have hne_29 : ad 2 ≠ ad 1 := (fun z => absurd (h_ne 2 1 (by decide) (by decide) z) (by decide))
  have hne_30 : ad 3 ≠ ad 1 := (fun z => absurd (h_ne 3 1 (by decide) (by decide) z) (by decide))
  have hne_31 : ad 4 ≠ ad 1 := (fun z => absurd (h_ne 4 1 (by decide) (by decide) z) (by decide))
  refine lv_aload_n hx hb dX0_forget_0 rfl (lv_at hl 0 rfl) ?_
  refine lv_iload_n hx hb dX0_forget_1 rfl (lv_at hl 1 rfl) ?_
  refine gw_calli (va_runV (As := [.int (nI pl)]) (rest := []) ⟨hx, hb, hml, hown, hts⟩ (c_dotsAt l K M h ad V pl hh hp) (cwV 1 hts gX0_forget_X0_dotsAt rfl rfl rfl (by decide +kernel) ⟨Nat.le_of_ble_eq_true rfl, Nat.le_of_ble_eq_true rfl⟩) (gw_preV hG hT h_0 rfl) rfl rfl hl.1 rfl (lv_room (Nat.le_of_ble_eq_true rfl)) dX0_forget_2 ⟨Nat.le_of_ble_eq_true rfl, Nat.le_of_ble_eq_true rfl⟩) hG (fun r_32 M_33 H locs hw hG => ?_)
  rw [hw.1] at hG
  refine gw_as hw.2 ?_
  have hloop : ∀ (n : Nat) (i : Nat), i ≤ 6 → 6 + 1 ≤ i + n → ∀ (Mi : gw_M), Mi = gw_up M (ad 1) (.inl (K.2.1 0, 408, .inl (hclr V.2.1 pl i))) → ∀ (H : Heap) (locs : List Loc), gw_B K Mi s.heap H locs → ∀ (ls : Array Slot), lv_has ls 4 [(3, .int (nI i)), (2, .int (nI (dcnt V.2.1 pl 6))), (0, .ref h), (1, .int (nI pl))] → W p l e ({ frames := 1, cells := 0, slots := 0, locals := 23 } : Room) s m args below meth c H locs 0 0 (MQ below (va_Qi (fun r M1 => r = nI (dcnt V.2.1 pl 6) ∧ hd K M1 h ad (V.1, hclr V.2.1 pl 6, V.2.2) ∧ hfr M M1 ad) (gw_I K) (gw_A K)) args s 0 0 (gw_A K)) (F0 m 8 ls []) := by
    intro n
    induction n with
    | zero =>
      intro i hg0 hm
      exact absurd hm (by omega)
    | succ n ih =>
      intro i hg0 hm Mi hMi H locs hG ls hl
      have hc_34 := (congrFun hMi h).trans (gw_k hne_27 h_0)
      have hc_35 := (congrFun hMi (ad 0)).trans (gw_k hne_28 h_s)
      have hc_36 := (congrFun hMi (ad 1)).trans gw_s
      have hc_37 := (congrFun hMi (ad 2)).trans (gw_k hne_29 h_w)
      have hc_38 := (congrFun hMi (ad 3)).trans (gw_k hne_30 h_a)
      have hc_39 := (congrFun hMi (ad 4)).trans (gw_k hne_31 h_t)
      refine lv_iload_n hx hb dX0_forget_8 rfl (lv_at hl 0 rfl) ?_
      refine lv_bipush (v := nI 6) hx hb dX0_forget_9 (by decide) ?_
      refine gw_icmp_ge hx hb (by omega) (by omega) (tgt := 32) dX0_forget_11 (by decide) (fun hc => ?_) (fun hc => ?_)
      · obtain rfl : i = 6 := by omega
        refine lv_iload_n hx hb dX0_forget_32 rfl (lv_at hl 1 rfl) ?_
        exact gw_iret hx hb hr hlocks hG hT (by omega) (by omega) dX0_forget_33 ⟨rfl, ⟨hc_34, hc_35, hc_36, hc_37, hc_38, hc_39, h_ne⟩, fun q hq => by rw [hMi, gw_n (hq 1 (by decide))]⟩
      · refine lv_aload_n hx hb dX0_forget_14 rfl (lv_at hl 2 rfl) ?_
        refine gw_get (ci := 1) (C := RX0) (T := TX0) (N := 5) hx hb hts hinX0 hown hK hG hc_34 rfl 1 (by decide) hf15 (fun _ h9 => h9) rfl dX0_forget_15 ?_
        refine lv_iload_n hx hb dX0_forget_18 rfl (lv_at hl 3 rfl) ?_
        refine lv_bipush (v := nI 6) hx hb dX0_forget_19 (by decide) ?_
        refine gw_imul hx hb dX0_forget_21 ?_
        refine lv_iload_n hx hb dX0_forget_22 rfl (lv_at hl 0 rfl) ?_
        refine gw_iadd hx hb dX0_forget_23 ?_
        refine lv_iconst (v := nI 0) hx hb dX0_forget_24 (by decide) ?_
        refine gw_iast_n hx hb hK hG hc_36 0 rfl (by omega) (by omega) dX0_forget_25 (fun H locs hG => ?_)
        obtain ⟨M_40, hM_41⟩ : ∃ M1 : gw_M, M1 = gw_up Mi (ad 1) (.inl (K.2.1 0, 408, .inl (upd (hclr V.2.1 pl i) ((pl * 6) + i) (nI 0)))) := ⟨_, rfl⟩
        have hG : gw_B K M_40 s.heap H locs := by rw [hM_41]; exact hG
        have hc_42 := (congrFun hM_41 h).trans (gw_k hne_27 hc_34)
        have hc_43 := (congrFun hM_41 (ad 0)).trans (gw_k hne_28 hc_35)
        have hc_44 : M_40 (ad 1) = some (.inl (K.2.1 0, 408, .inl (upd (hclr V.2.1 pl i) ((pl * 6) + i) (nI 0)))) := (congrFun hM_41 _).trans gw_s
        have hc_45 := (congrFun hM_41 (ad 2)).trans (gw_k hne_29 hc_37)
        have hc_46 := (congrFun hM_41 (ad 3)).trans (gw_k hne_30 hc_38)
        have hc_47 := (congrFun hM_41 (ad 4)).trans (gw_k hne_31 hc_39)
        refine lv_iinc (v := nI (i + 1)) (lv' := [(3, .int (nI (i + 1))), (2, .int (nI (dcnt V.2.1 pl 6))), (0, .ref h), (1, .int (nI pl))]) hx hb dX0_forget_26 hl (k := 0) rfl (gw_inc _) (by decide) rfl (fun ls hl => ?_)
        refine lv_goto (tgt := 8) hx hb dX0_forget_29 (by decide) ?_
        exact ih (i + 1) (by omega) (by omega) _ (by rw [hM_41, hMi, gw_uu, hclr_s]) _ _ hG ls (lv_sub hl [0, 1, 2, 3] rfl)
  refine lv_istore_n (lv' := [(2, .int (nI (dcnt V.2.1 pl 6))), (0, .ref h), (1, .int (nI pl))]) hx hb dX0_forget_5 rfl hl (by decide) rfl (fun ls hl => ?_)
  refine lv_iconst (v := nI 0) hx hb dX0_forget_6 (by decide) ?_
  refine lv_istore_n (lv' := [(3, .int (nI 0)), (2, .int (nI (dcnt V.2.1 pl 6))), (0, .ref h), (1, .int (nI pl))]) hx hb dX0_forget_7 rfl hl (by decide) rfl (fun ls hl => ?_)
  exact hloop 7 0 (by omega) (by omega) M (by rw [hclr_0]; exact (gw_same h_n).symm) _ _ hG ls (lv_sub hl [0, 1, 2, 3] rfl)

set_option maxHeartbeats 4000000 in
set_option maxRecDepth 100000 in
/-- makerOf -/
theorem c_makerOf (l : Launch) (K : gw_C) (M : gw_M) (h : Nat) (ad : Nat → Nat) (V : hV) (pl : Nat) (ii : Int32) (hh : hd K M h ad V) (hp : pl < 68) : Met l yX0_makerOf wsX0_makerOf ({ frames := 0, cells := 0, slots := 0, locals := 0 } : Room) (va_Pc [.ref h, .int (nI pl), .int ii] (gw_I K M)) (va_Qi (fun r M1 => M1 = M ∧ r = mko V.2.1 pl ii 6) (gw_I K) (gw_A K)) 0 0 (gw_A K) := by
  refine Met.ofW (cc := cX0_makerOf) (maxL := 5) (ret := (some .int)) (by decide) rfl ?_
  intro p e s m args below meth c s₁ B hml hv
  obtain ⟨hav, hI⟩ := hv
  have hx := B.exec
  have hb := B.bytes
  have hr := B.returns
  have hts := atoms_spec (ws := wsX0_makerOf) B.pre
  have hown : s.vm.findClass RX0 = some m.cls := findClass_of_methodNamed B.named
  have hlocks : meth.locks = false := B.notSynchronized
  have hT := hI.2.2
  have hK := hT.K
  have hG := hI.B
  have hf15 := hts (.fieldLink RX0 15 "DotGossip$Holding" "numbers" "[I") (by decide +kernel)
  have hinX0 : ∀ w ∈ wsX00, w ∈ wsX0_makerOf := by decide +kernel
  have hE : entryFrame m args 5 = entryFrame m ([.ref h, .int (nI pl), .int ii] : List Value).toArray 5 := by rw [hav]
  rw [hE]
  have hl := lv_entry ([.ref h, .int (nI pl), .int ii]) (n := 5) (Nat.le_of_ble_eq_true rfl)
  rw [lg_entry_eq]
  generalize (lg_sl ([.ref h, .int (nI pl), .int ii]) ++ List.replicate (5 - (lg_sl ([.ref h, .int (nI pl), .int ii])).length) Slot.unset).toArray = ls at hl ⊢
  have hl : lv_has ls 5 [(0, .ref h), (1, .int (nI pl)), (2, .int ii)] := hl
  obtain ⟨h_0, h_s, h_n, h_w, h_a, h_t, h_ne⟩ := id hh
  have hloop : ∀ (n : Nat) (i : Nat), i ≤ 6 → mko V.2.1 pl ii i = -1 → 6 + 1 ≤ i + n → ∀ (ls : Array Slot), lv_has ls 5 [(4, .int (nI i)), (3, .int (nI (dcnt V.2.1 pl i))), (0, .ref h), (1, .int (nI pl)), (2, .int ii)] → W p l e ({ frames := 0, cells := 0, slots := 0, locals := 0 } : Room) s m args below meth c s.heap [] 0 0 (MQ below (va_Qi (fun r M1 => M1 = M ∧ r = mko V.2.1 pl ii 6) (gw_I K) (gw_A K)) args s 0 0 (gw_A K)) (F0 m 5 ls []) := by
    intro n
    induction n with
    | zero =>
      intro i hg0 hg1 hm
      exact absurd hm (by omega)
    | succ n ih =>
      intro i hg0 hg1 hm ls hl
      have hd9 := dcnt_le V.2.1 pl i
      refine lv_iload hx hb dX0_makerOf_5 (lv_at hl 0 rfl) ?_
      refine lv_bipush (v := nI 6) hx hb dX0_makerOf_7 (by decide) ?_
      refine gw_icmp_ge hx hb (by omega) (by omega) (tgt := 44) dX0_makerOf_9 (by decide) (fun hc => ?_) (fun hc => ?_)
      · obtain rfl : i = 6 := by omega
        refine lv_iconst (v := (-1)) hx hb dX0_makerOf_44 (by decide) ?_
        exact gw_iret hx hb hr hlocks hG hT (by omega) (by omega) dX0_makerOf_45 ⟨rfl, hg1.symm⟩
      · refine lv_aload_n hx hb dX0_makerOf_12 rfl (lv_at hl 2 rfl) ?_
        refine gw_get (ci := 1) (C := RX0) (T := TX0) (N := 5) hx hb hts hinX0 hown hK hG h_0 rfl 1 (by decide) hf15 (fun _ h9 => h9) rfl dX0_makerOf_13 ?_
        refine lv_iload_n hx hb dX0_makerOf_16 rfl (lv_at hl 3 rfl) ?_
        refine lv_bipush (v := nI 6) hx hb dX0_makerOf_17 (by decide) ?_
        refine gw_imul hx hb dX0_makerOf_19 ?_
        refine lv_iload hx hb dX0_makerOf_20 (lv_at hl 0 rfl) ?_
        refine gw_iadd hx hb dX0_makerOf_22 ?_
        refine gw_iald_n hx hb hK hG h_n 0 rfl (by omega) (by omega) dX0_makerOf_23 ?_
        refine lv_if_eq hx hb (tgt := 38) dX0_makerOf_24 (by decide) (fun hz => ?_) (fun hz => ?_)
        · have e9 : dcnt V.2.1 pl (i + 1) = dcnt V.2.1 pl i := by simp [dcnt, hz]
          have e8 : mko V.2.1 pl ii (i + 1) = -1 := by simp [mko, hg1, hz]
          refine lv_iinc (v := nI (i + 1)) (lv' := [(4, .int (nI (i + 1))), (3, .int (nI (dcnt V.2.1 pl i))), (0, .ref h), (1, .int (nI pl)), (2, .int ii)]) hx hb dX0_makerOf_38 hl (k := 0) rfl (gw_inc _) (by decide) rfl (fun ls hl => ?_)
          refine lv_goto (tgt := 5) hx hb dX0_makerOf_41 (by decide) ?_
          rw [← e9] at hl
          exact ih (i + 1) (by omega) e8 (by omega) ls (lv_sub hl [0, 1, 2, 3, 4] rfl)
        · refine lv_iload_n hx hb dX0_makerOf_27 rfl (lv_at hl 1 rfl) ?_
          refine lv_iload_n hx hb dX0_makerOf_28 rfl (lv_at hl 4 rfl) ?_
          refine lv_icmp_ne hx hb (tgt := 35) dX0_makerOf_29 (by decide) (fun hq => ?_) (fun hq => ?_)
          · have e9 : dcnt V.2.1 pl (i + 1) = dcnt V.2.1 pl i + 1 := by simp [dcnt, hz]
            have e8 : mko V.2.1 pl ii (i + 1) = -1 := by simp [mko, hg1, hz, hq]
            refine lv_iinc (v := nI ((dcnt V.2.1 pl i) + 1)) (lv' := [(3, .int (nI ((dcnt V.2.1 pl i) + 1))), (4, .int (nI i)), (0, .ref h), (1, .int (nI pl)), (2, .int ii)]) hx hb dX0_makerOf_35 hl (k := 1) rfl (gw_inc _) (by decide) rfl (fun ls hl => ?_)
            refine lv_iinc (v := nI (i + 1)) (lv' := [(4, .int (nI (i + 1))), (3, .int (nI ((dcnt V.2.1 pl i) + 1))), (0, .ref h), (1, .int (nI pl)), (2, .int ii)]) hx hb dX0_makerOf_38 hl (k := 1) rfl (gw_inc _) (by decide) rfl (fun ls hl => ?_)
            refine lv_goto (tgt := 5) hx hb dX0_makerOf_41 (by decide) ?_
            rw [← e9] at hl
            exact ih (i + 1) (by omega) e8 (by omega) ls (lv_sub hl [0, 1, 2, 3, 4] rfl)
          · have e8 : mko V.2.1 pl ii (i + 1) = nI i := by simp [mko, hg1, hz, hq]
            have e7 := mko_stay V.2.1 pl ii (i + 1) (by rw [e8]; exact nI_ne1 (by omega)) (6 - (i + 1))
            refine lv_iload hx hb dX0_makerOf_32 (lv_at hl 0 rfl) ?_
            rw [show i + 1 + (6 - (i + 1)) = 6 by omega, e8] at e7
            exact gw_iret hx hb hr hlocks hG hT (by omega) (by omega) dX0_makerOf_34 ⟨rfl, e7.symm⟩
  refine lv_iconst (v := nI 0) hx hb dX0_makerOf_0 (by decide) ?_
  refine lv_istore_n (lv' := [(3, .int (nI 0)), (0, .ref h), (1, .int (nI pl)), (2, .int ii)]) hx hb dX0_makerOf_1 rfl hl (by decide) rfl (fun ls hl => ?_)
  refine lv_iconst (v := nI 0) hx hb dX0_makerOf_2 (by decide) ?_
  refine lv_istore (lv' := [(4, .int (nI 0)), (3, .int (nI 0)), (0, .ref h), (1, .int (nI pl)), (2, .int ii)]) hx hb dX0_makerOf_3 hl (by decide) rfl (fun ls hl => ?_)
  exact hloop 7 0 (by omega) rfl (by omega) ls (lv_sub hl [0, 1, 2, 3, 4] rfl)

set_option maxHeartbeats 4000000 in
set_option maxRecDepth 100000 in
/-- worth -/
theorem c_worth (l : Launch) (K : gw_C) (M : gw_M) (h : Nat) (ad : Nat → Nat) (V : hV) (ct : Nat) (hh : hd K M h ad V) (hp : ct < 4) : Met l yX0_worth wsX0_worth ({ frames := 0, cells := 0, slots := 0, locals := 0 } : Room) (va_Pc [.ref h, .int (nI ct)] (gw_I K M)) (va_Qi (fun r M1 => M1 = M ∧ r = (wsum V.2.2.2.1 V.2.2.2.2 ct 6).toInt32) (gw_I K) (gw_A K)) 0 0 (gw_A K) := by
  refine Met.ofW (cc := cX0_worth) (maxL := 6) (ret := (some .int)) (by decide) rfl ?_
  intro p e s m args below meth c s₁ B hml hv
  obtain ⟨hav, hI⟩ := hv
  have hx := B.exec
  have hb := B.bytes
  have hr := B.returns
  have hts := atoms_spec (ws := wsX0_worth) B.pre
  have hown : s.vm.findClass RX0 = some m.cls := findClass_of_methodNamed B.named
  have hlocks : meth.locks = false := B.notSynchronized
  have hT := hI.2.2
  have hK := hT.K
  have hG := hI.B
  have hf21 := hts (.fieldLink RX0 21 "DotGossip$Holding" "added" "[J") (by decide +kernel)
  have hf25 := hts (.fieldLink RX0 25 "DotGossip$Holding" "taken" "[J") (by decide +kernel)
  have hinX0 : ∀ w ∈ wsX00, w ∈ wsX0_worth := by decide +kernel
  have hE : entryFrame m args 6 = entryFrame m ([.ref h, .int (nI ct)] : List Value).toArray 6 := by rw [hav]
  rw [hE]
  have hl := lv_entry ([.ref h, .int (nI ct)]) (n := 6) (Nat.le_of_ble_eq_true rfl)
  rw [lg_entry_eq]
  generalize (lg_sl ([.ref h, .int (nI ct)]) ++ List.replicate (6 - (lg_sl ([.ref h, .int (nI ct)])).length) Slot.unset).toArray = ls at hl ⊢
  have hl : lv_has ls 6 [(0, .ref h), (1, .int (nI ct))] := hl
  obtain ⟨h_0, h_s, h_n, h_w, h_a, h_t, h_ne⟩ := id hh
  have hloop : ∀ (n : Nat) (i : Nat), i ≤ 6 → 6 + 1 ≤ i + n → ∀ (ls : Array Slot), lv_has ls 6 [(4, .int (nI i)), (2, .long (wsum V.2.2.2.1 V.2.2.2.2 ct i)), (0, .ref h), (1, .int (nI ct))] → W p l e ({ frames := 0, cells := 0, slots := 0, locals := 0 } : Room) s m args below meth c s.heap [] 0 0 (MQ below (va_Qi (fun r M1 => M1 = M ∧ r = (wsum V.2.2.2.1 V.2.2.2.2 ct 6).toInt32) (gw_I K) (gw_A K)) args s 0 0 (gw_A K)) (F0 m 5 ls []) := by
    intro n
    induction n with
    | zero =>
      intro i hg0 hm
      exact absurd hm (by omega)
    | succ n ih =>
      intro i hg0 hm ls hl
      refine lv_iload hx hb dX0_worth_5 (lv_at hl 0 rfl) ?_
      refine lv_bipush (v := nI 6) hx hb dX0_worth_7 (by decide) ?_
      refine gw_icmp_ge hx hb (by omega) (by omega) (tgt := 45) dX0_worth_9 (by decide) (fun hc => ?_) (fun hc => ?_)
      · obtain rfl : i = 6 := by omega
        refine lv_lload_n hx hb dX0_worth_45 rfl (lv_at hl 1 rfl) ?_
        refine lv_l2i hx hb dX0_worth_46 rfl ?_
        exact gw_iret hx hb hr hlocks hG hT (by omega) (by omega) dX0_worth_47 ⟨rfl, rfl⟩
      · refine lv_iload_n hx hb dX0_worth_12 rfl (lv_at hl 3 rfl) ?_
        refine lv_bipush (v := nI 6) hx hb dX0_worth_13 (by decide) ?_
        refine gw_imul hx hb dX0_worth_15 ?_
        refine lv_iload hx hb dX0_worth_16 (lv_at hl 0 rfl) ?_
        refine gw_iadd hx hb dX0_worth_18 ?_
        refine lv_istore (lv' := [(5, .int (nI ((ct * 6) + i))), (4, .int (nI i)), (2, .long (wsum V.2.2.2.1 V.2.2.2.2 ct i)), (0, .ref h), (1, .int (nI ct))]) hx hb dX0_worth_19 hl (by decide) rfl (fun ls hl => ?_)
        refine lv_lload_n hx hb dX0_worth_21 rfl (lv_at hl 2 rfl) ?_
        refine lv_aload_n hx hb dX0_worth_22 rfl (lv_at hl 3 rfl) ?_
        refine gw_get (ci := 1) (C := RX0) (T := TX0) (N := 5) hx hb hts hinX0 hown hK hG h_0 rfl 3 (by decide) hf21 (fun _ h9 => h9) rfl dX0_worth_23 ?_
        refine lv_iload hx hb dX0_worth_26 (lv_at hl 0 rfl) ?_
        refine gw_lald_n hx hb hK hG h_a 1 rfl (by omega) (by omega) dX0_worth_28 ?_
        refine lv_aload_n hx hb dX0_worth_29 rfl (lv_at hl 3 rfl) ?_
        refine gw_get (ci := 1) (C := RX0) (T := TX0) (N := 5) hx hb hts hinX0 hown hK hG h_0 rfl 4 (by decide) hf25 (fun _ h9 => h9) rfl dX0_worth_30 ?_
        refine lv_iload hx hb dX0_worth_33 (lv_at hl 0 rfl) ?_
        refine gw_lald_n hx hb hK hG h_t 1 rfl (by omega) (by omega) dX0_worth_35 ?_
        refine lv_lsub hx hb dX0_worth_36 ?_
        refine lv_ladd hx hb dX0_worth_37 ?_
        refine lv_lstore_n (lv' := [(2, .long ((wsum V.2.2.2.1 V.2.2.2.2 ct i) + ((V.2.2.2.1 ((ct * 6) + i)) - (V.2.2.2.2 ((ct * 6) + i))))), (5, .int (nI ((ct * 6) + i))), (4, .int (nI i)), (0, .ref h), (1, .int (nI ct))]) hx hb dX0_worth_38 rfl hl (by decide) rfl (fun ls hl => ?_)
        refine lv_iinc (v := nI (i + 1)) (lv' := [(4, .int (nI (i + 1))), (2, .long ((wsum V.2.2.2.1 V.2.2.2.2 ct i) + ((V.2.2.2.1 ((ct * 6) + i)) - (V.2.2.2.2 ((ct * 6) + i))))), (5, .int (nI ((ct * 6) + i))), (0, .ref h), (1, .int (nI ct))]) hx hb dX0_worth_39 hl (k := 2) rfl (gw_inc _) (by decide) rfl (fun ls hl => ?_)
        refine lv_goto (tgt := 5) hx hb dX0_worth_42 (by decide) ?_
        exact ih (i + 1) (by omega) (by omega) ls (lv_sub hl [0, 1, 3, 4] rfl)
  refine lv_lconst (v := 0) hx hb dX0_worth_0 (by decide) ?_
  refine lv_lstore_n (lv' := [(2, .long 0), (0, .ref h), (1, .int (nI ct))]) hx hb dX0_worth_1 rfl hl (by decide) rfl (fun ls hl => ?_)
  refine lv_iconst (v := nI 0) hx hb dX0_worth_2 (by decide) ?_
  refine lv_istore (lv' := [(4, .int (nI 0)), (2, .long 0), (0, .ref h), (1, .int (nI ct))]) hx hb dX0_worth_3 hl (by decide) rfl (fun ls hl => ?_)
  exact hloop 7 0 (by omega) (by omega) ls (lv_sub hl [0, 1, 2, 3] rfl)
