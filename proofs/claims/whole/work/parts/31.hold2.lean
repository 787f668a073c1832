def eqv {α : Type} (n : Nat) (f g : Nat → α) (r : Int32) : Prop := (r = nI 1 ∧ ∀ k, k < n → f k = g k) ∨ (r = nI 0 ∧ ∃ k, k < n ∧ f k ≠ g k)
theorem eqv_z {α : Type} {n : Nat} {f g : Nat → α} {r : Int32} (h : eqv n f g r) (hz : r = 0) : ∃ k, k < n ∧ f k ≠ g k := by
  rcases h with ⟨h, -⟩ | ⟨-, h⟩
  · rw [hz] at h
    exact absurd h (by decide)
  · exact h
theorem eqv_o {α : Type} {n : Nat} {f g : Nat → α} {r : Int32} (h : eqv n f g r) (hz : ¬ r = 0) : ∀ k, k < n → f k = g k := by
  rcases h with ⟨-, h⟩ | ⟨h, -⟩
  · exact h
  · exact absurd (h.trans (by decide)) hz
/-- what matches looks at -/
def heq (V U : hV) : Prop := (∀ k, k < 6 → V.1 k = U.1 k) ∧ (∀ k, k < 408 → V.2.1 k = U.2.1 k) ∧ (∀ k, k < 24 → V.2.2.2.1 k = U.2.2.2.1 k) ∧ ∀ k, k < 24 → V.2.2.2.2 k = U.2.2.2.2 k
def ffl {α : Type} (f : Nat → α) (v : α) (i : Nat) : Nat → α := fun j => if j < i then v else f j
theorem ffl_0 {α : Type} (f : Nat → α) (v : α) : ffl f v 0 = f := by
  funext j
  unfold ffl
  rw [if_neg (by omega)]
theorem ffl_s (f : Nat → Int32) (v : Int32) (i : Nat) : upd (ffl f v i) i v = ffl f v (i + 1) := by
  funext j
  unfold upd ffl
  by_cases h : j = i
  · rw [if_pos h, if_pos (by omega)]
  · rw [if_neg h]
    by_cases h2 : j < i
    · rw [if_pos h2, if_pos (by omega)]
    · rw [if_neg h2, if_neg (by omega)]
theorem ffl_sl (f : Nat → Int64) (v : Int64) (i : Nat) : vp_updL (ffl f v i) i v = ffl f v (i + 1) := by
  funext j
  unfold vp_updL ffl
  by_cases h : j = i
  · rw [if_pos h, if_pos (by omega)]
  · rw [if_neg h]
    by_cases h2 : j < i
    · rw [if_pos h2, if_pos (by omega)]
    · rw [if_neg h2, if_neg (by omega)]
/-- one dot of the merge: what the place's row of this maker is behind it, and whether one came -/
def hmd (V U : hV) (pl mk : Nat) : hV :=
  if U.2.1 (pl * 6 + mk) ≤ V.1 mk then (if V.2.1 (pl * 6 + mk) = U.2.1 (pl * 6 + mk) then V else if U.1 mk < V.2.1 (pl * 6 + mk) then V else (V.1, upd V.2.1 (pl * 6 + mk) (nI 0), V.2.2))
  else (V.1, upd V.2.1 (pl * 6 + mk) (U.2.1 (pl * 6 + mk)), (if pl < 64 then V.2.2.1 else upd V.2.2.1 (pl * 6 + mk - 384) (U.2.2.1 (pl * 6 + mk - 384))), V.2.2.2)
def hmc (V U : hV) (pl mk : Nat) : Nat := if U.2.1 (pl * 6 + mk) ≤ V.1 mk then 0 else 1
theorem lcmp_eq {x y : Int64} (h : lg_cmp x y = 0) : x = y := by
  unfold lg_cmp at h
  split at h
  · exact absurd h (by decide)
  · split at h
    · assumption
    · exact absurd h (by decide)
theorem lcmp_of {x y : Int64} (h : x = y) : lg_cmp x y = 0 := by
  subst h
  simp [lg_cmp]
set_option maxHeartbeats 4000000 in
set_option maxRecDepth 100000 in
/-- equalInts -/
theorem c_equalInts (l : Launch) (K : gw_C) (M : gw_M) (a b nn : Nat) (f g : Nat → Int32) (ha : M a = some (.inl (K.2.1 0, nn, .inl f))) (hb9 : M b = some (.inl (K.2.1 0, nn, .inl g))) (hn : nn < 2147483648) : Met l yX0_equalInts wsX0_equalInts ({ frames := 0, cells := 0, slots := 0, locals := 0 } : Room) (va_Pc [.ref a, .ref b] (gw_I K M)) (va_Qi (fun r M1 => M1 = M ∧ eqv nn f g r) (gw_I K) (gw_A K)) 0 0 (gw_A K) := by
  refine Met.ofW (cc := cX0_equalInts) (maxL := 3) (ret := (some .boolean)) (by decide) rfl ?_
  intro p e s m args below meth c s₁ B hml hv
  obtain ⟨hav, hI⟩ := hv
  have hx := B.exec
  have hb := B.bytes
  have hr := B.returns
  have hts := atoms_spec (ws := wsX0_equalInts) B.pre
  have hown : s.vm.findClass RX0 = some m.cls := findClass_of_methodNamed B.named
  have hlocks : meth.locks = false := B.notSynchronized
  have hT := hI.2.2
  have hK := hT.K
  have hG := hI.B
  have hE : entryFrame m args 3 = entryFrame m ([.ref a, .ref b] : List Value).toArray 3 := by rw [hav]
  rw [hE]
  have hl := lv_entry ([.ref a, .ref b]) (n := 3) (Nat.le_of_ble_eq_true rfl)
  rw [lg_entry_eq]
  generalize (lg_sl ([.ref a, .ref b]) ++ List.replicate (3 - (lg_sl ([.ref a, .ref b])).length) Slot.unset).toArray = ls at hl ⊢
  have hl : lv_has ls 3 [(0, .ref a), (1, .ref b)] := hl
  have hloop : ∀ (n : Nat) (i : Nat), i ≤ nn → (∀ k, k < i → f k = g k) → nn + 1 ≤ i + n → ∀ (ls : Array Slot), lv_has ls 3 [(2, .int (nI i)), (0, .ref a), (1, .ref b)] → W p l e ({ frames := 0, cells := 0, slots := 0, locals := 0 } : Room) s m args below meth c s.heap [] 0 0 (MQ below (va_Qi (fun r M1 => M1 = M ∧ eqv nn f g r) (gw_I K) (gw_A K)) args s 0 0 (gw_A K)) (F0 m 2 ls []) := by
    intro n
    induction n with
    | zero =>
      intro i hg0 hg1 hm
      exact absurd hm (by omega)
    | succ n ih =>
      intro i hg0 hg1 hm ls hl
      refine lv_iload_n hx hb dX0_equalInts_2 rfl (lv_at hl 0 rfl) ?_
      refine lv_aload_n hx hb dX0_equalInts_3 rfl (lv_at hl 1 rfl) ?_
      refine gw_alen hx hb hK hG ha 0 rfl (v := nI nn) rfl dX0_equalInts_4 ?_
      refine gw_icmp_ge hx hb (by omega) (by omega) (tgt := 31) dX0_equalInts_5 (by decide) (fun hc => ?_) (fun hc => ?_)
      · obtain rfl : i = nn := by omega
        refine lv_iconst (v := nI 1) hx hb dX0_equalInts_31 (by decide) ?_
        exact gw_zret hx hb hr hlocks hG hT (by omega) (by omega) dX0_equalInts_32 (Or.inr (by decide)) ⟨rfl, Or.inl ⟨rfl, hg1⟩⟩
      · refine lv_iload_n hx hb dX0_equalInts_8 rfl (lv_at hl 0 rfl) ?_
        refine lv_aload_n hx hb dX0_equalInts_9 rfl (lv_at hl 2 rfl) ?_
        refine gw_alen hx hb hK hG hb9 0 rfl (v := nI nn) rfl dX0_equalInts_10 ?_
        refine gw_icmp_ge hx hb (by omega) (by omega) (tgt := 31) dX0_equalInts_11 (by decide) (fun hc2 => ?_) (fun hc2 => ?_)
        · exact absurd hc2 (by omega)
        · refine lv_aload_n hx hb dX0_equalInts_14 rfl (lv_at hl 1 rfl) ?_
          refine lv_iload_n hx hb dX0_equalInts_15 rfl (lv_at hl 0 rfl) ?_
          refine gw_iald_n hx hb hK hG ha 0 rfl (by omega) (by omega) dX0_equalInts_16 ?_
          refine lv_aload_n hx hb dX0_equalInts_17 rfl (lv_at hl 2 rfl) ?_
          refine lv_iload_n hx hb dX0_equalInts_18 rfl (lv_at hl 0 rfl) ?_
          refine gw_iald_n hx hb hK hG hb9 0 rfl (by omega) (by omega) dX0_equalInts_19 ?_
          refine lv_icmp_eq hx hb (tgt := 25) dX0_equalInts_20 (by decide) (fun hq => ?_) (fun hq => ?_)
          · refine lv_iinc (v := nI (i + 1)) (lv' := [(2, .int (nI (i + 1))), (0, .ref a), (1, .ref b)]) hx hb dX0_equalInts_25 hl (k := 0) rfl (gw_inc _) (by decide) rfl (fun ls hl => ?_)
            refine lv_goto (tgt := 2) hx hb dX0_equalInts_28 (by decide) ?_
            exact ih (i + 1) (by omega) (fun k hk => (Nat.lt_or_eq_of_le (Nat.le_of_lt_succ hk)).elim (hg1 k) (fun z => by rw [z]; exact hq)) (by omega) ls (lv_sub hl [0, 1, 2] rfl)
          · refine lv_iconst (v := nI 0) hx hb dX0_equalInts_23 (by decide) ?_
            exact gw_zret hx hb hr hlocks hG hT (by omega) (by omega) dX0_equalInts_24 (Or.inl (by decide)) ⟨rfl, Or.inr ⟨rfl, i, hc, hq⟩⟩
  refine lv_iconst (v := nI 0) hx hb dX0_equalInts_0 (by decide) ?_
  refine lv_istore_n (lv' := [(2, .int (nI 0)), (0, .ref a), (1, .ref b)]) hx hb dX0_equalInts_1 rfl hl (by decide) rfl (fun ls hl => ?_)
  exact hloop (nn + 1) 0 (by omega) (fun k hk => absurd hk (by omega)) (by omega) ls (lv_sub hl [0, 1, 2] rfl)

set_option maxHeartbeats 4000000 in
set_option maxRecDepth 100000 in
/-- equalLongs -/
theorem c_equalLongs (l : Launch) (K : gw_C) (M : gw_M) (a b nn : Nat) (f g : Nat → Int64) (ha : M a = some (.inl (K.2.1 1, nn, .inr (.inl f)))) (hb9 : M b = some (.inl (K.2.1 1, nn, .inr (.inl g)))) (hn : nn < 2147483648) : Met l yX0_equalLongs wsX0_equalLongs ({ frames := 0, cells := 0, slots := 0, locals := 0 } : Room) (va_Pc [.ref a, .ref b] (gw_I K M)) (va_Qi (fun r M1 => M1 = M ∧ eqv nn f g r) (gw_I K) (gw_A K)) 0 0 (gw_A K) := by
  refine Met.ofW (cc := cX0_equalLongs) (maxL := 3) (ret := (some .boolean)) (by decide) rfl ?_
  intro p e s m args below meth c s₁ B hml hv
  obtain ⟨hav, hI⟩ := hv
  have hx := B.exec
  have hb := B.bytes
  have hr := B.returns
  have hts := atoms_spec (ws := wsX0_equalLongs) B.pre
  have hown : s.vm.findClass RX0 = some m.cls := findClass_of_methodNamed B.named
  have hlocks : meth.locks = false := B.notSynchronized
  have hT := hI.2.2
  have hK := hT.K
  have hG := hI.B
  have hE : entryFrame m args 3 = entryFrame m ([.ref a, .ref b] : List Value).toArray 3 := by rw [hav]
  rw [hE]
  have hl := lv_entry ([.ref a, .ref b]) (n := 3) (Nat.le_of_ble_eq_true rfl)
  rw [lg_entry_eq]
  generalize (lg_sl ([.ref a, .ref b]) ++ List.replicate (3 - (lg_sl ([.ref a, .ref b])).length) Slot.unset).toArray = ls at hl ⊢
  have hl : lv_has ls 3 [(0, .ref a), (1, .ref b)] := hl
  have hloop : ∀ (n : Nat) (i : Nat), i ≤ nn → (∀ k, k < i → f k = g k) → nn + 1 ≤ i + n → ∀ (ls : Array Slot), lv_has ls 3 [(2, .int (nI i)), (0, .ref a), (1, .ref b)] → W p l e ({ frames := 0, cells := 0, slots := 0, locals := 0 } : Room) s m args below meth c s.heap [] 0 0 (MQ below (va_Qi (fun r M1 => M1 = M ∧ eqv nn f g r) (gw_I K) (gw_A K)) args s 0 0 (gw_A K)) (F0 m 2 ls []) := by
    intro n
    induction n with
    | zero =>
      intro i hg0 hg1 hm
      exact absurd hm (by omega)
    | succ n ih =>
      intro i hg0 hg1 hm ls hl
      refine lv_iload_n hx hb dX0_equalLongs_2 rfl (lv_at hl 0 rfl) ?_
      refine lv_aload_n hx hb dX0_equalLongs_3 rfl (lv_at hl 1 rfl) ?_
      refine gw_alen hx hb hK hG ha 1 rfl (v := nI nn) rfl dX0_equalLongs_4 ?_
      refine gw_icmp_ge hx hb (by omega) (by omega) (tgt := 32) dX0_equalLongs_5 (by decide) (fun hc => ?_) (fun hc => ?_)
      · obtain rfl : i = nn := by omega
        refine lv_iconst (v := nI 1) hx hb dX0_equalLongs_32 (by decide) ?_
        exact gw_zret hx hb hr hlocks hG hT (by omega) (by omega) dX0_equalLongs_33 (Or.inr (by decide)) ⟨rfl, Or.inl ⟨rfl, hg1⟩⟩
      · refine lv_iload_n hx hb dX0_equalLongs_8 rfl (lv_at hl 0 rfl) ?_
        refine lv_aload_n hx hb dX0_equalLongs_9 rfl (lv_at hl 2 rfl) ?_
        refine gw_alen hx hb hK hG hb9 1 rfl (v := nI nn) rfl dX0_equalLongs_10 ?_
        refine gw_icmp_ge hx hb (by omega) (by omega) (tgt := 32) dX0_equalLongs_11 (by decide) (fun hc2 => ?_) (fun hc2 => ?_)
        · exact absurd hc2 (by omega)
        · refine lv_aload_n hx hb dX0_equalLongs_14 rfl (lv_at hl 1 rfl) ?_
          refine lv_iload_n hx hb dX0_equalLongs_15 rfl (lv_at hl 0 rfl) ?_
          refine gw_lald_n hx hb hK hG ha 1 rfl (by omega) (by omega) dX0_equalLongs_16 ?_
          refine lv_aload_n hx hb dX0_equalLongs_17 rfl (lv_at hl 2 rfl) ?_
          refine lv_iload_n hx hb dX0_equalLongs_18 rfl (lv_at hl 0 rfl) ?_
          refine gw_lald_n hx hb hK hG hb9 1 rfl (by omega) (by omega) dX0_equalLongs_19 ?_
          refine W.lcmp hx hb dX0_equalLongs_20 ?_
          refine lv_if_eq hx hb (tgt := 26) dX0_equalLongs_21 (by decide) (fun hq => ?_) (fun hq => ?_)
          · have hq : f i = g i := lcmp_eq hq
            refine lv_iinc (v := nI (i + 1)) (lv' := [(2, .int (nI (i + 1))), (0, .ref a), (1, .ref b)]) hx hb dX0_equalLongs_26 hl (k := 0) rfl (gw_inc _) (by decide) rfl (fun ls hl => ?_)
            refine lv_goto (tgt := 2) hx hb dX0_equalLongs_29 (by decide) ?_
            exact ih (i + 1) (by omega) (fun k hk => (Nat.lt_or_eq_of_le (Nat.le_of_lt_succ hk)).elim (hg1 k) (fun z => by rw [z]; exact hq)) (by omega) ls (lv_sub hl [0, 1, 2] rfl)
          · refine lv_iconst (v := nI 0) hx hb dX0_equalLongs_24 (by decide) ?_
            exact gw_zret hx hb hr hlocks hG hT (by omega) (by omega) dX0_equalLongs_25 (Or.inl (by decide)) ⟨rfl, Or.inr ⟨rfl, i, hc, fun z => hq (lcmp_of z)⟩⟩
  refine lv_iconst (v := nI 0) hx hb dX0_equalLongs_0 (by decide) ?_
  refine lv_istore_n (lv' := [(2, .int (nI 0)), (0, .ref a), (1, .ref b)]) hx hb dX0_equalLongs_1 rfl hl (by decide) rfl (fun ls hl => ?_)
  exact hloop (nn + 1) 0 (by omega) (fun k hk => absurd hk (by omega)) (by omega) ls (lv_sub hl [0, 1, 2] rfl)

set_option maxHeartbeats 4000000 in
set_option maxRecDepth 100000 in
/-- matches -/
theorem c_matches (l : Launch) (K : gw_C) (M : gw_M) (h g : Nat) (ad ad2 : Nat → Nat) (V U : hV) (hh : hd K M h ad V) (hg : hd K M g ad2 U) : Met l yX0_matches wsX0_matches ({ frames := 1, cells := 0, slots := 0, locals := 22 } : Room) (va_Pc [.ref h, .ref g] (gw_I K M)) (va_Qi (fun r M1 => M1 = M ∧ ((r = nI 1 ∧ heq V U) ∨ (r = nI 0 ∧ ¬ heq V U))) (gw_I K) (gw_A K)) 0 0 (gw_A K) := by
  refine Met.ofW (cc := cX0_matches) (maxL := 2) (ret := (some .boolean)) (by decide) rfl ?_
  intro p e s m args below meth c s₁ B hml hv
  obtain ⟨hav, hI⟩ := hv
  have hx := B.exec
  have hb := B.bytes
  have hr := B.returns
  have hts := atoms_spec (ws := wsX0_matches) B.pre
  have hown : s.vm.findClass RX0 = some m.cls := findClass_of_methodNamed B.named
  have hlocks : meth.locks = false := B.notSynchronized
  have hT := hI.2.2
  have hK := hT.K
  have hG := hI.B
  have hf9 := hts (.fieldLink RX0 9 "DotGossip$Holding" "seen" "[I") (by decide +kernel)
  have hf15 := hts (.fieldLink RX0 15 "DotGossip$Holding" "numbers" "[I") (by decide +kernel)
  have hf21 := hts (.fieldLink RX0 21 "DotGossip$Holding" "added" "[J") (by decide +kernel)
  have hf25 := hts (.fieldLink RX0 25 "DotGossip$Holding" "taken" "[J") (by decide +kernel)
  have hinX0 : ∀ w ∈ wsX00, w ∈ wsX0_matches := by decide +kernel
  have hE : entryFrame m args 2 = entryFrame m ([.ref h, .ref g] : List Value).toArray 2 := by rw [hav]
  rw [hE]
  have hl := lv_entry ([.ref h, .ref g]) (n := 2) (Nat.le_of_ble_eq_true rfl)
  rw [lg_entry_eq]
  generalize (lg_sl ([.ref h, .ref g]) ++ List.replicate (2 - (lg_sl ([.ref h, .ref g])).length) Slot.unset).toArray = ls at hl ⊢
  have hl : lv_has ls 2 [(0, .ref h), (1, .ref g)] := hl
  obtain ⟨h_0, h_s, h_n, h_w, h_a, h_t, h_ne⟩ := id hh
  obtain ⟨g_0, g_s, g_n, g_w, g_a, g_t, g_ne⟩ := id hg
  refine lv_aload_n hx hb dX0_matches_0 rfl (lv_at hl 0 rfl) ?_
  refine gw_get (ci := 1) (C := RX0) (T := TX0) (N := 5) hx hb hts hinX0 hown hK hG h_0 rfl 0 (by decide) hf9 (fun _ h9 => h9) rfl dX0_matches_1 ?_
  refine lv_aload_n hx hb dX0_matches_4 rfl (lv_at hl 1 rfl) ?_
  refine gw_get (ci := 1) (C := RX0) (T := TX0) (N := 5) hx hb hts hinX0 hown hK hG g_0 rfl 0 (by decide) hf9 (fun _ h9 => h9) rfl dX0_matches_5 ?_
  refine gw_calli (va_runS (As := [.ref (ad 0), .ref (ad2 0)]) (rest := []) ⟨hx, hb, hml, hown, hts⟩ (c_equalInts l K M (ad 0) (ad2 0) 6 V.1 U.1 h_s g_s (by decide)) (va_cwS 2 hts gX0_matches_X0_equalInts rfl rfl rfl (by decide +kernel) ⟨Nat.le_of_ble_eq_true rfl, Nat.le_of_ble_eq_true rfl⟩) (gw_preS hG hT) rfl rfl hl.1 rfl (lv_room (Nat.le_of_ble_eq_true rfl)) dX0_matches_8 ⟨Nat.le_of_ble_eq_true rfl, Nat.le_of_ble_eq_true rfl⟩) hG (fun r_48 M_49 H locs hw hG => ?_)
  have hw0 := hw.2
  rw [hw.1] at hG
  refine lv_if_eq hx hb (tgt := 60) dX0_matches_11 (by decide) (fun hz0 => ?_) (fun hz0 => ?_)
  · refine lv_iconst (v := nI 0) hx hb dX0_matches_60 (by decide) ?_
    obtain ⟨k9, hk9, hn9⟩ := eqv_z hw0 hz0
    exact gw_zret hx hb hr hlocks hG hT (by omega) (by omega) dX0_matches_61 (Or.inl (by decide)) ⟨rfl, Or.inr ⟨rfl, fun q => hn9 (q.1 k9 hk9)⟩⟩
  · refine lv_aload_n hx hb dX0_matches_14 rfl (lv_at hl 0 rfl) ?_
    refine gw_get (ci := 1) (C := RX0) (T := TX0) (N := 5) hx hb hts hinX0 hown hK hG h_0 rfl 1 (by decide) hf15 (fun _ h9 => h9) rfl dX0_matches_15 ?_
    refine lv_aload_n hx hb dX0_matches_18 rfl (lv_at hl 1 rfl) ?_
    refine gw_get (ci := 1) (C := RX0) (T := TX0) (N := 5) hx hb hts hinX0 hown hK hG g_0 rfl 1 (by decide) hf15 (fun _ h9 => h9) rfl dX0_matches_19 ?_
    refine gw_calli (va_runS (As := [.ref (ad 1), .ref (ad2 1)]) (rest := []) ⟨hx, hb, hml, hown, hts⟩ (c_equalInts l K M (ad 1) (ad2 1) 408 V.2.1 U.2.1 h_n g_n (by decide)) (va_cwS 2 hts gX0_matches_X0_equalInts rfl rfl rfl (by decide +kernel) ⟨Nat.le_of_ble_eq_true rfl, Nat.le_of_ble_eq_true rfl⟩) (gw_preS hG hT) rfl rfl hl.1 rfl (lv_room (Nat.le_of_ble_eq_true rfl)) dX0_matches_22 ⟨Nat.le_of_ble_eq_true rfl, Nat.le_of_ble_eq_true rfl⟩) hG (fun r_50 M_51 H locs hw hG => ?_)
    have hw1 := hw.2
    rw [hw.1] at hG
    refine lv_if_eq hx hb (tgt := 60) dX0_matches_25 (by decide) (fun hz1 => ?_) (fun hz1 => ?_)
    · refine lv_iconst (v := nI 0) hx hb dX0_matches_60 (by decide) ?_
      obtain ⟨k9, hk9, hn9⟩ := eqv_z hw1 hz1
      exact gw_zret hx hb hr hlocks hG hT (by omega) (by omega) dX0_matches_61 (Or.inl (by decide)) ⟨rfl, Or.inr ⟨rfl, fun q => hn9 (q.2.1 k9 hk9)⟩⟩
    · refine lv_aload_n hx hb dX0_matches_28 rfl (lv_at hl 0 rfl) ?_
      refine gw_get (ci := 1) (C := RX0) (T := TX0) (N := 5) hx hb hts hinX0 hown hK hG h_0 rfl 3 (by decide) hf21 (fun _ h9 => h9) rfl dX0_matches_29 ?_
      refine lv_aload_n hx hb dX0_matches_32 rfl (lv_at hl 1 rfl) ?_
      refine gw_get (ci := 1) (C := RX0) (T := TX0) (N := 5) hx hb hts hinX0 hown hK hG g_0 rfl 3 (by decide) hf21 (fun _ h9 => h9) rfl dX0_matches_33 ?_
      refine gw_calli (va_runS (As := [.ref (ad 3), .ref (ad2 3)]) (rest := []) ⟨hx, hb, hml, hown, hts⟩ (c_equalLongs l K M (ad 3) (ad2 3) 24 V.2.2.2.1 U.2.2.2.1 h_a g_a (by decide)) (va_cwS 2 hts gX0_matches_X0_equalLongs rfl rfl rfl (by decide +kernel) ⟨Nat.le_of_ble_eq_true rfl, Nat.le_of_ble_eq_true rfl⟩) (gw_preS hG hT) rfl rfl hl.1 rfl (lv_room (Nat.le_of_ble_eq_true rfl)) dX0_matches_36 ⟨Nat.le_of_ble_eq_true rfl, Nat.le_of_ble_eq_true rfl⟩) hG (fun r_52 M_53 H locs hw hG => ?_)
      have hw2 := hw.2
      rw [hw.1] at hG
      refine lv_if_eq hx hb (tgt := 60) dX0_matches_39 (by decide) (fun hz2 => ?_) (fun hz2 => ?_)
      · refine lv_iconst (v := nI 0) hx hb dX0_matches_60 (by decide) ?_
        obtain ⟨k9, hk9, hn9⟩ := eqv_z hw2 hz2
        exact gw_zret hx hb hr hlocks hG hT (by omega) (by omega) dX0_matches_61 (Or.inl (by decide)) ⟨rfl, Or.inr ⟨rfl, fun q => hn9 (q.2.2.1 k9 hk9)⟩⟩
      · refine lv_aload_n hx hb dX0_matches_42 rfl (lv_at hl 0 rfl) ?_
        refine gw_get (ci := 1) (C := RX0) (T := TX0) (N := 5) hx hb hts hinX0 hown hK hG h_0 rfl 4 (by decide) hf25 (fun _ h9 => h9) rfl dX0_matches_43 ?_
        refine lv_aload_n hx hb dX0_matches_46 rfl (lv_at hl 1 rfl) ?_
        refine gw_get (ci := 1) (C := RX0) (T := TX0) (N := 5) hx hb hts hinX0 hown hK hG g_0 rfl 4 (by decide) hf25 (fun _ h9 => h9) rfl dX0_matches_47 ?_
        refine gw_calli (va_runS (As := [.ref (ad 4), .ref (ad2 4)]) (rest := []) ⟨hx, hb, hml, hown, hts⟩ (c_equalLongs l K M (ad 4) (ad2 4) 24 V.2.2.2.2 U.2.2.2.2 h_t g_t (by decide)) (va_cwS 2 hts gX0_matches_X0_equalLongs rfl rfl rfl (by decide +kernel) ⟨Nat.le_of_ble_eq_true rfl, Nat.le_of_ble_eq_true rfl⟩) (gw_preS hG hT) rfl rfl hl.1 rfl (lv_room (Nat.le_of_ble_eq_true rfl)) dX0_matches_50 ⟨Nat.le_of_ble_eq_true rfl, Nat.le_of_ble_eq_true rfl⟩) hG (fun r_54 M_55 H locs hw hG => ?_)
        have hw3 := hw.2
        rw [hw.1] at hG
        refine lv_if_eq hx hb (tgt := 60) dX0_matches_53 (by decide) (fun hz3 => ?_) (fun hz3 => ?_)
        · refine lv_iconst (v := nI 0) hx hb dX0_matches_60 (by decide) ?_
          obtain ⟨k9, hk9, hn9⟩ := eqv_z hw3 hz3
          exact gw_zret hx hb hr hlocks hG hT (by omega) (by omega) dX0_matches_61 (Or.inl (by decide)) ⟨rfl, Or.inr ⟨rfl, fun q => hn9 (q.2.2.2 k9 hk9)⟩⟩
        · refine lv_iconst (v := nI 1) hx hb dX0_matches_56 (by decide) ?_
          refine lv_goto (tgt := 61) hx hb dX0_matches_57 (by decide) ?_
          exact gw_zret hx hb hr hlocks hG hT (by omega) (by omega) dX0_matches_61 (Or.inr (by decide)) ⟨rfl, Or.inl ⟨rfl, eqv_o hw0 hz0, eqv_o hw1 hz1, eqv_o hw2 hz2, eqv_o hw3 hz3⟩⟩

set_option maxHeartbeats 4000000 in
set_option maxRecDepth 100000 in
/-- numberBy -/
theorem c_numberBy (l : Launch) (K : gw_C) (M : gw_M) (h : Nat) (ad : Nat → Nat) (V : hV) (pl : Nat) (mv : Int32) (hh : hd K M h ad V) (hp : pl < 68) (hm9 : mv = -1 ∨ ∃ mk, mk < 6 ∧ mv = nI mk) : Met l yX0_numberBy wsX0_numberBy ({ frames := 0, cells := 0, slots := 0, locals := 0 } : Room) (va_Pc [.ref h, .int (nI pl), .int mv] (gw_I K M)) (va_Qi (fun r M1 => M1 = M ∧ r = if mv = -1 then -1 else V.2.1 (pl * 6 + mv.toNatClampNeg)) (gw_I K) (gw_A K)) 0 0 (gw_A K) := by
  refine Met.ofW (cc := cX0_numberBy) (maxL := 3) (ret := (some .int)) (by decide) rfl ?_
  intro p e s m args below meth c s₁ B hml hv
  obtain ⟨hav, hI⟩ := hv
  have hx := B.exec
  have hb := B.bytes
  have hr := B.returns
  have hts := atoms_spec (ws := wsX0_numberBy) B.pre
  have hown : s.vm.findClass RX0 = some m.cls := findClass_of_methodNamed B.named
  have hlocks : meth.locks = false := B.notSynchronized
  have hT := hI.2.2
  have hK := hT.K
  have hG := hI.B
  have hf15 := hts (.fieldLink RX0 15 "DotGossip$Holding" "numbers" "[I") (by decide +kernel)
  have hinX0 : ∀ w ∈ wsX00, w ∈ wsX0_numberBy := by decide +kernel
  have hE : entryFrame m args 3 = entryFrame m ([.ref h, .int (nI pl), .int mv] : List Value).toArray 3 := by rw [hav]
  rw [hE]
  have hl := lv_entry ([.ref h, .int (nI pl), .int mv]) (n := 3) (Nat.le_of_ble_eq_true rfl)
  rw [lg_entry_eq]
  generalize (lg_sl ([.ref h, .int (nI pl), .int mv]) ++ List.replicate (3 - (lg_sl ([.ref h, .int (nI pl), .int mv])).length) Slot.unset).toArray = ls at hl ⊢
  have hl : lv_has ls 3 [(0, .ref h), (1, .int (nI pl)), (2, .int mv)] := hl
  obtain ⟨h_0, h_s, h_n, h_w, h_a, h_t, h_ne⟩ := id hh
  refine lv_iload_n hx hb dX0_numberBy_0 rfl (lv_at hl 2 rfl) ?_
  refine lv_iconst (v := (-1)) hx hb dX0_numberBy_1 (by decide) ?_
  refine lv_icmp_ne hx hb (tgt := 9) dX0_numberBy_2 (by decide) (fun hq => ?_) (fun hq => ?_)
  · rcases hm9 with hm9 | ⟨mk, hk, rfl⟩
    · exact absurd hm9 hq
    refine lv_aload_n hx hb dX0_numberBy_9 rfl (lv_at hl 0 rfl) ?_
    refine gw_get (ci := 1) (C := RX0) (T := TX0) (N := 5) hx hb hts hinX0 hown hK hG h_0 rfl 1 (by decide) hf15 (fun _ h9 => h9) rfl dX0_numberBy_10 ?_
    refine lv_iload_n hx hb dX0_numberBy_13 rfl (lv_at hl 1 rfl) ?_
    refine lv_bipush (v := nI 6) hx hb dX0_numberBy_14 (by decide) ?_
    refine gw_imul hx hb dX0_numberBy_16 ?_
    refine lv_iload_n hx hb dX0_numberBy_17 rfl (lv_at hl 2 rfl) ?_
    refine gw_iadd hx hb dX0_numberBy_18 ?_
    refine gw_iald_n hx hb hK hG h_n 0 rfl (by omega) (by omega) dX0_numberBy_19 ?_
    exact gw_iret hx hb hr hlocks hG hT (by omega) (by omega) dX0_numberBy_20 ⟨rfl, by rw [if_neg hq, nI_clamp (by omega)]⟩
  · refine lv_iconst (v := (-1)) hx hb dX0_numberBy_5 (by decide) ?_
    refine lv_goto (tgt := 20) hx hb dX0_numberBy_6 (by decide) ?_
    exact gw_iret hx hb hr hlocks hG hT (by omega) (by omega) dX0_numberBy_20 ⟨rfl, by rw [if_pos hq]⟩

set_option maxHeartbeats 4000000 in
set_option maxRecDepth 100000 in
/-- mergeDot -/
theorem c_mergeDot (l : Launch) (K : gw_C) (M : gw_M) (h g : Nat) (ad ad2 : Nat → Nat) (V U : hV) (pl mk : Nat) (hh : hd K M h ad V) (hg : hd K M g ad2 U) (hdis : ∀ i j, i < 5 → j < 5 → ad2 j ≠ ad i) (hp : pl < 68) (hk : mk < 6) : Met l yX0_mergeDot wsX0_mergeDot ({ frames := 0, cells := 0, slots := 0, locals := 0 } : Room) (va_Pc [.ref h, .ref g, .int (nI pl), .int (nI mk)] (gw_I K M)) (va_Qi (fun r M1 => r = nI (hmc V U pl mk) ∧ hd K M1 h ad (hmd V U pl mk) ∧ hd K M1 g ad2 U ∧ hfr M M1 ad) (gw_I K) (gw_A K)) 0 0 (gw_A K) := by
  refine Met.ofW (cc := cX0_mergeDot) (maxL := 7) (ret := (some .boolean)) (by decide) rfl ?_
  intro p e s m args below meth c s₁ B hml hv
  obtain ⟨hav, hI⟩ := hv
  have hx := B.exec
  have hb := B.bytes
  have hr := B.returns
  have hts := atoms_spec (ws := wsX0_mergeDot) B.pre
  have hown : s.vm.findClass RX0 = some m.cls := findClass_of_methodNamed B.named
  have hlocks : meth.locks = false := B.notSynchronized
  have hT := hI.2.2
  have hK := hT.K
  have hG := hI.B
  have hf9 := hts (.fieldLink RX0 9 "DotGossip$Holding" "seen" "[I") (by decide +kernel)
  have hf15 := hts (.fieldLink RX0 15 "DotGossip$Holding" "numbers" "[I") (by decide +kernel)
  have hf18 := hts (.fieldLink RX0 18 "DotGossip$Holding" "written" "[I") (by decide +kernel)
  have hinX0 : ∀ w ∈ wsX00, w ∈ wsX0_mergeDot := by decide +kernel
  have hE : entryFrame m args 7 = entryFrame m ([.ref h, .ref g, .int (nI pl), .int (nI mk)] : List Value).toArray 7 := by rw [hav]
  rw [hE]
  have hl := lv_entry ([.ref h, .ref g, .int (nI pl), .int (nI mk)]) (n := 7) (Nat.le_of_ble_eq_true rfl)
  rw [lg_entry_eq]
  generalize (lg_sl ([.ref h, .ref g, .int (nI pl), .int (nI mk)]) ++ List.replicate (7 - (lg_sl ([.ref h, .ref g, .int (nI pl), .int (nI mk)])).length) Slot.unset).toArray = ls at hl ⊢
  have hl : lv_has ls 7 [(0, .ref h), (1, .ref g), (2, .int (nI pl)), (3, .int (nI mk))] := hl
  obtain ⟨h_0, h_s, h_n, h_w, h_a, h_t, h_ne⟩ := id hh
  obtain ⟨g_0, g_s, g_n, g_w, g_a, g_t, g_ne⟩ := id hg
  have hne_56 : h ≠ ad 1 := (gw_io h_0 h_n)
  have hne_57 : h ≠ ad 2 := (gw_io h_0 h_w)
  have hne_58 : g ≠ ad 1 := (gw_io g_0 h_n)
  have hne_59 : g ≠ ad 2 := (gw_io g_0 h_w)
  have hne_60 : ad 0 ≠ ad 1 := (fun z => absurd (h_ne 0 1 (by decide) (by decide) z) (by decide))
  have hne_61 : ad 0 ≠ ad 2 := (fun z => absurd (h_ne 0 2 (by decide) (by decide) z) (by decide))
  have hne_62 : ad 1 ≠ ad 2 := (fun z => absurd (h_ne 1 2 (by decide) (by decide) z) (by decide))
  have hne_63 : ad 2 ≠ ad 1 := (fun z => absurd (h_ne 2 1 (by decide) (by decide) z) (by decide))
  have hne_64 : ad 3 ≠ ad 1 := (fun z => absurd (h_ne 3 1 (by decide) (by decide) z) (by decide))
  have hne_65 : ad 3 ≠ ad 2 := (fun z => absurd (h_ne 3 2 (by decide) (by decide) z) (by decide))
  have hne_66 : ad 4 ≠ ad 1 := (fun z => absurd (h_ne 4 1 (by decide) (by decide) z) (by decide))
  have hne_67 : ad 4 ≠ ad 2 := (fun z => absurd (h_ne 4 2 (by decide) (by decide) z) (by decide))
  have hne_68 : ad2 0 ≠ ad 1 := (hdis 1 0 (by decide) (by decide))
  have hne_69 : ad2 0 ≠ ad 2 := (hdis 2 0 (by decide) (by decide))
  have hne_70 : ad2 1 ≠ ad 1 := (hdis 1 1 (by decide) (by decide))
  have hne_71 : ad2 1 ≠ ad 2 := (hdis 2 1 (by decide) (by decide))
  have hne_72 : ad2 2 ≠ ad 1 := (hdis 1 2 (by decide) (by decide))
  have hne_73 : ad2 2 ≠ ad 2 := (hdis 2 2 (by decide) (by decide))
  have hne_74 : ad2 3 ≠ ad 1 := (hdis 1 3 (by decide) (by decide))
  have hne_75 : ad2 3 ≠ ad 2 := (hdis 2 3 (by decide) (by decide))
  have hne_76 : ad2 4 ≠ ad 1 := (hdis 1 4 (by decide) (by decide))
  have hne_77 : ad2 4 ≠ ad 2 := (hdis 2 4 (by decide) (by decide))
  refine lv_iload_n hx hb dX0_mergeDot_0 rfl (lv_at hl 2 rfl) ?_
  refine lv_bipush (v := nI 6) hx hb dX0_mergeDot_1 (by decide) ?_
  refine gw_imul hx hb dX0_mergeDot_3 ?_
  refine lv_iload_n hx hb dX0_mergeDot_4 rfl (lv_at hl 3 rfl) ?_
  refine gw_iadd hx hb dX0_mergeDot_5 ?_
  refine lv_istore (lv' := [(4, .int (nI ((pl * 6) + mk))), (0, .ref h), (1, .ref g), (2, .int (nI pl)), (3, .int (nI mk))]) hx hb dX0_mergeDot_6 hl (by decide) rfl (fun ls hl => ?_)
  refine lv_aload_n hx hb dX0_mergeDot_8 rfl (lv_at hl 2 rfl) ?_
  refine gw_get (ci := 1) (C := RX0) (T := TX0) (N := 5) hx hb hts hinX0 hown hK hG g_0 rfl 1 (by decide) hf15 (fun _ h9 => h9) rfl dX0_mergeDot_9 ?_
  refine lv_iload hx hb dX0_mergeDot_12 (lv_at hl 0 rfl) ?_
  refine gw_iald_n hx hb hK hG g_n 0 rfl (by omega) (by omega) dX0_mergeDot_14 ?_
  refine lv_istore (lv' := [(5, .int (U.2.1 ((pl * 6) + mk))), (4, .int (nI ((pl * 6) + mk))), (0, .ref h), (1, .ref g), (2, .int (nI pl)), (3, .int (nI mk))]) hx hb dX0_mergeDot_15 hl (by decide) rfl (fun ls hl => ?_)
  refine lv_iload hx hb dX0_mergeDot_17 (lv_at hl 0 rfl) ?_
  refine lv_aload_n hx hb dX0_mergeDot_19 rfl (lv_at hl 2 rfl) ?_
  refine gw_get (ci := 1) (C := RX0) (T := TX0) (N := 5) hx hb hts hinX0 hown hK hG h_0 rfl 0 (by decide) hf9 (fun _ h9 => h9) rfl dX0_mergeDot_20 ?_
  refine lv_iload_n hx hb dX0_mergeDot_23 rfl (lv_at hl 5 rfl) ?_
  refine gw_iald_n hx hb hK hG h_s 0 rfl (by omega) (by omega) dX0_mergeDot_24 ?_
  refine lv_icmp_le hx hb (tgt := 67) dX0_mergeDot_25 (by decide) (fun hc => ?_) (fun hc => ?_)
  · have e8 : hmc V U pl mk = 0 := by simp only [hmc, if_pos hc]
    refine lv_aload_n hx hb dX0_mergeDot_67 rfl (lv_at hl 2 rfl) ?_
    refine gw_get (ci := 1) (C := RX0) (T := TX0) (N := 5) hx hb hts hinX0 hown hK hG h_0 rfl 1 (by decide) hf15 (fun _ h9 => h9) rfl dX0_mergeDot_68 ?_
    refine lv_iload hx hb dX0_mergeDot_71 (lv_at hl 1 rfl) ?_
    refine gw_iald_n hx hb hK hG h_n 0 rfl (by omega) (by omega) dX0_mergeDot_73 ?_
    refine lv_iload hx hb dX0_mergeDot_74 (lv_at hl 0 rfl) ?_
    refine lv_icmp_eq hx hb (tgt := 103) dX0_mergeDot_76 (by decide) (fun hq => ?_) (fun hq => ?_)
    · refine lv_iconst (v := nI 0) hx hb dX0_mergeDot_103 (by decide) ?_
      have e9 : hmd V U pl mk = V := by simp only [hmd, if_pos hc, if_pos hq]
      exact gw_zret hx hb hr hlocks hG hT (by omega) (by omega) dX0_mergeDot_104 (Or.inl (by decide)) ⟨by rw [e8], by rw [e9]; exact hh, hg, hfr.rf⟩
    · refine lv_aload_n hx hb dX0_mergeDot_79 rfl (lv_at hl 2 rfl) ?_
      refine gw_get (ci := 1) (C := RX0) (T := TX0) (N := 5) hx hb hts hinX0 hown hK hG h_0 rfl 1 (by decide) hf15 (fun _ h9 => h9) rfl dX0_mergeDot_80 ?_
      refine lv_iload hx hb dX0_mergeDot_83 (lv_at hl 1 rfl) ?_
      refine gw_iald_n hx hb hK hG h_n 0 rfl (by omega) (by omega) dX0_mergeDot_85 ?_
      refine lv_aload_n hx hb dX0_mergeDot_86 rfl (lv_at hl 3 rfl) ?_
      refine gw_get (ci := 1) (C := RX0) (T := TX0) (N := 5) hx hb hts hinX0 hown hK hG g_0 rfl 0 (by decide) hf9 (fun _ h9 => h9) rfl dX0_mergeDot_87 ?_
      refine lv_iload_n hx hb dX0_mergeDot_90 rfl (lv_at hl 5 rfl) ?_
      refine gw_iald_n hx hb hK hG g_s 0 rfl (by omega) (by omega) dX0_mergeDot_91 ?_
      refine lv_icmp_gt hx hb (tgt := 103) dX0_mergeDot_92 (by decide) (fun ht => ?_) (fun ht => ?_)
      · refine lv_iconst (v := nI 0) hx hb dX0_mergeDot_103 (by decide) ?_
        have e9 : hmd V U pl mk = V := by simp only [hmd, if_pos hc, if_neg hq, if_pos ht]
        exact gw_zret hx hb hr hlocks hG hT (by omega) (by omega) dX0_mergeDot_104 (Or.inl (by decide)) ⟨by rw [e8], by rw [e9]; exact hh, hg, hfr.rf⟩
      · refine lv_aload_n hx hb dX0_mergeDot_95 rfl (lv_at hl 2 rfl) ?_
        refine gw_get (ci := 1) (C := RX0) (T := TX0) (N := 5) hx hb hts hinX0 hown hK hG h_0 rfl 1 (by decide) hf15 (fun _ h9 => h9) rfl dX0_mergeDot_96 ?_
        refine lv_iload hx hb dX0_mergeDot_99 (lv_at hl 1 rfl) ?_
        refine lv_iconst (v := nI 0) hx hb dX0_mergeDot_101 (by decide) ?_
        refine gw_iast_n hx hb hK hG h_n 0 rfl (by omega) (by omega) dX0_mergeDot_102 (fun H locs hG => ?_)
        obtain ⟨M_106, hM_107⟩ : ∃ M1 : gw_M, M1 = gw_up M (ad 1) (.inl (K.2.1 0, 408, .inl (upd V.2.1 ((pl * 6) + mk) (nI 0)))) := ⟨_, rfl⟩
        have hG : gw_B K M_106 s.heap H locs := by rw [hM_107]; exact hG
        have hc_108 := (congrFun hM_107 h).trans (gw_k hne_56 h_0)
        have hc_109 := (congrFun hM_107 (ad 0)).trans (gw_k hne_60 h_s)
        have hc_110 : M_106 (ad 1) = some (.inl (K.2.1 0, 408, .inl (upd V.2.1 ((pl * 6) + mk) (nI 0)))) := (congrFun hM_107 _).trans gw_s
        have hc_111 := (congrFun hM_107 (ad 2)).trans (gw_k hne_63 h_w)
        have hc_112 := (congrFun hM_107 (ad 3)).trans (gw_k hne_64 h_a)
        have hc_113 := (congrFun hM_107 (ad 4)).trans (gw_k hne_66 h_t)
        have hc_114 := (congrFun hM_107 g).trans (gw_k hne_58 g_0)
        have hc_115 := (congrFun hM_107 (ad2 0)).trans (gw_k hne_68 g_s)
        have hc_116 := (congrFun hM_107 (ad2 1)).trans (gw_k hne_70 g_n)
        have hc_117 := (congrFun hM_107 (ad2 2)).trans (gw_k hne_72 g_w)
        have hc_118 := (congrFun hM_107 (ad2 3)).trans (gw_k hne_74 g_a)
        have hc_119 := (congrFun hM_107 (ad2 4)).trans (gw_k hne_76 g_t)
        refine lv_iconst (v := nI 0) hx hb dX0_mergeDot_103 (by decide) ?_
        have e9 : hmd V U pl mk = (V.1, upd V.2.1 (pl * 6 + mk) (nI 0), V.2.2) := by simp only [hmd, if_pos hc, if_neg hq, if_neg ht]
        exact gw_zret hx hb hr hlocks hG hT (by omega) (by omega) dX0_mergeDot_104 (Or.inl (by decide)) ⟨by rw [e8], by rw [e9]; exact ⟨hc_108, hc_109, hc_110, hc_111, hc_112, hc_113, h_ne⟩, ⟨hc_114, hc_115, hc_116, hc_117, hc_118, hc_119, g_ne⟩, fun q hq => by rw [hM_107, gw_n (hq 1 (by decide))]⟩
  · refine lv_aload_n hx hb dX0_mergeDot_28 rfl (lv_at hl 2 rfl) ?_
    refine gw_get (ci := 1) (C := RX0) (T := TX0) (N := 5) hx hb hts hinX0 hown hK hG h_0 rfl 1 (by decide) hf15 (fun _ h9 => h9) rfl dX0_mergeDot_29 ?_
    refine lv_iload hx hb dX0_mergeDot_32 (lv_at hl 1 rfl) ?_
    refine lv_iload hx hb dX0_mergeDot_34 (lv_at hl 0 rfl) ?_
    refine gw_iast_n hx hb hK hG h_n 0 rfl (by omega) (by omega) dX0_mergeDot_36 (fun H locs hG => ?_)
    obtain ⟨M_78, hM_79⟩ : ∃ M1 : gw_M, M1 = gw_up M (ad 1) (.inl (K.2.1 0, 408, .inl (upd V.2.1 ((pl * 6) + mk) (U.2.1 ((pl * 6) + mk))))) := ⟨_, rfl⟩
    have hG : gw_B K M_78 s.heap H locs := by rw [hM_79]; exact hG
    have hc_80 := (congrFun hM_79 h).trans (gw_k hne_56 h_0)
    have hc_81 := (congrFun hM_79 (ad 0)).trans (gw_k hne_60 h_s)
    have hc_82 : M_78 (ad 1) = some (.inl (K.2.1 0, 408, .inl (upd V.2.1 ((pl * 6) + mk) (U.2.1 ((pl * 6) + mk))))) := (congrFun hM_79 _).trans gw_s
    have hc_83 := (congrFun hM_79 (ad 2)).trans (gw_k hne_63 h_w)
    have hc_84 := (congrFun hM_79 (ad 3)).trans (gw_k hne_64 h_a)
    have hc_85 := (congrFun hM_79 (ad 4)).trans (gw_k hne_66 h_t)
    have hc_86 := (congrFun hM_79 g).trans (gw_k hne_58 g_0)
    have hc_87 := (congrFun hM_79 (ad2 0)).trans (gw_k hne_68 g_s)
    have hc_88 := (congrFun hM_79 (ad2 1)).trans (gw_k hne_70 g_n)
    have hc_89 := (congrFun hM_79 (ad2 2)).trans (gw_k hne_72 g_w)
    have hc_90 := (congrFun hM_79 (ad2 3)).trans (gw_k hne_74 g_a)
    have hc_91 := (congrFun hM_79 (ad2 4)).trans (gw_k hne_76 g_t)
    refine lv_iload_n hx hb dX0_mergeDot_37 rfl (lv_at hl 4 rfl) ?_
    refine lv_bipush (v := nI 64) hx hb dX0_mergeDot_38 (by decide) ?_
    refine gw_icmp_lt hx hb (by omega) (by omega) (tgt := 65) dX0_mergeDot_40 (by decide) (fun h64 => ?_) (fun h64 => ?_)
    · refine lv_iconst (v := nI 1) hx hb dX0_mergeDot_65 (by decide) ?_
      have e9 : hmd V U pl mk = (V.1, upd V.2.1 (pl * 6 + mk) (U.2.1 (pl * 6 + mk)), V.2.2) := by simp only [hmd, if_neg hc, if_pos h64]
      have e8 : hmc V U pl mk = 1 := by simp only [hmc, if_neg hc]
      exact gw_zret hx hb hr hlocks hG hT (by omega) (by omega) dX0_mergeDot_66 (Or.inr (by decide)) ⟨by rw [e8], by rw [e9]; exact ⟨hc_80, hc_81, hc_82, hc_83, hc_84, hc_85, h_ne⟩, ⟨hc_86, hc_87, hc_88, hc_89, hc_90, hc_91, g_ne⟩, fun q hq => by rw [hM_79, gw_n (hq 1 (by decide))]⟩
    · refine lv_iload hx hb dX0_mergeDot_43 (lv_at hl 1 rfl) ?_
      refine lv_sipush (v := nI 384) hx hb dX0_mergeDot_45 (by decide) ?_
      refine gw_isub hx hb (by omega) dX0_mergeDot_48 ?_
      refine lv_istore (lv' := [(6, .int (nI (((pl * 6) + mk) - 384))), (5, .int (U.2.1 ((pl * 6) + mk))), (4, .int (nI ((pl * 6) + mk))), (0, .ref h), (1, .ref g), (2, .int (nI pl)), (3, .int (nI mk))]) hx hb dX0_mergeDot_49 hl (by decide) rfl (fun ls hl => ?_)
      refine lv_aload_n hx hb dX0_mergeDot_51 rfl (lv_at hl 3 rfl) ?_
      refine gw_get (ci := 1) (C := RX0) (T := TX0) (N := 5) hx hb hts hinX0 hown hK hG hc_80 rfl 2 (by decide) hf18 (fun _ h9 => h9) rfl dX0_mergeDot_52 ?_
      refine lv_iload hx hb dX0_mergeDot_55 (lv_at hl 0 rfl) ?_
      refine lv_aload_n hx hb dX0_mergeDot_57 rfl (lv_at hl 4 rfl) ?_
      refine gw_get (ci := 1) (C := RX0) (T := TX0) (N := 5) hx hb hts hinX0 hown hK hG hc_86 rfl 2 (by decide) hf18 (fun _ h9 => h9) rfl dX0_mergeDot_58 ?_
      refine lv_iload hx hb dX0_mergeDot_61 (lv_at hl 0 rfl) ?_
      refine gw_iald_n hx hb hK hG hc_89 0 rfl (by omega) (by omega) dX0_mergeDot_63 ?_
      refine gw_iast_n hx hb hK hG hc_83 0 rfl (by omega) (by omega) dX0_mergeDot_64 (fun H locs hG => ?_)
      obtain ⟨M_92, hM_93⟩ : ∃ M1 : gw_M, M1 = gw_up M_78 (ad 2) (.inl (K.2.1 0, 24, .inl (upd V.2.2.1 (((pl * 6) + mk) - 384) (U.2.2.1 (((pl * 6) + mk) - 384))))) := ⟨_, rfl⟩
      have hG : gw_B K M_92 s.heap H locs := by rw [hM_93]; exact hG
      have hc_94 := (congrFun hM_93 h).trans (gw_k hne_57 hc_80)
      have hc_95 := (congrFun hM_93 (ad 0)).trans (gw_k hne_61 hc_81)
      have hc_96 := (congrFun hM_93 (ad 1)).trans (gw_k hne_62 hc_82)
      have hc_97 : M_92 (ad 2) = some (.inl (K.2.1 0, 24, .inl (upd V.2.2.1 (((pl * 6) + mk) - 384) (U.2.2.1 (((pl * 6) + mk) - 384))))) := (congrFun hM_93 _).trans gw_s
      have hc_98 := (congrFun hM_93 (ad 3)).trans (gw_k hne_65 hc_84)
      have hc_99 := (congrFun hM_93 (ad 4)).trans (gw_k hne_67 hc_85)
      have hc_100 := (congrFun hM_93 g).trans (gw_k hne_59 hc_86)
      have hc_101 := (congrFun hM_93 (ad2 0)).trans (gw_k hne_69 hc_87)
      have hc_102 := (congrFun hM_93 (ad2 1)).trans (gw_k hne_71 hc_88)
      have hc_103 := (congrFun hM_93 (ad2 2)).trans (gw_k hne_73 hc_89)
      have hc_104 := (congrFun hM_93 (ad2 3)).trans (gw_k hne_75 hc_90)
      have hc_105 := (congrFun hM_93 (ad2 4)).trans (gw_k hne_77 hc_91)
      refine lv_iconst (v := nI 1) hx hb dX0_mergeDot_65 (by decide) ?_
      have e9 : hmd V U pl mk = (V.1, upd V.2.1 (pl * 6 + mk) (U.2.1 (pl * 6 + mk)), upd V.2.2.1 (pl * 6 + mk - 384) (U.2.2.1 (pl * 6 + mk - 384)), V.2.2.2) := by simp only [hmd, if_neg hc, if_neg (Nat.not_lt.mpr h64)]
      have e8 : hmc V U pl mk = 1 := by simp only [hmc, if_neg hc]
      exact gw_zret hx hb hr hlocks hG hT (by omega) (by omega) dX0_mergeDot_66 (Or.inr (by decide)) ⟨by rw [e8], by rw [e9]; exact ⟨hc_94, hc_95, hc_96, hc_97, hc_98, hc_99, h_ne⟩, ⟨hc_100, hc_101, hc_102, hc_103, hc_104, hc_105, g_ne⟩, fun q hq => by rw [hM_93, gw_n (hq 2 (by decide)), hM_79, gw_n (hq 1 (by decide))]⟩
