/-! WHAT EVERY RUN KEEPS -/
def own (S : gst) (m : Nat) : Int := ((S.2.1 m).1 m).toInt
def okV (o : Nat → Int) (V : hV) : Prop := (∀ m, m < 6 → 0 ≤ (V.1 m).toInt ∧ (V.1 m).toInt ≤ o m) ∧ ∀ j, j < 408 → 0 ≤ (V.2.1 j).toInt ∧ (V.2.1 j).toInt ≤ (V.1 (j % 6)).toInt
def agr (V U : hV) : Prop := ∀ j, 384 ≤ j → j < 408 → V.2.1 j = U.2.1 j → V.2.1 j ≠ 0 → V.2.2.1 (j - 384) = U.2.2.1 (j - 384)
theorem agr.rf (V : hV) : agr V V := fun _ _ _ _ _ => rfl
theorem agr.sy {V U : hV} (h : agr V U) : agr U V := fun j a b c d => (h j a b c.symm (by rw [← c]; exact d)).symm
def vin (S : gst) (V : hV) : Prop := (∃ i, i < 6 ∧ V = S.2.1 i) ∨ ∃ k, k < S.2.2.1 ∧ V = S.2.2.2.2.2 k
def Inv (S : gst) (t : Nat) : Prop := (∀ V, vin S V → okV (own S) V) ∧ (∀ V U, vin S V → vin S U → agr V U) ∧ ∀ m, m < 6 → own S m ≤ t
theorem vin_h {S : gst} {i : Nat} (h : i < 6) : vin S (S.2.1 i) := Or.inl ⟨i, h, rfl⟩
theorem vin_m {S : gst} {k : Nat} (h : k < S.2.2.1) : vin S (S.2.2.2.2.2 k) := Or.inr ⟨k, h, rfl⟩
theorem Inv.nng {S : gst} {t : Nat} (h : Inv S t) {V : hV} (hV : vin S V) : nng V := fun j hj => ((h.1 V hV).2 j hj).1
theorem Inv.le {S : gst} {t : Nat} (h : Inv S t) {V : hV} (hV : vin S V) : ∀ j, j < 408 → V.2.1 j ≤ V.1 (j % 6) := fun j hj => Int32.le_iff_toInt_le.mpr ((h.1 V hV).2 j hj).2
theorem Inv.mono {S : gst} {t t' : Nat} (h : Inv S t) (ht : t ≤ t') : Inv S t' := ⟨h.1, h.2.1, fun m hm => by have := h.2.2 m hm; omega⟩
theorem okV_mono {o o' : Nat → Int} {V : hV} (h : okV o V) (ho : ∀ m, m < 6 → o m ≤ o' m) : okV o' V := ⟨fun m hm => ⟨(h.1 m hm).1, by have := (h.1 m hm).2; have := ho m hm; omega⟩, h.2⟩
theorem okV_veq {o : Nat → Int} {V U : hV} (h : okV o V) (he : veq U V) : okV o U := ⟨fun m hm => by rw [he.1 m hm]; exact h.1 m hm, fun j hj => by rw [he.2.1 j hj, he.1 (j % 6) (by omega)]; exact h.2 j hj⟩
theorem agr_veq {V V' U : hV} (h : agr V U) (he : veq V' V) : agr V' U := fun j a b c d => by
  rw [he.2.1 j b] at c d
  rw [he.2.2.1 (j - 384) (by omega)]
  exact h j a b c d
theorem Inv_hold {S : gst} {t t' i : Nat} {V : hV} (h : Inv S t) (hi : i < 6) (htt : t ≤ t') (hA : own S i ≤ (V.1 i).toInt) (hD : (V.1 i).toInt ≤ t') (hB : ∀ m, m < 6 → 0 ≤ (V.1 m).toInt ∧ (m ≠ i → (V.1 m).toInt ≤ own S m)) (hB2 : ∀ j, j < 408 → 0 ≤ (V.2.1 j).toInt ∧ (V.2.1 j).toInt ≤ (V.1 (j % 6)).toInt) (hC : ∀ U, vin S U → agr V U) : Inv (shold S i V) t' := by
  have ow : ∀ m, own (shold S i V) m = if m = i then (V.1 m).toInt else own S m := fun m => by
    show ((if m = i then V else S.2.1 m).1 m).toInt = _
    by_cases hm : m = i
    · rw [if_pos hm, if_pos hm]
    · rw [if_neg hm, if_neg hm]
      rfl
  have vi : ∀ W, vin (shold S i V) W → W = V ∨ vin S W := fun W hW => by
    rcases hW with ⟨k, hk, e⟩ | ⟨k, hk, e⟩
    · have e : W = (if k = i then V else S.2.1 k) := e
      by_cases hki : k = i
      · rw [if_pos hki] at e
        exact Or.inl e
      · rw [if_neg hki] at e
        exact Or.inr (Or.inl ⟨k, hk, e⟩)
    · exact Or.inr (Or.inr ⟨k, hk, e⟩)
  refine ⟨fun W hW => ?_, fun W U hW hU => ?_, fun m hm => ?_⟩
  · rcases vi W hW with e | e
    · rw [e]
      refine ⟨fun m hm => ⟨(hB m hm).1, ?_⟩, hB2⟩
      rw [ow]
      by_cases hmi : m = i
      · rw [if_pos hmi]
        exact Int.le_refl _
      · rw [if_neg hmi]
        exact (hB m hm).2 hmi
    · refine okV_mono (h.1 W e) (fun m hm => ?_)
      rw [ow]
      by_cases hmi : m = i
      · rw [if_pos hmi, hmi]
        exact hA
      · rw [if_neg hmi]
        exact Int.le_refl _
  · rcases vi W hW with e | e <;> rcases vi U hU with e2 | e2
    · rw [e, e2]
      exact agr.rf V
    · rw [e]
      exact hC U e2
    · rw [e2]
      exact (hC W e).sy
    · exact h.2.1 W U e e2
  · rw [ow]
    by_cases hmi : m = i
    · rw [if_pos hmi, hmi]
      exact hD
    · rw [if_neg hmi]
      have := h.2.2 m hm
      omega
/-- dots have gone, nothing else that matters -/
def shr (V V' : hV) : Prop := V'.1 = V.1 ∧ (∀ j, V'.2.1 j = V.2.1 j ∨ V'.2.1 j = 0) ∧ V'.2.2.1 = V.2.2.1
theorem Inv_shr {S : gst} {t i : Nat} {V : hV} (h : Inv S t) (hi : i < 6) (hs : shr (S.2.1 i) V) : Inv (shold S i V) t := by
  obtain ⟨s1, s2, s3⟩ := hs
  have hk := h.1 _ (vin_h hi)
  refine Inv_hold h hi (Nat.le_refl t) (by rw [s1]; exact Int.le_refl _) (by rw [s1]; exact h.2.2 i hi) (fun m hm => ⟨by rw [s1]; exact (hk.1 m hm).1, fun _ => by rw [s1]; exact (hk.1 m hm).2⟩) (fun j hj => ?_) (fun U hU => fun j a b c d => ?_)
  · rw [s1]
    rcases s2 j with e | e
    · rw [e]
      exact hk.2 j hj
    · rw [e]
      have h1 := hk.2 j hj
      have e0 : (0 : Int32).toInt = 0 := by decide
      rw [e0]
      omega
  · rw [s3]
    rcases s2 j with e | e
    · rw [e] at c d
      exact h.2.1 _ U (vin_h hi) hU j a b c d
    · exact absurd e d
theorem shr_rem (V : hV) (pl : Nat) : shr V (vrem V pl) := ⟨rfl, fun j => by
  show (if pl * 6 ≤ j ∧ j < pl * 6 + 6 then 0 else V.2.1 j) = V.2.1 j ∨ (if pl * 6 ≤ j ∧ j < pl * 6 + 6 then 0 else V.2.1 j) = 0
  split
  · exact Or.inr rfl
  · exact Or.inl rfl, rfl⟩
theorem shr_tr {V U W : hV} (h : shr V U) (g : shr U W) : shr V W := ⟨g.1.trans h.1, fun j => (g.2.1 j).elim (fun e => by rw [e]; exact h.2.1 j) Or.inr, g.2.2.trans h.2.2⟩
theorem shr_cl (V : hV) (ks : Nat) : ∀ i, shr V (vcl V ks i).1 := by
  intro i
  induction i with
  | zero => exact ⟨rfl, fun _ => Or.inl rfl, rfl⟩
  | succ i ih => exact shr_tr ih (shr_rem _ _)
theorem shr_cnt (V : hV) (rk k : Nat) (b : Int32) : shr V (vcnt V rk k b) := ⟨rfl, fun _ => Or.inl rfl, rfl⟩
theorem toInt_succ {x : Int32} (h0 : 0 ≤ x.toInt) (h : x.toInt ≤ 600) : (x + nI 1).toInt = x.toInt + 1 := by
  obtain ⟨n, hn, e⟩ := nI_of (x := x) (fun q => by
    have h1 := Int32.lt_iff_toInt_lt.mp q
    have e0 : (0 : Int32).toInt = 0 := by decide
    omega)
  rw [e] at h ⊢
  rw [nI_toInt hn] at h
  rw [nI_add, nI_toInt (by omega), nI_toInt hn]
  omega
/-- a new dot has come -/
theorem Inv_dot {S : gst} {t i p : Nat} {V : hV} (h : Inv S t) (hi : i < 6) (ht : t ≤ 600) (hp : p < 408) (hpi : p % 6 = i) (h1 : V.1 = upd (S.2.1 i).1 i ((S.2.1 i).1 i + nI 1)) (h2 : V.2.1 p = (S.2.1 i).1 i + nI 1) (h3 : ∀ j, j ≠ p → V.2.1 j = (S.2.1 i).2.1 j ∨ V.2.1 j = 0) (h4 : ∀ j, 384 ≤ j → j ≠ p → V.2.2.1 (j - 384) = (S.2.1 i).2.2.1 (j - 384)) : Inv (shold S i V) (t + 1) := by
  have hk := h.1 _ (vin_h hi)
  have ho := h.2.2 i hi
  have e0 : (0 : Int32).toInt = 0 := by decide
  have hn := toInt_succ (hk.1 i hi).1 (show ((S.2.1 i).1 i).toInt ≤ 600 by have : ((S.2.1 i).1 i).toInt ≤ t := ho; omega)
  have hv : ∀ m, (V.1 m).toInt = if m = i then ((S.2.1 i).1 i).toInt + 1 else ((S.2.1 i).1 m).toInt := fun m => by
    rw [h1]
    show (if m = i then (S.2.1 i).1 i + nI 1 else (S.2.1 i).1 m).toInt = _
    by_cases hm : m = i
    · rw [if_pos hm, if_pos hm, hn]
    · rw [if_neg hm, if_neg hm]
  have ho : ((S.2.1 i).1 i).toInt ≤ t := ho
  have h0 := (hk.1 i hi).1
  refine Inv_hold h hi (Nat.le_succ t) (by rw [hv, if_pos rfl]; show ((S.2.1 i).1 i).toInt ≤ _; omega) (by rw [hv, if_pos rfl]; omega) (fun m hm => ?_) (fun j hj => ?_) (fun U hU => fun j a b c d => ?_)
  · rw [hv]
    by_cases hmi : m = i
    · rw [if_pos hmi]
      exact ⟨by omega, fun q => absurd hmi q⟩
    · rw [if_neg hmi]
      exact ⟨(hk.1 m hm).1, fun _ => (hk.1 m hm).2⟩
  · by_cases hjp : j = p
    · rw [hjp, h2, hn, hpi, hv, if_pos rfl]
      exact ⟨by omega, Int.le_refl _⟩
    · rw [hv]
      have h9 := hk.2 j hj
      rcases h3 j hjp with e | e
      · rw [e]
        by_cases hm : j % 6 = i
        · rw [if_pos hm]
          rw [hm] at h9
          exact ⟨h9.1, by omega⟩
        · rw [if_neg hm]
          exact h9
      · rw [e, e0]
        by_cases hm : j % 6 = i
        · rw [if_pos hm]
          exact ⟨Int.le_refl _, by omega⟩
        · rw [if_neg hm]
          exact ⟨Int.le_refl _, by omega⟩
  · by_cases hjp : j = p
    · rw [hjp] at c
      have hu := h.1 U hU
      have h7 := (hu.2 p hp).2
      have h8 := (hu.1 i hi).2
      rw [hpi] at h7
      rw [← c, h2, hn] at h7
      have h8 : (U.1 i).toInt ≤ ((S.2.1 i).1 i).toInt := h8
      omega
    · rw [h4 j a hjp]
      rcases h3 j hjp with e | e
      · rw [e] at c d
        exact h.2.1 _ U (vin_h hi) hU j a b c d
      · exact absurd e d
theorem Inv_add {S : gst} {t i pl : Nat} (h : Inv S t) (hi : i < 6) (ht : t ≤ 600) (hp : pl < 64) : Inv (shold S i (vadd (S.2.1 i) i pl)) (t + 1) := by
  refine Inv_dot h hi ht (p := pl * 6 + i) (by omega) (by omega) rfl (upd_at _ _ _) (fun j hj => ?_) (fun j _ _ => rfl)
  have e : (vadd (S.2.1 i) i pl).2.1 j = hclr (S.2.1 i).2.1 pl 6 j := upd_of _ _ hj
  rw [e]
  exact (shr_rem (S.2.1 i) pl).2.1 j
set_option maxRecDepth 100000 in
theorem Inv_wr {S : gst} {t i k : Nat} {v : Int32} (h : Inv S t) (hi : i < 6) (ht : t ≤ 600) (hk : k < 4) : Inv (shold S i (vwr (S.2.1 i) i k v)) (t + 1) := by
  refine Inv_dot h hi ht (p := (64 + k) * 6 + i) (by omega) (by omega) rfl (upd_at _ _ _) (fun j hj => ?_) (fun j h9 hj => ?_)
  · have e : (vwr (S.2.1 i) i k v).2.1 j = hclr (S.2.1 i).2.1 (64 + k) 6 j := upd_of _ _ hj
    rw [e]
    exact (shr_rem (S.2.1 i) (64 + k)).2.1 j
  · have h5 : j - 384 ≠ k * 6 + i := by omega
    exact upd_of _ _ h5
theorem veq_sn (V : hV) : veq (vsn V) V := by
  refine ⟨fun k hk => ?_, fun k hk => ?_, fun k hk => ?_, fun k hk => ?_, fun k hk => ?_⟩
  · show (if 0 ≤ k ∧ k < 0 + 6 then V.1 (0 + (k - 0)) else _) = _
    rw [if_pos (by omega), Nat.zero_add, Nat.sub_zero]
  · show (if 0 ≤ k ∧ k < 0 + 408 then V.2.1 (0 + (k - 0)) else _) = _
    rw [if_pos (by omega), Nat.zero_add, Nat.sub_zero]
  · show (if 0 ≤ k ∧ k < 0 + 24 then V.2.2.1 (0 + (k - 0)) else _) = _
    rw [if_pos (by omega), Nat.zero_add, Nat.sub_zero]
  · show (if 0 ≤ k ∧ k < 0 + 24 then V.2.2.2.1 (0 + (k - 0)) else _) = _
    rw [if_pos (by omega), Nat.zero_add, Nat.sub_zero]
  · show (if 0 ≤ k ∧ k < 0 + 24 then V.2.2.2.2 (0 + (k - 0)) else _) = _
    rw [if_pos (by omega), Nat.zero_add, Nat.sub_zero]
theorem Inv_msg {S : gst} {t f g : Nat} {V V0 : hV} (h : Inv S t) (h0 : vin S V0) (hv : veq V V0) : Inv (smsg S f g V) t := by
  have vi : ∀ W, vin (smsg S f g V) W → W = V ∨ vin S W := fun W hW => by
    rcases hW with ⟨k, hk, e⟩ | ⟨k, hk, e⟩
    · exact Or.inr (Or.inl ⟨k, hk, e⟩)
    · have e : W = (if k = S.2.2.1 then V else S.2.2.2.2.2 k) := e
      have hk : k < S.2.2.1 + 1 := hk
      by_cases hki : k = S.2.2.1
      · rw [if_pos hki] at e
        exact Or.inl e
      · rw [if_neg hki] at e
        exact Or.inr (Or.inr ⟨k, by omega, e⟩)
  refine ⟨fun W hW => ?_, fun W U hW hU => ?_, h.2.2⟩
  · rcases vi W hW with e | e
    · rw [e]
      exact okV_veq (h.1 V0 h0) hv
    · exact h.1 W e
  · rcases vi W hW with e | e <;> rcases vi U hU with e2 | e2
    · rw [e, e2]
      exact agr.rf V
    · rw [e]
      exact agr_veq (h.2.1 V0 U h0 e2) hv
    · rw [e2]
      exact (agr_veq (h.2.1 V0 W h0 e) hv).sy
    · exact h.2.1 W U e e2
theorem vin_del {S : gst} {i : Nat} (hi : i < S.2.2.1) {W : hV} (hW : vin (sdel S i) W) : vin S W := by
  rcases hW with ⟨k, hk, e⟩ | ⟨k, hk, e⟩
  · exact Or.inl ⟨k, hk, e⟩
  · have e : W = (if k < i then S.2.2.2.2.2 k else S.2.2.2.2.2 (k + 1)) := e
    have hk : k < S.2.2.1 - 1 := hk
    by_cases hki : k < i
    · rw [if_pos hki] at e
      exact Or.inr ⟨k, by omega, e⟩
    · rw [if_neg hki] at e
      exact Or.inr ⟨k + 1, by omega, e⟩
theorem Inv_del {S : gst} {t i : Nat} (h : Inv S t) (hi : i < S.2.2.1) : Inv (sdel S i) t := ⟨fun W hW => h.1 W (vin_del hi hW), fun W U hW hU => h.2.1 W U (vin_del hi hW) (vin_del hi hU), h.2.2⟩
theorem Inv_to {S : gst} {t i g : Nat} (h : Inv S t) : Inv (sto S i g) t := h
theorem Inv_zero {S : gst} {t : Nat} (hz : ∀ V, vin S V → (∀ m, m < 6 → V.1 m = 0) ∧ ∀ j, j < 408 → V.2.1 j = 0) : Inv S t := by
  have e0 : (0 : Int32).toInt = 0 := by decide
  have ow : ∀ m, m < 6 → own S m = 0 := fun m hm => by
    show ((S.2.1 m).1 m).toInt = 0
    rw [(hz _ (vin_h hm)).1 m hm, e0]
  refine ⟨fun V hV => ⟨fun m hm => ?_, fun j hj => ?_⟩, fun V U hV hU j a b c d => absurd ((hz V hV).2 j b) d, fun m hm => by rw [ow m hm]; omega⟩
  · rw [(hz V hV).1 m hm, ow m hm, e0]
    exact ⟨Int.le_refl _, Int.le_refl _⟩
  · rw [(hz V hV).2 j hj, (hz V hV).1 (j % 6) (by omega), e0]
    exact ⟨Int.le_refl _, Int.le_refl _⟩
theorem Inv_open {S : gst} {t k9 : Nat} : Inv (sopen S k9) t := by
  refine Inv_zero (fun V hV => ?_)
  rcases hV with ⟨k, hk, e⟩ | ⟨k, hk, e⟩
  · have e : V = (if k < 6 then vwp (S.2.1 k) else S.2.1 k) := e
    rw [if_pos hk] at e
    rw [e]
    exact ⟨fun m hm => ffl_in hm, fun j hj => ffl_in hj⟩
  · exact absurd hk (Nat.not_lt_zero k)
theorem Inv_new : Inv snew 0 := Inv_zero (fun V hV => by
  rcases hV with ⟨k, hk, e⟩ | ⟨k, hk, e⟩
  · rw [e]
    exact ⟨fun _ _ => rfl, fun _ _ => rfl⟩
  · exact absurd hk (Nat.not_lt_zero k))
theorem hmx_in {f g : Nat → Int32} {k : Nat} (h : k < 6) : hmx f g 6 k = if f k < g k then g k else f k := if_pos h
/-- delivered -/
theorem Inv_mrg {S : gst} {t k i : Nat} (h : Inv S t) (hk : k < S.2.2.1) (hi : i < 6) {F : hV × Nat} (hF : F = hmf (S.2.1 i) (S.2.2.2.2.2 k) 408) {V : hV} (h1 : V.1 = hmx F.1.1 (S.2.2.2.2.2 k).1 6) (h2 : V.2.1 = F.1.2.1) (h3 : V.2.2.1 = F.1.2.2.1) : Inv (shold (sdel S k) i V) t := by
  have hd := Inv_del h hk
  have kA := h.1 _ (vin_h hi)
  have kB := h.1 _ (vin_m hk)
  obtain ⟨p1, -, -, p4⟩ := hmf_pt (S.2.1 i) (S.2.2.2.2.2 k) 408 (Nat.le_refl _)
  rw [← hF] at p1
  have pt : ∀ j, j < 408 → V.2.1 j = 0 ∨ (V.2.1 j = (S.2.1 i).2.1 j ∧ (384 ≤ j → V.2.2.1 (j - 384) = (S.2.1 i).2.2.1 (j - 384))) ∨ (V.2.1 j = (S.2.2.2.2.2 k).2.1 j ∧ (384 ≤ j → V.2.2.1 (j - 384) = (S.2.2.2.2.2 k).2.2.1 (j - 384))) := fun j hj => by
    have h9 := p4 j hj
    rw [← hF, ← h2, ← h3] at h9
    exact h9
  have hv : ∀ m, m < 6 → ((S.2.1 i).1 m).toInt ≤ (V.1 m).toInt ∧ ((S.2.2.2.2.2 k).1 m).toInt ≤ (V.1 m).toInt ∧ ((V.1 m).toInt = ((S.2.1 i).1 m).toInt ∨ (V.1 m).toInt = ((S.2.2.2.2.2 k).1 m).toInt) := fun m hm => by
    rw [h1, hmx_in hm, p1]
    by_cases hl : (S.2.1 i).1 m < (S.2.2.2.2.2 k).1 m
    · rw [if_pos hl]
      exact ⟨by have := Int32.lt_iff_toInt_lt.mp hl; omega, Int.le_refl _, Or.inr rfl⟩
    · rw [if_neg hl]
      exact ⟨Int.le_refl _, Int32.le_iff_toInt_le.mp (Int32.not_lt.mp hl), Or.inl rfl⟩
  have ho : own S i ≤ t := h.2.2 i hi
  refine Inv_hold hd hi (Nat.le_refl t) (hv i hi).1 ?_ (fun m hm => ⟨?_, fun _ => ?_⟩) (fun j hj => ?_) (fun U hU j a b c d => ?_)
  · rcases (hv i hi).2.2 with e | e
    · rw [e]
      exact ho
    · rw [e]
      have := (kB.1 i hi).2
      omega
  · have := (kA.1 m hm).1
    have := (hv m hm).1
    omega
  · show (V.1 m).toInt ≤ own S m
    rcases (hv m hm).2.2 with e | e
    · rw [e]
      exact (kA.1 m hm).2
    · rw [e]
      exact (kB.1 m hm).2
  · have a1 := hv (j % 6) (by omega)
    have a2 := kA.2 j hj
    have a3 := kB.2 j hj
    rcases pt j hj with e | ⟨e, -⟩ | ⟨e, -⟩
    · rw [e]
      have e0 : (0 : Int32).toInt = 0 := by decide
      rw [e0]
      omega
    · rw [e]
      omega
    · rw [e]
      omega
  · rcases pt j b with e | ⟨e, e2⟩ | ⟨e, e2⟩
    · exact absurd e d
    · rw [e2 a]
      rw [e] at c d
      exact h.2.1 _ U (vin_h hi) (vin_del hk hU) j a b c d
    · rw [e2 a]
      rw [e] at c d
      exact h.2.1 _ U (vin_m hk) (vin_del hk hU) j a b c d
/-- same -/
theorem same_iff {S : gst} {t ra rb : Nat} {tb vb : Nat → Int32} {sb : Nat → Int64} (h : Inv S t) (ha : ra < 6) (hb : rb < 6) (hA : veq (S.2.1 ra) (vw tb vb sb ra)) (hB : veq (S.2.1 rb) (vw tb vb sb rb)) :
    heq (S.2.1 ra) (S.2.1 rb) ↔ (((True ∧ ∀ k, k < 414 → sm1 tb ra rb k) ∧ ∀ k, k < 24 → sm2 tb vb ra rb k) ∧ ∀ k, k < 48 → sm3 sb ra rb k) := by
  constructor
  · intro q
    obtain ⟨q1, q2, q3, q4⟩ := q
    refine ⟨⟨⟨trivial, fun k hk => ?_⟩, fun k hk => ?_⟩, fun k hk => ?_⟩
    · by_cases h6 : k < 6
      · exact (hA.1 k h6).symm.trans ((q1 k h6).trans (hB.1 k h6))
      · have h9 := (hA.2.1 (k - 6) (by omega)).symm.trans ((q2 (k - 6) (by omega)).trans (hB.2.1 (k - 6) (by omega)))
        have h9 : tb (414 * ra + 6 + (k - 6)) = tb (414 * rb + 6 + (k - 6)) := h9
        rw [show 414 * ra + 6 + (k - 6) = 414 * ra + k by omega, show 414 * rb + 6 + (k - 6) = 414 * rb + k by omega] at h9
        exact h9
    · have e1 : (S.2.1 ra).2.1 (384 + k) = tb (414 * ra + 6 + 6 * 64 + k) := (hA.2.1 (384 + k) (by omega)).trans (congrArg tb (show 414 * ra + 6 + (384 + k) = 414 * ra + 6 + 6 * 64 + k by omega))
      by_cases hz : (S.2.1 ra).2.1 (384 + k) = 0
      · exact Or.inl (by rw [← e1, hz]; decide)
      · have h9 := h.2.1 _ _ (vin_h ha) (vin_h hb) (384 + k) (by omega) (by omega) (q2 _ (by omega)) hz
        rw [Nat.add_sub_cancel_left] at h9
        exact Or.inr ((hA.2.2.1 k hk).symm.trans (h9.trans (hB.2.2.1 k hk)))
    · by_cases h6 : k < 24
      · exact (hA.2.2.2.1 k h6).symm.trans ((q3 k h6).trans (hB.2.2.2.1 k h6))
      · have h9 : sb (48 * ra + 24 + (k - 24)) = sb (48 * rb + 24 + (k - 24)) := (hA.2.2.2.2 (k - 24) (by omega)).symm.trans ((q4 (k - 24) (by omega)).trans (hB.2.2.2.2 (k - 24) (by omega)))
        rw [show 48 * ra + 24 + (k - 24) = 48 * ra + k by omega, show 48 * rb + 24 + (k - 24) = 48 * rb + k by omega] at h9
        exact h9
  · intro q
    obtain ⟨⟨⟨-, q1⟩, -⟩, q3⟩ := q
    refine ⟨fun k hk => ?_, fun k hk => ?_, fun k hk => ?_, fun k hk => ?_⟩
    · exact (hA.1 k hk).trans ((q1 k (by omega)).trans (hB.1 k hk).symm)
    · have h9 : tb (414 * ra + (6 + k)) = tb (414 * rb + (6 + k)) := q1 (6 + k) (by omega)
      rw [← Nat.add_assoc, ← Nat.add_assoc] at h9
      exact (hA.2.1 k hk).trans (h9.trans (hB.2.1 k hk).symm)
    · exact (hA.2.2.2.1 k hk).trans ((q3 k (by omega)).trans (hB.2.2.2.1 k hk).symm)
    · have h9 : sb (48 * ra + (24 + k)) = sb (48 * rb + (24 + k)) := q3 (24 + k) (by omega)
      rw [← Nat.add_assoc, ← Nat.add_assoc] at h9
      exact (hA.2.2.2.2 k hk).trans (h9.trans (hB.2.2.2.2 k hk).symm)
