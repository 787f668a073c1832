theorem upd_at (f : Nat → Int32) (p : Nat) (v : Int32) : upd f p v p = v := if_pos rfl
theorem upd_of (f : Nat → Int32) {p j : Nat} (v : Int32) (h : j ≠ p) : upd f p v j = f j := if_neg h
theorem upd_id (f : Nat → Int32) (p : Nat) : upd f p (f p) = f := by
  funext j
  show (if j = p then f p else f j) = f j
  by_cases h : j = p
  · rw [if_pos h, h]
  · rw [if_neg h]
theorem veq_upd {W : hV} {T Vb : Nat → Int32} {sb : Nat → Int64} {he pl mk : Nat} {v : Int32} (h : veq W (vw T Vb sb he)) (hp : pl < 68) (hk : mk < 6) : veq (W.1, upd W.2.1 (pl * 6 + mk) v, W.2.2) (vw (upd T (414 * he + 6 + 6 * pl + mk) v) Vb sb he) := by
  refine ⟨fun k h9 => ?_, fun k h9 => ?_, h.2.2.1, h.2.2.2.1, h.2.2.2.2⟩
  · show W.1 k = (if 414 * he + k = 414 * he + 6 + 6 * pl + mk then v else T (414 * he + k))
    rw [if_neg (by omega)]
    exact h.1 k h9
  · show (if k = pl * 6 + mk then v else W.2.1 k) = (if 414 * he + 6 + k = 414 * he + 6 + 6 * pl + mk then v else T (414 * he + 6 + k))
    by_cases h1 : k = pl * 6 + mk
    · rw [if_pos h1, if_pos (by omega)]
    · rw [if_neg h1, if_neg (by omega)]
      exact h.2.1 k h9
theorem lc_upd {T : Nat → Int32} {he pl mk : Nat} {v : Int32} (hp : pl < 68) (hk : mk < 6) : lc 414 he T (upd T (414 * he + 6 + 6 * pl + mk) v) := fun j hj => by
  show (if j = 414 * he + 6 + 6 * pl + mk then v else T j) = T j
  rw [if_neg (by omega)]
theorem mrg_step {W U : hV} {T Vb : Nat → Int32} {sb : Nat → Int64} {he th pl mk c : Nat} (hW : veq W (vw T Vb sb he)) (hU : veq U (vw T Vb sb th)) (hp : pl < 68) (hk : mk < 6) (hle : W.2.1 (pl * 6 + mk) ≤ W.1 mk) :
    veq (hmd W U pl mk) (vw (mms he th pl mk T Vb c).1 (mms he th pl mk T Vb c).2.1 sb he) ∧ (mms he th pl mk T Vb c).2.2 = c + hmc W U pl mk ∧ lc 414 he T (mms he th pl mk T Vb c).1 ∧ lc 24 he Vb (mms he th pl mk T Vb c).2.1 := by
  have e1 : T (414 * he + 6 + 6 * pl + mk) = W.2.1 (pl * 6 + mk) := ((hW.2.1 (pl * 6 + mk) (by omega)).trans (show T (414 * he + 6 + (pl * 6 + mk)) = T (414 * he + 6 + 6 * pl + mk) by congr 1; omega)).symm
  have e2 : T (414 * th + 6 + 6 * pl + mk) = U.2.1 (pl * 6 + mk) := ((hU.2.1 (pl * 6 + mk) (by omega)).trans (show T (414 * th + 6 + (pl * 6 + mk)) = T (414 * th + 6 + 6 * pl + mk) by congr 1; omega)).symm
  have e3 : T (414 * he + mk) = W.1 mk := (hW.1 mk hk).symm
  have e4 : T (414 * th + mk) = U.1 mk := (hU.1 mk hk).symm
  by_cases hq : W.2.1 (pl * 6 + mk) = U.2.1 (pl * 6 + mk)
  · have h2 : U.2.1 (pl * 6 + mk) ≤ W.1 mk := by rw [← hq]; exact hle
    have ed : hmd W U pl mk = W := by unfold hmd; rw [if_pos h2, if_pos hq]
    have ec : hmc W U pl mk = 0 := by unfold hmc; rw [if_pos h2]
    have em : mms he th pl mk T Vb c = (T, Vb, c) := by unfold mms; rw [e1, e2, if_pos hq]
    rw [ed, ec, em]
    exact ⟨hW, rfl, lc.rf _ _ _, lc.rf _ _ _⟩
  · by_cases h2 : U.2.1 (pl * 6 + mk) ≤ W.1 mk
    · have ec : hmc W U pl mk = 0 := by unfold hmc; rw [if_pos h2]
      by_cases h1 : W.2.1 (pl * 6 + mk) ≤ U.1 mk
      · have ed : hmd W U pl mk = (W.1, upd W.2.1 (pl * 6 + mk) (nI 0), W.2.2) := by unfold hmd; rw [if_pos h2, if_neg hq, if_neg (Int32.not_lt.mpr h1)]
        have em : mms he th pl mk T Vb c = (upd T (414 * he + 6 + 6 * pl + mk) (nI 0), Vb, c) := by unfold mms; rw [e1, e2, e3, e4, if_neg hq, if_pos h2, if_pos h1]
        rw [ed, ec, em]
        exact ⟨veq_upd hW hp hk, rfl, lc_upd hp hk, lc.rf _ _ _⟩
      · have ed : hmd W U pl mk = W := by unfold hmd; rw [if_pos h2, if_neg hq, if_pos (Int32.not_le.mp h1)]
        have em : mms he th pl mk T Vb c = (upd T (414 * he + 6 + 6 * pl + mk) (W.2.1 (pl * 6 + mk)), Vb, c) := by unfold mms; rw [e1, e2, e3, e4, if_neg hq, if_pos h2, if_neg h1]
        rw [ed, ec, em]
        have h9 := veq_upd (v := W.2.1 (pl * 6 + mk)) hW hp hk
        rw [upd_id] at h9
        exact ⟨h9, rfl, lc_upd hp hk, lc.rf _ _ _⟩
    · have ec : hmc W U pl mk = 1 := by unfold hmc; rw [if_neg h2]
      have h9 := veq_upd (v := U.2.1 (pl * 6 + mk)) hW hp hk
      by_cases h3 : pl < 64
      · have ed : hmd W U pl mk = (W.1, upd W.2.1 (pl * 6 + mk) (U.2.1 (pl * 6 + mk)), W.2.2) := by unfold hmd; rw [if_neg h2, if_pos h3]
        have em : mms he th pl mk T Vb c = (upd T (414 * he + 6 + 6 * pl + mk) (U.2.1 (pl * 6 + mk)), Vb, c + 1) := by unfold mms; rw [e1, e2, e3, if_neg hq, if_neg h2, if_pos (show pl ≤ 63 by omega)]
        rw [ed, ec, em]
        exact ⟨h9, rfl, lc_upd hp hk, lc.rf _ _ _⟩
      · have e5 : Vb (24 * th + 6 * (pl - 64) + mk) = U.2.2.1 (pl * 6 + mk - 384) := ((hU.2.2.1 (pl * 6 + mk - 384) (by omega)).trans (congrArg Vb (show 24 * th + (pl * 6 + mk - 384) = 24 * th + 6 * (pl - 64) + mk by omega))).symm
        have ed : hmd W U pl mk = (W.1, upd W.2.1 (pl * 6 + mk) (U.2.1 (pl * 6 + mk)), upd W.2.2.1 (pl * 6 + mk - 384) (U.2.2.1 (pl * 6 + mk - 384)), W.2.2.2) := by unfold hmd; rw [if_neg h2, if_neg h3]
        have em : mms he th pl mk T Vb c = (upd T (414 * he + 6 + 6 * pl + mk) (U.2.1 (pl * 6 + mk)), upd Vb (24 * he + 6 * (pl - 64) + mk) (U.2.2.1 (pl * 6 + mk - 384)), c + 1) := by unfold mms; rw [e1, e2, e3, if_neg hq, if_neg h2, if_neg (show ¬ pl ≤ 63 by omega), e5]
        rw [ed, ec, em]
        refine ⟨⟨h9.1, h9.2.1, fun j hj => ?_, h9.2.2.2.1, h9.2.2.2.2⟩, rfl, lc_upd hp hk, fun j hj => ?_⟩
        · show (if j = pl * 6 + mk - 384 then U.2.2.1 (pl * 6 + mk - 384) else W.2.2.1 j) = (if 24 * he + j = 24 * he + 6 * (pl - 64) + mk then U.2.2.1 (pl * 6 + mk - 384) else Vb (24 * he + j))
          by_cases h7 : j = pl * 6 + mk - 384
          · rw [if_pos h7, if_pos (by omega)]
          · rw [if_neg h7, if_neg (by omega)]
            exact hW.2.2.1 j hj
        · show (if j = 24 * he + 6 * (pl - 64) + mk then _ else Vb j) = Vb j
          rw [if_neg (by omega)]
set_option maxRecDepth 100000 in
/-- one dot merged: what it can be -/
theorem hmd_pt (W U : hV) (pl mk : Nat) : (hmd W U pl mk).1 = W.1 ∧ (hmd W U pl mk).2.2.2 = W.2.2.2 ∧ (∀ j, j ≠ pl * 6 + mk → (hmd W U pl mk).2.1 j = W.2.1 j ∧ (384 ≤ j → 384 ≤ pl * 6 + mk → (hmd W U pl mk).2.2.1 (j - 384) = W.2.2.1 (j - 384))) ∧ (pl < 64 → (hmd W U pl mk).2.2.1 = W.2.2.1) ∧
    ((hmd W U pl mk).2.1 (pl * 6 + mk) = 0 ∨ ((hmd W U pl mk).2.1 (pl * 6 + mk) = W.2.1 (pl * 6 + mk) ∧ (hmd W U pl mk).2.2.1 = W.2.2.1) ∨ ((hmd W U pl mk).2.1 (pl * 6 + mk) = U.2.1 (pl * 6 + mk) ∧ (64 ≤ pl → (hmd W U pl mk).2.2.1 (pl * 6 + mk - 384) = U.2.2.1 (pl * 6 + mk - 384)))) := by
  by_cases h2 : U.2.1 (pl * 6 + mk) ≤ W.1 mk
  · by_cases hq : W.2.1 (pl * 6 + mk) = U.2.1 (pl * 6 + mk)
    · have ed : hmd W U pl mk = W := by unfold hmd; rw [if_pos h2, if_pos hq]
      rw [ed]
      exact ⟨rfl, rfl, fun _ _ => ⟨rfl, fun _ _ => rfl⟩, fun _ => rfl, Or.inr (Or.inl ⟨rfl, rfl⟩)⟩
    · by_cases h1 : U.1 mk < W.2.1 (pl * 6 + mk)
      · have ed : hmd W U pl mk = W := by unfold hmd; rw [if_pos h2, if_neg hq, if_pos h1]
        rw [ed]
        exact ⟨rfl, rfl, fun _ _ => ⟨rfl, fun _ _ => rfl⟩, fun _ => rfl, Or.inr (Or.inl ⟨rfl, rfl⟩)⟩
      · have ed : hmd W U pl mk = (W.1, upd W.2.1 (pl * 6 + mk) (nI 0), W.2.2) := by unfold hmd; rw [if_pos h2, if_neg hq, if_neg h1]
        rw [ed]
        exact ⟨rfl, rfl, fun j hj => ⟨if_neg hj, fun _ _ => rfl⟩, fun _ => rfl, Or.inl (if_pos rfl)⟩
  · by_cases h3 : pl < 64
    · have ed : hmd W U pl mk = (W.1, upd W.2.1 (pl * 6 + mk) (U.2.1 (pl * 6 + mk)), W.2.2) := by unfold hmd; rw [if_neg h2, if_pos h3]
      rw [ed]
      exact ⟨rfl, rfl, fun j hj => ⟨if_neg hj, fun _ _ => rfl⟩, fun _ => rfl, Or.inr (Or.inr ⟨if_pos rfl, fun h => absurd h3 (by omega)⟩)⟩
    · have ed : hmd W U pl mk = (W.1, upd W.2.1 (pl * 6 + mk) (U.2.1 (pl * 6 + mk)), upd W.2.2.1 (pl * 6 + mk - 384) (U.2.2.1 (pl * 6 + mk - 384)), W.2.2.2) := by unfold hmd; rw [if_neg h2, if_neg h3]
      rw [ed]
      have wz : ∀ j, j ≠ pl * 6 + mk → 384 ≤ j → 384 ≤ pl * 6 + mk → upd W.2.2.1 (pl * 6 + mk - 384) (U.2.2.1 (pl * 6 + mk - 384)) (j - 384) = W.2.2.1 (j - 384) := fun j hj a b => by
        have h5 : j - 384 ≠ pl * 6 + mk - 384 := by omega
        generalize pl * 6 + mk - 384 = p9 at h5 ⊢
        exact upd_of _ _ h5
      exact ⟨rfl, rfl, fun j hj => ⟨upd_of _ _ hj, wz j hj⟩, fun h => absurd h h3, Or.inr (Or.inr ⟨upd_at _ _ _, fun _ => upd_at _ _ _⟩)⟩
theorem hmf_pt (V U : hV) : ∀ i, i ≤ 408 → (hmf V U i).1.1 = V.1 ∧ (hmf V U i).1.2.2.2 = V.2.2.2 ∧ (∀ j, j < 408 → i ≤ j → (hmf V U i).1.2.1 j = V.2.1 j ∧ (384 ≤ j → (hmf V U i).1.2.2.1 (j - 384) = V.2.2.1 (j - 384))) ∧
    ∀ j, j < i → (hmf V U i).1.2.1 j = 0 ∨ ((hmf V U i).1.2.1 j = V.2.1 j ∧ (384 ≤ j → (hmf V U i).1.2.2.1 (j - 384) = V.2.2.1 (j - 384))) ∨ ((hmf V U i).1.2.1 j = U.2.1 j ∧ (384 ≤ j → (hmf V U i).1.2.2.1 (j - 384) = U.2.2.1 (j - 384))) := by
  intro i
  induction i with
  | zero => intro _; exact ⟨rfl, rfl, fun _ _ _ => ⟨rfl, fun _ => rfl⟩, fun j hj => absurd hj (Nat.not_lt_zero j)⟩
  | succ i ih =>
    intro hi
    obtain ⟨h1, h2, h3, h4⟩ := ih (by omega)
    have hs := hmf_s V U (pl := i / 6) (mk := i % 6) (by omega)
    have ei : i / 6 * 6 + i % 6 = i := by omega
    rw [ei] at hs
    have h9 := hmd_pt (hmf V U i).1 U (i / 6) (i % 6)
    rw [ei] at h9
    obtain ⟨a1, a2, a3, a4, a5⟩ := h9
    rw [hs]
    show (hmd (hmf V U i).1 U (i / 6) (i % 6)).1 = V.1 ∧ (hmd (hmf V U i).1 U (i / 6) (i % 6)).2.2.2 = V.2.2.2 ∧ _ ∧ _
    have wr : ∀ j, j ≠ i → 384 ≤ j → (hmd (hmf V U i).1 U (i / 6) (i % 6)).2.2.1 (j - 384) = (hmf V U i).1.2.2.1 (j - 384) := fun j hj h8 => if h7 : i / 6 < 64 then (by rw [a4 h7]) else (a3 j hj).2 h8 (by omega)
    refine ⟨a1.trans h1, a2.trans h2, fun j hj hij => ⟨((a3 j (by omega)).1).trans (h3 j hj (by omega)).1, fun h8 => (wr j (by omega) h8).trans ((h3 j hj (by omega)).2 h8)⟩, fun j hj => ?_⟩
    show (hmd (hmf V U i).1 U (i / 6) (i % 6)).2.1 j = 0 ∨ ((hmd (hmf V U i).1 U (i / 6) (i % 6)).2.1 j = V.2.1 j ∧ (384 ≤ j → (hmd (hmf V U i).1 U (i / 6) (i % 6)).2.2.1 (j - 384) = V.2.2.1 (j - 384))) ∨ ((hmd (hmf V U i).1 U (i / 6) (i % 6)).2.1 j = U.2.1 j ∧ (384 ≤ j → (hmd (hmf V U i).1 U (i / 6) (i % 6)).2.2.1 (j - 384) = U.2.2.1 (j - 384)))
    by_cases hj2 : j = i
    · have h8 := h3 i (by omega) (Nat.le_refl i)
      rw [hj2]
      rcases a5 with a5 | ⟨a5, a6⟩ | ⟨a5, a6⟩
      · exact Or.inl a5
      · exact Or.inr (Or.inl ⟨a5.trans h8.1, fun q => by rw [a6]; exact h8.2 q⟩)
      · exact Or.inr (Or.inr ⟨a5, fun q => a6 (by omega)⟩)
    · rw [(a3 j hj2).1]
      rcases h4 j (by omega) with q | ⟨q, q2⟩ | ⟨q, q2⟩
      · exact Or.inl q
      · exact Or.inr (Or.inl ⟨q, fun z => (wr j hj2 z).trans (q2 z)⟩)
      · exact Or.inr (Or.inr ⟨q, fun z => (wr j hj2 z).trans (q2 z)⟩)
theorem mrg_sim {V U : hV} {tb vb : Nat → Int32} {sb : Nat → Int64} {he th : Nat} (hV : veq V (vw tb vb sb he)) (hU : veq U (vw tb vb sb th)) (hne : he ≠ th) (hb : ∀ j, j < 408 → V.2.1 j ≤ V.1 (j % 6)) : ∀ i, i ≤ 408 →
    veq (hmf V U i).1 (vw (mmf tb vb he th i).1 (mmf tb vb he th i).2.1 sb he) ∧ (mmf tb vb he th i).2.2 = (hmf V U i).2 ∧ lc 414 he tb (mmf tb vb he th i).1 ∧ lc 24 he vb (mmf tb vb he th i).2.1 := by
  intro i
  induction i with
  | zero => intro _; exact ⟨hV, rfl, lc.rf _ _ _, lc.rf _ _ _⟩
  | succ i ih =>
    intro hi
    obtain ⟨h1, h2, h3, h4⟩ := ih (by omega)
    have hs := hmf_s V U (pl := i / 6) (mk := i % 6) (by omega)
    have hm := mmf_s tb vb he th (i / 6) (i % 6) (by omega)
    have ei : i / 6 * 6 + i % 6 = i := by omega
    rw [ei] at hs hm
    obtain ⟨p1, p2, p3, p4⟩ := hmf_pt V U i (by omega)
    have hU2 : veq U (vw (mmf tb vb he th i).1 (mmf tb vb he th i).2.1 sb th) := hU.tr (vw_oth h3 h4 (lc.rf _ _ _) (Ne.symm hne))
    have h9 := mrg_step (c := (mmf tb vb he th i).2.2) h1 hU2 (pl := i / 6) (mk := i % 6) (by omega) (by omega) (by rw [ei, (p3 i (by omega) (Nat.le_refl i)).1, p1]; exact hb i (by omega))
    rw [hs, hm]
    exact ⟨h9.1, by rw [h9.2.1, h2], h3.tr h9.2.2.1, h4.tr h9.2.2.2⟩
theorem lcmp_le {x y : Int64} : lg_cmp x y ≤ 0 ↔ x ≤ y := by
  unfold lg_cmp
  by_cases h : x > y
  · rw [if_pos h]
    exact ⟨fun q => absurd q (by decide), fun q => absurd h (Int64.not_lt.mpr q)⟩
  · rw [if_neg h]
    refine ⟨fun _ => Int64.not_lt.mp h, fun _ => ?_⟩
    split <;> decide
/-- a whole merging -/
theorem veq_mrg {V U : hV} {tb vb : Nat → Int32} {sb : Nat → Int64} {he th : Nat} (hv : veq V (vw tb vb sb he)) (hU : veq U (vw tb vb sb th)) (hne : he ≠ th) (hb : ∀ j, j < 408 → V.2.1 j ≤ V.1 (j % 6)) {F : hV × Nat} {G : (Nat → Int32) × (Nat → Int32) × Nat} (hF : F = hmf V U 408) (hG : G = mmf tb vb he th 408) :
    veq (hmx F.1.1 U.1 6, F.1.2.1, F.1.2.2.1, hmxl F.1.2.2.2.1 U.2.2.2.1 24, hmxl F.1.2.2.2.2 U.2.2.2.2 24) (vw (mvx icp G.1 (414 * he) (414 * th) 6) G.2.1 (mvx lcp sb (48 * he) (48 * th) 48) he) ∧ G.2.2 = F.2 ∧ lc 414 he tb (mvx icp G.1 (414 * he) (414 * th) 6) ∧ lc 24 he vb G.2.1 ∧ lc 48 he sb (mvx lcp sb (48 * he) (48 * th) 48) := by
  obtain ⟨h1, h2, h3, h4⟩ := mrg_sim hv hU hne hb 408 (Nat.le_refl _)
  rw [← hF, ← hG] at h1
  rw [← hF, ← hG] at h2
  rw [← hG] at h3 h4
  have hU2 : veq U (vw G.1 G.2.1 sb th) := hU.tr (vw_oth h3 h4 (lc.rf _ _ _) (Ne.symm hne))
  refine ⟨⟨fun k hk => ?_, fun k hk => ?_, h1.2.2.1, fun k hk => ?_, fun k hk => ?_⟩, h2, fun j hj => ?_, h4, fun j hj => ?_⟩
  · have a1 : F.1.1 k = G.1 (414 * he + k) := h1.1 k hk
    have a2 : U.1 k = G.1 (414 * th + k) := hU2.1 k hk
    show (if k < 6 then (if F.1.1 k < U.1 k then U.1 k else F.1.1 k) else F.1.1 k) = (if 414 * he ≤ 414 * he + k ∧ 414 * he + k < 414 * he + 6 then (if G.1 (414 * th + (414 * he + k - 414 * he)) ≤ G.1 (414 * he + k) then G.1 (414 * he + k) else G.1 (414 * th + (414 * he + k - 414 * he))) else G.1 (414 * he + k))
    rw [if_pos hk, if_pos (show 414 * he ≤ 414 * he + k ∧ 414 * he + k < 414 * he + 6 by omega), Nat.add_sub_cancel_left, ← a1, ← a2]
    by_cases h : F.1.1 k < U.1 k
    · rw [if_pos h, if_neg (Int32.not_le.mpr h)]
    · rw [if_neg h, if_pos (Int32.not_lt.mp h)]
  · have a1 : F.1.2.1 k = G.1 (414 * he + 6 + k) := h1.2.1 k hk
    show F.1.2.1 k = (if 414 * he ≤ 414 * he + 6 + k ∧ 414 * he + 6 + k < 414 * he + 6 then _ else G.1 (414 * he + 6 + k))
    rw [if_neg (show ¬ (414 * he ≤ 414 * he + 6 + k ∧ 414 * he + 6 + k < 414 * he + 6) by omega)]
    exact a1
  · have a1 : F.1.2.2.2.1 k = sb (48 * he + k) := h1.2.2.2.1 k hk
    have a2 : U.2.2.2.1 k = sb (48 * th + k) := hU2.2.2.2.1 k hk
    show (if k < 24 then (if U.2.2.2.1 k < F.1.2.2.2.1 k then F.1.2.2.2.1 k else U.2.2.2.1 k) else F.1.2.2.2.1 k) = (if 48 * he ≤ 48 * he + k ∧ 48 * he + k < 48 * he + 48 then (if lg_cmp (sb (48 * th + (48 * he + k - 48 * he))) (sb (48 * he + k)) ≤ 0 then sb (48 * he + k) else sb (48 * th + (48 * he + k - 48 * he))) else sb (48 * he + k))
    rw [if_pos hk, if_pos (show 48 * he ≤ 48 * he + k ∧ 48 * he + k < 48 * he + 48 by omega), Nat.add_sub_cancel_left, ← a1, ← a2]
    by_cases h : U.2.2.2.1 k < F.1.2.2.2.1 k
    · rw [if_pos h, if_pos (lcmp_le.mpr (Int64.le_of_lt h))]
    · rw [if_neg h]
      by_cases h5 : lg_cmp (U.2.2.2.1 k) (F.1.2.2.2.1 k) ≤ 0
      · rw [if_pos h5]
        exact Int64.le_antisymm (lcmp_le.mp h5) (Int64.not_lt.mp h)
      · rw [if_neg h5]
  · have a1 : F.1.2.2.2.2 k = sb (48 * he + 24 + k) := h1.2.2.2.2 k hk
    have a2 : U.2.2.2.2 k = sb (48 * th + 24 + k) := hU2.2.2.2.2 k hk
    show (if k < 24 then (if U.2.2.2.2 k < F.1.2.2.2.2 k then F.1.2.2.2.2 k else U.2.2.2.2 k) else F.1.2.2.2.2 k) = (if 48 * he ≤ 48 * he + 24 + k ∧ 48 * he + 24 + k < 48 * he + 48 then (if lg_cmp (sb (48 * th + (48 * he + 24 + k - 48 * he))) (sb (48 * he + 24 + k)) ≤ 0 then sb (48 * he + 24 + k) else sb (48 * th + (48 * he + 24 + k - 48 * he))) else sb (48 * he + 24 + k))
    rw [if_pos hk, if_pos (show 48 * he ≤ 48 * he + 24 + k ∧ 48 * he + 24 + k < 48 * he + 48 by omega), show 48 * th + (48 * he + 24 + k - 48 * he) = 48 * th + 24 + k by omega, ← a1, ← a2]
    by_cases h : U.2.2.2.2 k < F.1.2.2.2.2 k
    · rw [if_pos h, if_pos (lcmp_le.mpr (Int64.le_of_lt h))]
    · rw [if_neg h]
      by_cases h5 : lg_cmp (U.2.2.2.2 k) (F.1.2.2.2.2 k) ≤ 0
      · rw [if_pos h5]
        exact Int64.le_antisymm (lcmp_le.mp h5) (Int64.not_lt.mp h)
      · rw [if_neg h5]
  · refine Eq.trans ?_ (h3 j hj)
    show (if 414 * he ≤ j ∧ j < 414 * he + 6 then _ else G.1 j) = G.1 j
    rw [if_neg (by omega)]
  · show (if 48 * he ≤ j ∧ j < 48 * he + 48 then _ else sb j) = sb j
    rw [if_neg (by omega)]
