/-! THE CLASS'S STATE, and its picture: (replicas, the six holdings, messages, from, to, what was sent) -/
abbrev gst : Type := Nat × (Nat → hV) × Nat × (Nat → Nat) × (Nat → Nat) × (Nat → hV)
def shold (S : gst) (i : Nat) (V : hV) : gst := (S.1, fun k => if k = i then V else S.2.1 k, S.2.2)
def cs (K : gw_C) (M : gw_M) (x : Nat) (S : gst) (aH wl la cap : Nat) (mc : Int32) (g lf : Nat → Option Nat) (ho : Nat → Nat) (had : Nat → Nat → Nat) (my sn : Nat → Nat) (sad : Nat → Nat → Nat) : Prop :=
  (2 ≤ S.1 ∧ S.1 ≤ 6) ∧ M x = some (.inr (3, [.ref aH, .ref wl, .int (nI S.1)])) ∧ M aH = some (.inl (K.2.1 2, 6, .inr (.inr (.inr (.inr g))))) ∧
  (∀ i, i < 6 → g i = some (ho i) ∧ hd K M (ho i) (had i) (S.2.1 i)) ∧ al K M wl la cap S.2.2.1 mc lf ∧
  (∀ k, k < S.2.2.1 → lf k = some (my k) ∧ M (my k) = some (.inr (2, [.int (nI (S.2.2.2.1 k)), .int (nI (S.2.2.2.2.1 k)), .ref (sn k)])) ∧ hd K M (sn k) (sad k) (S.2.2.2.2.2 k)) ∧ ∀ k, k < S.2.2.1 → S.2.2.2.1 k < 6 ∧ S.2.2.2.2.1 k < 6
/-- which part of the world an address belongs to -/
def rs (M : gw_M) (ro : Nat → Nat) (x sz aH wl la : Nat) (ho : Nat → Nat) (had : Nat → Nat → Nat) (my sn : Nat → Nat) (sad : Nat → Nat → Nat) : Prop :=
  ro x = 1 ∧ ro aH = 2 ∧ ro wl = 3 ∧ (∀ e, M la = some e → ro la = 4) ∧ (∀ i, i < 6 → ro (ho i) = 5 ∧ ∀ j, j < 5 → ro (had i j) = 10 + i * 5 + j) ∧
  (∀ k, k < sz → ro (my k) = 6 ∧ ro (sn k) = 7 ∧ ∀ j, j < 5 → ro (sad k j) = 8) ∧ ∀ j k, j < sz → k < sz → my j = my k → j = k
def CS (K : gw_C) (M : gw_M) (ro : Nat → Nat) (x : Nat) (S : gst) : Prop :=
  ∃ (aH wl la cap : Nat) (mc : Int32) (g lf : Nat → Option Nat) (ho : Nat → Nat) (had : Nat → Nat → Nat) (my sn : Nat → Nat) (sad : Nat → Nat → Nat), cs K M x S aH wl la cap mc g lf ho had my sn sad ∧ rs M ro x S.2.2.1 aH wl la ho had my sn sad
/-- what an operation of one side leaves to the other: roles stay, cells of roles from lo to hi stay -/
def ofr (lo hi : Nat) (M M1 : gw_M) (ro ro1 : Nat → Nat) : Prop := ∀ q e, M q = some e → ro1 q = ro q ∧ (lo ≤ ro q → ro q < hi → M1 q = some e)
theorem ofr.rf {lo hi : Nat} {M : gw_M} {ro : Nat → Nat} : ofr lo hi M M ro ro := fun _ _ h => ⟨rfl, fun _ _ => h⟩
theorem hd_keep {K : gw_C} {M M1 : gw_M} {h : Nat} {ad : Nat → Nat} {V : hV} (hh : hd K M h ad V) (h0 : M1 h = M h) (h1 : ∀ j, j < 5 → M1 (ad j) = M (ad j)) : hd K M1 h ad V := by
  obtain ⟨a0, a1, a2, a3, a4, a5, a6⟩ := hh
  exact ⟨h0.trans a0, (h1 0 (by decide)).trans a1, (h1 1 (by decide)).trans a2, (h1 2 (by decide)).trans a3, (h1 3 (by decide)).trans a4, (h1 4 (by decide)).trans a5, a6⟩
theorem hd_some {K : gw_C} {M : gw_M} {h : Nat} {ad : Nat → Nat} {V : hV} (hh : hd K M h ad V) : ∀ j, j < 5 → ∃ e, M (ad j) = some e := by
  obtain ⟨a0, a1, a2, a3, a4, a5, a6⟩ := hh
  intro j hj
  rcases (show j = 0 ∨ j = 1 ∨ j = 2 ∨ j = 3 ∨ j = 4 by omega) with rfl | rfl | rfl | rfl | rfl
  · exact ⟨_, a1⟩
  · exact ⟨_, a2⟩
  · exact ⟨_, a3⟩
  · exact ⟨_, a4⟩
  · exact ⟨_, a5⟩
theorem al_keep {K : gw_C} {M M1 : gw_M} {w a cap sz : Nat} {mc : Int32} {f : Nat → Option Nat} (h : al K M w a cap sz mc f) (h0 : M1 w = M w) (h1 : ∀ e, M a = some e → M1 a = M a) : al K M1 w a cap sz mc f := by
  obtain ⟨a0, a1, a2⟩ := h
  refine ⟨h0.trans a0, a1, ?_⟩
  rcases a2 with a2 | ⟨a2, a3, a4, a5⟩
  · exact Or.inl a2
  · exact Or.inr ⟨(h1 _ a2).trans a2, a3, a4, a5⟩
/-- a holding of the class has changed, all else is as it was -/
theorem cs_hold {K : gw_C} {M M1 : gw_M} {x : Nat} {S : gst} {aH wl la cap : Nat} {mc : Int32} {g lf : Nat → Option Nat} {ho : Nat → Nat} {had : Nat → Nat → Nat} {my sn : Nat → Nat} {sad : Nat → Nat → Nat} {ro : Nat → Nat}
    (hcs : cs K M x S aH wl la cap mc g lf ho had my sn sad) (hrs : rs M ro x S.2.2.1 aH wl la ho had my sn sad) {i : Nat} (hi : i < 6) {V : hV} (hV : hd K M1 (ho i) (had i) V) (hF : hfr M M1 (had i)) : CS K M1 ro x (shold S i V) ∧ ofr 60 1000 M M1 ro ro := by
  obtain ⟨c0, c1, c2, c3, c4, c5, c6⟩ := hcs
  obtain ⟨r0, r1, r2, r3, r4, r5, r6⟩ := hrs
  have kp : ∀ q, (ro q < 10 + i * 5 ∨ 15 + i * 5 ≤ ro q) → M1 q = M q := fun q hq => hF q (fun j hj z => by
    have h9 := (r4 i hi).2 j hj
    rw [z] at hq
    omega)
  refine ⟨⟨aH, wl, la, cap, mc, g, lf, ho, had, my, sn, sad, ⟨c0, (kp x (by omega)).trans c1, (kp aH (by omega)).trans c2, fun k hk => ⟨(c3 k hk).1, ?_⟩, al_keep c4 (kp wl (by omega)) (fun e he => kp la (by have := r3 e he; omega)), fun k hk => ⟨(c5 k hk).1, (kp _ (by have := (r5 k hk).1; omega)).trans (c5 k hk).2.1, hd_keep (c5 k hk).2.2 (kp _ (by have := (r5 k hk).2.1; omega)) (fun j hj => kp _ (by have := (r5 k hk).2.2 j hj; omega))⟩, c6⟩, r0, r1, r2, fun e he => ?_, r4, r5, r6⟩, fun q e he => ⟨rfl, fun h1 h2 => (kp q (by omega)).trans he⟩⟩
  · show hd K M1 (ho k) (had k) (if k = i then V else S.2.1 k)
    by_cases hki : k = i
    · rw [if_pos hki, hki]
      exact hV
    · rw [if_neg hki]
      exact hd_keep (c3 k hk).2 (kp _ (by have := (r4 k hk).1; omega)) (fun j hj => kp _ (by have := (r4 k hk).2 j hj; omega))
  · by_cases hz : (∀ j, j < 5 → la ≠ had i j)
    · rw [hF la hz] at he
      exact r3 e he
    · obtain ⟨j, hj⟩ := Classical.not_forall.mp hz
      obtain ⟨hj5, hj⟩ := Classical.not_imp.mp hj
      have hj : la = had i j := Classical.not_not.mp hj
      obtain ⟨e9, he9⟩ := hd_some (c3 i hi).2 j hj5
      rw [← hj] at he9
      exact r3 e9 he9
/-- adding: the place's old dots go, a new one comes -/
def vadd (V : hV) (rk pl : Nat) : hV := (upd V.1 rk (V.1 rk + nI 1), upd (hclr V.2.1 pl 6) (pl * 6 + rk) (V.1 rk + nI 1), V.2.2)
def vrem (V : hV) (pl : Nat) : hV := (V.1, hclr V.2.1 pl 6, V.2.2)
def vwr (V : hV) (rk k : Nat) (v : Int32) : hV := (upd V.1 rk (V.1 rk + nI 1), upd (hclr V.2.1 (64 + k) 6) ((64 + k) * 6 + rk) (V.1 rk + nI 1), upd V.2.2.1 (k * 6 + rk) v, V.2.2.2)
def vcnt (V : hV) (rk k : Nat) (b : Int32) : hV := (V.1, V.2.1, V.2.2.1, (if 0 ≤ b then vp_updL V.2.2.2.1 (k * 6 + rk) (V.2.2.2.1 (k * 6 + rk) + b.toInt64) else V.2.2.2.1), (if 0 ≤ b then V.2.2.2.2 else vp_updL V.2.2.2.2 (k * 6 + rk) (V.2.2.2.2 (k * 6 + rk) - b.toInt64)))
