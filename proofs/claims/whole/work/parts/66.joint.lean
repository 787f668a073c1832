/-! THE LAW: class and reference in one world -/
def LR (mo ao : Nat) (ad : Nat → Nat) (ro : Nat → Nat) : Prop := ro mo = 100 ∧ (∀ i, i < 5 → ro (ad i) = 101 + i) ∧ ro ao = 60
def LJ (K : gw_C) (x mo ao : Nat) (ad : Nat → Nat) (S : gst) (t : Nat) (M : gw_M) (ro : Nat → Nat) : Prop :=
  CS K M ro x S ∧ (∃ (cd : Int32) (tb vb : Nat → Int32) (sb : Nat → Int64) (fm tq : Nat → Int32), md K M mo ad cd S.1 S.2.2.1 tb vb sb fm tq ∧ rel S tb vb sb fm tq) ∧ (∃ o9 : Nat → Int64, M ao = some (.inl (K.2.1 1, 1, .inr (.inl o9)))) ∧ LR mo ao ad ro ∧ Inv S t
theorem CS_frame {K : gw_C} {M M1 : gw_M} {ro : Nat → Nat} {x : Nat} {S : gst} (h : CS K M ro x S) (hk : ∀ q e, M q = some e → ro q < 60 → M1 q = some e) (hn : ∀ q, M q = none → M1 q = none) : CS K M1 ro x S := by
  obtain ⟨aH, wl, la, cap, mc, g, lf, ho, had, my, sn, sad, hcs, hrs⟩ := h
  obtain ⟨c0, c1, c2, c3, c4, c5, c6⟩ := hcs
  obtain ⟨r0, r1, r2, r3, r4, r5, r6⟩ := hrs
  have hh : ∀ h ad V, hd K M h ad V → ro h < 60 → (∀ j, j < 5 → ro (ad j) < 60) → hd K M1 h ad V := fun h ad V hV a b => hd_mono hV (fun q e he hq => hk q e he (hq.elim (fun z => by rw [z]; exact a) (fun ⟨j, hj, z⟩ => by rw [z]; exact b j hj)))
  refine ⟨aH, wl, la, cap, mc, g, lf, ho, had, my, sn, sad, ⟨c0, hk _ _ c1 (by omega), hk _ _ c2 (by omega), fun i hi => ⟨(c3 i hi).1, hh _ _ _ (c3 i hi).2 (by have := (r4 i hi).1; omega) (fun j hj => by have := (r4 i hi).2 j hj; omega)⟩, ?_, fun k hk9 => ⟨(c5 k hk9).1, hk _ _ (c5 k hk9).2.1 (by have := (r5 k hk9).1; omega), hh _ _ _ (c5 k hk9).2.2 (by have := (r5 k hk9).2.1; omega) (fun j hj => by have := (r5 k hk9).2.2 j hj; omega)⟩, c6⟩, r0, r1, r2, fun e he => ?_, r4, r5, r6⟩
  · exact al_keep c4 ((hk _ _ c4.1 (by omega)).trans c4.1.symm) (fun e he => (hk _ e he (by have := r3 e he; omega)).trans he.symm)
  · cases hz : M la with
    | none => rw [hn la hz] at he; cases he
    | some e9 => exact r3 e9 hz
theorem md_frame {K : gw_C} {M M1 : gw_M} {mo : Nat} {ad ro : Nat → Nat} {cd : Int32} {nn kk : Nat} {tb vb : Nat → Int32} {sb : Nat → Int64} {fm tq : Nat → Int32} (h : md K M mo ad cd nn kk tb vb sb fm tq) (h0 : ro mo = 100) (h1 : ∀ i, i < 5 → ro (ad i) = 101 + i) (hk : ∀ q e, M q = some e → 100 ≤ ro q → ro q < 106 → M1 q = some e) : md K M1 mo ad cd nn kk tb vb sb fm tq := by
  obtain ⟨a0, a1, a2, a3, a4, a5, a6, a7⟩ := h
  have b0 := h1 0 (by decide)
  have b1 := h1 1 (by decide)
  have b2 := h1 2 (by decide)
  have b3 := h1 3 (by decide)
  have b4 := h1 4 (by decide)
  exact ⟨a0, hk _ _ a1 (by omega) (by omega), hk _ _ a2 (by omega) (by omega), hk _ _ a3 (by omega) (by omega), hk _ _ a4 (by omega) (by omega), hk _ _ a5 (by omega) (by omega), hk _ _ a6 (by omega) (by omega), a7⟩
theorem md_some {K : gw_C} {M : gw_M} {mo : Nat} {ad : Nat → Nat} {cd : Int32} {nn kk : Nat} {tb vb : Nat → Int32} {sb : Nat → Int64} {fm tq : Nat → Int32} (h : md K M mo ad cd nn kk tb vb sb fm tq) : (∃ e, M mo = some e) ∧ ∀ i, i < 5 → ∃ e, M (ad i) = some e := by
  obtain ⟨a0, a1, a2, a3, a4, a5, a6, a7⟩ := h
  refine ⟨⟨_, a1⟩, fun i hi => ?_⟩
  rcases (show i = 0 ∨ i = 1 ∨ i = 2 ∨ i = 3 ∨ i = 4 by omega) with rfl | rfl | rfl | rfl | rfl
  · exact ⟨_, a2⟩
  · exact ⟨_, a3⟩
  · exact ⟨_, a4⟩
  · exact ⟨_, a5⟩
  · exact ⟨_, a6⟩
/-- the class has had its turn, out[0] is written -/
theorem LJ_out {K : gw_C} {M M0 : gw_M} {ro ro1 : Nat → Nat} {x mo ao : Nat} {S : gst} {ad : Nat → Nat} {cd : Int32} {nn kk : Nat} {tb vb : Nat → Int32} {sb : Nat → Int64} {fm tq : Nat → Int32} {e0 e1 e : va_E} (hC : CS K M0 ro1 x S) (hof : ofr 60 1000 M M0 ro ro1) (hm : md K M mo ad cd nn kk tb vb sb fm tq) (ha : M ao = some e0) (ha0 : M0 ao = some e1) (hR : LR mo ao ad ro) :
    CS K (gw_up M0 ao e) ro1 x S ∧ md K (gw_up M0 ao e) mo ad cd nn kk tb vb sb fm tq ∧ gw_up M0 ao e ao = some e ∧ LR mo ao ad ro1 := by
  obtain ⟨h1, h2, h3⟩ := hR
  obtain ⟨⟨em, hem⟩, hes⟩ := md_some hm
  have k1 : ro1 mo = 100 := ((hof mo em hem).1).trans h1
  have k2 : ∀ i, i < 5 → ro1 (ad i) = 101 + i := fun i hi => by
    obtain ⟨ei, hei⟩ := hes i hi
    exact ((hof _ ei hei).1).trans (h2 i hi)
  have k3 : ro1 ao = 60 := ((hof ao e0 ha).1).trans h3
  refine ⟨CS_frame hC (fun q e9 he hq => gw_k (fun z => by rw [z, k3] at hq; omega) he) (fun q hq => (gw_n (fun z => by rw [z, ha0] at hq; cases hq)).trans hq), ?_, gw_s, k1, k2, k3⟩
  refine md_frame hm h1 h2 (fun q e9 he h8 h9 => gw_k (fun z => by rw [z, h3] at h8; omega) ((hof q e9 he).2 (by omega) (by omega)))
/-- the class has had its turn, out is as it was -/
theorem LJ_void {K : gw_C} {M M0 : gw_M} {ro ro1 : Nat → Nat} {mo ao : Nat} {ad : Nat → Nat} {cd : Int32} {nn kk : Nat} {tb vb : Nat → Int32} {sb : Nat → Int64} {fm tq : Nat → Int32} {e0 : va_E} (hof : ofr 60 1000 M M0 ro ro1) (hm : md K M mo ad cd nn kk tb vb sb fm tq) (ha : M ao = some e0) (hR : LR mo ao ad ro) :
    md K M0 mo ad cd nn kk tb vb sb fm tq ∧ M0 ao = some e0 ∧ LR mo ao ad ro1 := by
  obtain ⟨h1, h2, h3⟩ := hR
  obtain ⟨⟨em, hem⟩, hes⟩ := md_some hm
  refine ⟨md_frame hm h1 h2 (fun q e9 he h8 h9 => (hof q e9 he).2 (by omega) (by omega)), (hof ao e0 ha).2 (by omega) (by omega), ((hof mo em hem).1).trans h1, fun i hi => ?_, ((hof ao e0 ha).1).trans h3⟩
  obtain ⟨ei, hei⟩ := hes i hi
  exact ((hof _ ei hei).1).trans (h2 i hi)
/-- the reference has had its turn -/
theorem LJ_mod {K : gw_C} {M M1 : gw_M} {ro : Nat → Nat} {x mo ao : Nat} {S : gst} {ad : Nat → Nat} {cd : Int32} {nn kk : Nat} {tb vb : Nat → Int32} {sb : Nat → Int64} {fm tq : Nat → Int32} {e0 : va_E} (hC : CS K M ro x S) (hm : md K M mo ad cd nn kk tb vb sb fm tq) (ha : M ao = some e0) (hR : LR mo ao ad ro) (hf : mfr M M1 mo ad) : CS K M1 ro x S ∧ M1 ao = some e0 := by
  obtain ⟨h1, h2, h3⟩ := hR
  obtain ⟨⟨em, hem⟩, hes⟩ := md_some hm
  refine ⟨CS_frame hC (fun q e he hq => (hf q (fun z => by rw [z, h1] at hq; omega) (fun i hi z => by rw [z, h2 i hi] at hq; omega)).trans he) (fun q hq => (hf q (fun z => by rw [z, hem] at hq; cases hq) (fun i hi z => ?_)).trans hq), (hf ao (fun z => by rw [z, h1] at h3; omega) (fun i hi z => by rw [z, h2 i hi] at h3; omega)).trans ha⟩
  obtain ⟨ei, hei⟩ := hes i hi
  rw [z, hei] at hq
  cases hq
def LC (p : Program) (s : State) (m : MethodId) (meth : Method) (c : Code) (b L : Nat) (xs : Nat → Int32) (K : gw_C) : Prop := lw_At p s m meth c b L xs ∧ gw_T K s ∧ K.2.2.1 = s.heap.size ∧ L ≤ 3072
/-- where the loop goes on -/
def LK (p : Program) (l : Launch) (e : Env) (s : State) (m : MethodId) (below : List Frame) (meth : Method) (c : Code) (b : Nat) (K : gw_C) (x mo ao : Nat) (ad : Nat → Nat) (t i : Nat) : Prop :=
  ∀ (S1 : gst) (M1 : gw_M) (ro1 : Nat → Nat) (H1 : Heap) (locs1 : List Loc) (ls1 : Array Slot), LJ K x mo ao ad S1 (t + 1) M1 ro1 → gw_B K M1 s.heap H1 locs1 → lv_has ls1 7 [(4, .int (nI i)), (3, .ref ao), (2, .ref mo), (1, .ref x), (0, .ref b)] →
    W p l e room_1 s m #[Value.ref b] below meth c H1 locs1 (48 + 11 * (t + 1)) (54728 + 662 * (t + 1)) (lw_Z below #[Value.ref b] s) (F0 m 1549 ls1 [])
theorem inN2 {q : Int32} (h : inN q 2) : q = 0 ∨ q = 1 := by
  obtain ⟨k, hk, e⟩ := h
  rcases (show k = 0 ∨ k = 1 by omega) with rfl | rfl
  · exact Or.inl e
  · exact Or.inr e
theorem inN3 {q : Int32} (h : inN q 3) : q = 0 ∨ q = 1 ∨ q = 2 := by
  obtain ⟨k, hk, e⟩ := h
  rcases (show k = 0 ∨ k = 1 ∨ k = 2 by omega) with rfl | rfl | rfl
  · exact Or.inl e
  · exact Or.inr (Or.inl e)
  · exact Or.inr (Or.inr e)
