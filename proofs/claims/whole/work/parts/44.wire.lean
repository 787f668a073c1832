/-! THE WIRE: how the class's picture goes over a growing world, a changed list, a turned message -/
theorem gw_ntE {K : gw_C} {M : gw_M} {s : State} {H : Heap} {locs : List Loc} (hG : gw_B K M s.heap H locs) (hT : gw_T K s) : M K.2.2.2.1 = none := by
  cases hz : M K.2.2.2.1 with
  | none => rfl
  | some e =>
    obtain ⟨ws, hL, hP, hD, hS, h0⟩ := hG
    obtain ⟨k, hk⟩ := (hL _ _).mp hz
    obtain ⟨_, -, -, -, -, -, -, hn⟩ := hT.2.1.2.1.2
    exact absurd (hD.2 k _ hk) hn
theorem hd_mono {K : gw_C} {M M1 : gw_M} {h : Nat} {ad : Nat → Nat} {V : hV} (hh : hd K M h ad V) (hk : ∀ q e, M q = some e → (q = h ∨ ∃ j, j < 5 ∧ q = ad j) → M1 q = some e) : hd K M1 h ad V := by
  obtain ⟨a0, a1, a2, a3, a4, a5, a6⟩ := hh
  exact ⟨hk _ _ a0 (Or.inl rfl), hk _ _ a1 (Or.inr ⟨0, by decide, rfl⟩), hk _ _ a2 (Or.inr ⟨1, by decide, rfl⟩), hk _ _ a3 (Or.inr ⟨2, by decide, rfl⟩), hk _ _ a4 (Or.inr ⟨3, by decide, rfl⟩), hk _ _ a5 (Or.inr ⟨4, by decide, rfl⟩), a6⟩
section Wire
variable {K : gw_C} {M M1 : gw_M} {x : Nat} {S : gst} {aH wl la cap : Nat} {mc : Int32} {g lf : Nat → Option Nat} {ho : Nat → Nat} {had : Nat → Nat → Nat} {my sn : Nat → Nat} {sad : Nat → Nat → Nat} {ro ro1 : Nat → Nat}
theorem cs_grow (hcs : cs K M x S aH wl la cap mc g lf ho had my sn sad) (hrs : rs M ro x S.2.2.1 aH wl la ho had my sn sad) (hk : ∀ q e, M q = some e → M1 q = some e ∧ ro1 q = ro q) (hE : M1 K.2.2.2.1 = none) : cs K M1 x S aH wl la cap mc g lf ho had my sn sad ∧ rs M1 ro1 x S.2.2.1 aH wl la ho had my sn sad := by
  obtain ⟨c0, c1, c2, c3, c4, c5, c6⟩ := hcs
  obtain ⟨r0, r1, r2, r3, r4, r5, r6⟩ := hrs
  obtain ⟨l0, l1, l2⟩ := c4
  refine ⟨⟨c0, (hk _ _ c1).1, (hk _ _ c2).1, fun i hi => ⟨(c3 i hi).1, hd_mono (c3 i hi).2 (fun q e he _ => (hk q e he).1)⟩, ⟨(hk _ _ l0).1, l1, l2.imp id (fun z => ⟨(hk _ _ z.1).1, z.2⟩)⟩, fun k h9 => ⟨(c5 k h9).1, (hk _ _ (c5 k h9).2.1).1, hd_mono (c5 k h9).2.2 (fun q e he _ => (hk q e he).1)⟩, c6⟩, (hk _ _ c1).2.trans r0, (hk _ _ c2).2.trans r1, (hk _ _ l0).2.trans r2, fun e he => ?_, fun i hi => ⟨(hk _ _ (c3 i hi).2.1).2.trans (r4 i hi).1, fun j hj => ?_⟩, fun k h9 => ⟨(hk _ _ (c5 k h9).2.1).2.trans (r5 k h9).1, (hk _ _ (c5 k h9).2.2.1).2.trans (r5 k h9).2.1, fun j hj => ?_⟩, r6⟩
  · rcases l2 with z | z
    · rw [z.1, hE] at he
      cases he
    · exact (hk _ _ z.1).2.trans (r3 _ z.1)
  · obtain ⟨e, he⟩ := hd_some (c3 i hi).2 j hj
    exact (hk _ _ he).2.trans ((r4 i hi).2 j hj)
  · obtain ⟨e, he⟩ := hd_some (c5 k h9).2.2 j hj
    exact (hk _ _ he).2.trans ((r5 k h9).2.2 j hj)
/-- the list has changed, and what lies in it -/
theorem cs_list (hcs : cs K M x S aH wl la cap mc g lf ho had my sn sad) (hrs : rs M ro x S.2.2.1 aH wl la ho had my sn sad) {a1 cap1 sz1 : Nat} {mc1 : Int32} {lf1 : Nat → Option Nat} {fr1 to1 my1 sn1 : Nat → Nat} {sad1 : Nat → Nat → Nat} {mV1 : Nat → hV}
    (hal : al K M1 wl a1 cap1 sz1 mc1 lf1) (ha1 : a1 = la ∨ M a1 = none) (hk : ∀ q e, q ≠ wl → q ≠ la → M q = some e → M1 q = some e) (hE : M1 K.2.2.2.1 = none)
    (hm : ∀ k, k < sz1 → lf1 k = some (my1 k) ∧ M (my1 k) = some (.inr (2, [.int (nI (fr1 k)), .int (nI (to1 k)), .ref (sn1 k)])) ∧ hd K M (sn1 k) (sad1 k) (mV1 k)) (hb : ∀ k, k < sz1 → fr1 k < 6 ∧ to1 k < 6)
    (hro : ∀ k, k < sz1 → ro (my1 k) = 6 ∧ ro (sn1 k) = 7 ∧ ∀ j, j < 5 → ro (sad1 k j) = 8) (hinj : ∀ j k, j < sz1 → k < sz1 → my1 j = my1 k → j = k) :
    cs K M1 x (S.1, S.2.1, sz1, fr1, to1, mV1) aH wl a1 cap1 mc1 g lf1 ho had my1 sn1 sad1 ∧ rs M1 (fun q => if q = a1 then 4 else ro q) x sz1 aH wl a1 ho had my1 sn1 sad1 ∧ ofr 60 1000 M M1 ro (fun q => if q = a1 then 4 else ro q) := by
  obtain ⟨c0, c1, c2, c3, c4, c5, c6⟩ := hcs
  obtain ⟨r0, r1, r2, r3, r4, r5, r6⟩ := hrs
  have hold : ∀ q e, M q = some e → (if q = a1 then 4 else ro q) = ro q := by
    intro q e he
    by_cases hq : q = a1
    · rw [if_pos hq]
      rcases ha1 with z | z
      · rw [hq, z] at he ⊢
        exact (r3 e he).symm
      · rw [hq, z] at he
        cases he
    · rw [if_neg hq]
  have kp : ∀ q e, ro q ≠ 3 → ro q ≠ 4 → M q = some e → M1 q = some e := fun q e h3 h4 he => hk q e (fun z => h3 (by rw [z]; exact r2)) (fun z => h4 (by rw [z]; rw [z] at he; exact r3 e he)) he
  have kh : ∀ {h : Nat} {ad : Nat → Nat} {V : hV}, hd K M h ad V → ro h ≠ 3 → ro h ≠ 4 → (∀ j, j < 5 → ro (ad j) ≠ 3 ∧ ro (ad j) ≠ 4) → hd K M1 h ad V := fun hh g1 g2 g3 => hd_mono hh (fun q e he hq => by
    rcases hq with rfl | ⟨j, hj, rfl⟩
    · exact kp _ e g1 g2 he
    · exact kp _ e (g3 j hj).1 (g3 j hj).2 he)
  refine ⟨⟨c0, kp x _ (by omega) (by omega) c1, kp aH _ (by omega) (by omega) c2, fun i hi => ⟨(c3 i hi).1, kh (c3 i hi).2 (by have := (r4 i hi).1; omega) (by have := (r4 i hi).1; omega) (fun j hj => by have := (r4 i hi).2 j hj; omega)⟩, hal, fun k h9 => ⟨(hm k h9).1, kp _ _ (by have := (hro k h9).1; omega) (by have := (hro k h9).1; omega) (hm k h9).2.1, kh (hm k h9).2.2 (by have := (hro k h9).2.1; omega) (by have := (hro k h9).2.1; omega) (fun j hj => by have := (hro k h9).2.2 j hj; omega)⟩, hb⟩, ⟨(hold _ _ c1).trans r0, (hold _ _ c2).trans r1, (hold _ _ c4.1).trans r2, fun e he => if_pos rfl, fun i hi => ⟨(hold _ _ (c3 i hi).2.1).trans (r4 i hi).1, fun j hj => ?_⟩, fun k h9 => ⟨(hold _ _ (hm k h9).2.1).trans (hro k h9).1, (hold _ _ (hm k h9).2.2.1).trans (hro k h9).2.1, fun j hj => ?_⟩, hinj⟩, fun q e he => ⟨hold q e he, fun h1 h2 => kp q e (by omega) (by omega) he⟩⟩
  · obtain ⟨e, he⟩ := hd_some (c3 i hi).2 j hj
    exact (hold _ _ he).trans ((r4 i hi).2 j hj)
  · obtain ⟨e, he⟩ := hd_some (hm k h9).2.2 j hj
    exact (hold _ _ he).trans ((hro k h9).2.2 j hj)
end Wire
theorem ofr.tr {lo hi : Nat} {M M1 M2 : gw_M} {ro ro1 ro2 : Nat → Nat} (h1 : ofr lo hi M M1 ro ro1) (h2 : ofr lo hi M1 M2 ro1 ro2) (hk : ∀ q e, M q = some e → ∃ e1, M1 q = some e1) : ofr lo hi M M2 ro ro2 := by
  intro q e he
  obtain ⟨a1, a2⟩ := h1 q e he
  obtain ⟨e1, he1⟩ := hk q e he
  refine ⟨(h2 q e1 he1).1.trans a1, fun g1 g2 => ?_⟩
  exact (h2 q e (a2 g1 g2)).2 (by rw [a1]; exact g1) (by rw [a1]; exact g2)
theorem gw_rcv {K : gw_C} {M : gw_M} {tys : List (ClassId × FieldType)} {s : State} {H0 H : Heap} {locs : List Loc} (hK : va_K K.1 vwCl tys s) (hG : gw_B K M H0 H locs) {a ci : Nat} {fs : List Value} {r : vw_C} (hM : M a = some (.inr (ci, fs))) (hc : vwCl[ci]? = some r) : ∃ cell : Cell, H[a]? = some cell ∧ cell.vm.isStatics = false ∧ s.vm.findClass r.1 = some cell.cls := by
  obtain ⟨ws, hL, hP, hD, hS, h0⟩ := hG
  obtain ⟨q0, hq⟩ := (hL _ _).mp hM
  exact va_recv hK hP hc hq
/-- a message goes to another -/
theorem cs_turn {K : gw_C} {M M1 : gw_M} {x : Nat} {S : gst} {aH wl la cap : Nat} {mc : Int32} {g lf : Nat → Option Nat} {ho : Nat → Nat} {had : Nat → Nat → Nat} {my sn : Nat → Nat} {sad : Nat → Nat → Nat} {ro : Nat → Nat}
    (hcs : cs K M x S aH wl la cap mc g lf ho had my sn sad) (hrs : rs M ro x S.2.2.1 aH wl la ho had my sn sad) {i t : Nat} (hi : i < S.2.2.1) (ht : t < 6) (hM : M1 = gw_up M (my i) (.inr (2, [.int (nI (S.2.2.2.1 i)), .int (nI t), .ref (sn i)]))) : CS K M1 ro x (S.1, S.2.1, S.2.2.1, S.2.2.2.1, (fun k => if k = i then t else S.2.2.2.2.1 k), S.2.2.2.2.2) ∧ ofr 60 1000 M M1 ro ro := by
  obtain ⟨c0, c1, c2, c3, c4, c5, c6⟩ := hcs
  obtain ⟨r0, r1, r2, r3, r4, r5, r6⟩ := hrs
  have kp : ∀ q, ro q ≠ 6 → M1 q = M q := fun q hq => by
    rw [hM]
    exact gw_n (fun z => hq (by rw [z]; exact (r5 i hi).1))
  refine ⟨⟨aH, wl, la, cap, mc, g, lf, ho, had, my, sn, sad, ⟨c0, (kp x (by omega)).trans c1, (kp aH (by omega)).trans c2, fun k hk => ⟨(c3 k hk).1, hd_keep (c3 k hk).2 (kp _ (by have := (r4 k hk).1; omega)) (fun j hj => kp _ (by have := (r4 k hk).2 j hj; omega))⟩, al_keep c4 (kp wl (by omega)) (fun e he => kp la (by have := r3 e he; omega)), fun k hk => ⟨(c5 k hk).1, ?_, hd_keep (c5 k hk).2.2 (kp _ (by have := (r5 k hk).2.1; omega)) (fun j hj => kp _ (by have := (r5 k hk).2.2 j hj; omega))⟩, fun k hk => ⟨(c6 k hk).1, ?_⟩⟩, r0, r1, r2, fun e he => ?_, r4, r5, r6⟩, fun q e he => ⟨rfl, fun h1 h2 => (kp q (by omega)).trans he⟩⟩
  · show M1 (my k) = some (.inr (2, [.int (nI (S.2.2.2.1 k)), .int (nI (if k = i then t else S.2.2.2.2.1 k)), .ref (sn k)]))
    by_cases hk9 : k = i
    · rw [if_pos hk9, hk9, hM]
      exact gw_s
    · rw [if_neg hk9, hM]
      exact gw_k (fun z => hk9 (r6 k i hk hi z)) (c5 k hk).2.1
  · show (if k = i then t else S.2.2.2.2.1 k) < 6
    split
    · exact ht
    · exact (c6 k hk).2
  · by_cases hz : la = my i
    · rw [hz] at he ⊢
      have h4 := r3 _ (by rw [hz]; exact (c5 i hi).2.1)
      rw [hz] at h4
      exact h4
    · rw [hM, gw_n hz] at he
      exact r3 e he
def smsg (S : gst) (f t : Nat) (V : hV) : gst := (S.1, S.2.1, S.2.2.1 + 1, (fun k => if k = S.2.2.1 then f else S.2.2.2.1 k), (fun k => if k = S.2.2.1 then t else S.2.2.2.2.1 k), fun k => if k = S.2.2.1 then V else S.2.2.2.2.2 k)
def sdel (S : gst) (i : Nat) : gst := (S.1, S.2.1, S.2.2.1 - 1, (fun k => if k < i then S.2.2.2.1 k else S.2.2.2.1 (k + 1)), (fun k => if k < i then S.2.2.2.2.1 k else S.2.2.2.2.1 (k + 1)), fun k => if k < i then S.2.2.2.2.2 k else S.2.2.2.2.2 (k + 1))
def sto (S : gst) (i t : Nat) : gst := (S.1, S.2.1, S.2.2.1, S.2.2.2.1, (fun k => if k = i then t else S.2.2.2.2.1 k), S.2.2.2.2.2)
def vsn (V : hV) : hV := (va_cpy V.1 (fun _ => 0) 0 0 6, va_cpy V.2.1 (fun _ => 0) 0 0 408, va_cpy V.2.2.1 (fun _ => 0) 0 0 24, va_cpy V.2.2.2.1 (fun _ => 0) 0 0 24, va_cpy V.2.2.2.2 (fun _ => 0) 0 0 24)
def vwp (V : hV) : hV := (ffl V.1 (nI 0) 6, ffl V.2.1 (nI 0) 408, ffl V.2.2.1 (nI 0) 24, ffl V.2.2.2.1 0 24, ffl V.2.2.2.2 0 24)
