/-! THE CLASS'S STATE AND THE REFERENCE'S ARRAYS, held against each other -/
/-- the reference's arrays, read as a holding -/
def vw (tb vb : Nat → Int32) (sb : Nat → Int64) (who : Nat) : hV := (fun k => tb (414 * who + k), fun k => tb (414 * who + 6 + k), fun k => vb (24 * who + k), fun k => sb (48 * who + k), fun k => sb (48 * who + 24 + k))
/-- alike where there are entries -/
def veq (V U : hV) : Prop := (∀ k, k < 6 → V.1 k = U.1 k) ∧ (∀ k, k < 408 → V.2.1 k = U.2.1 k) ∧ (∀ k, k < 24 → V.2.2.1 k = U.2.2.1 k) ∧ (∀ k, k < 24 → V.2.2.2.1 k = U.2.2.2.1 k) ∧ ∀ k, k < 24 → V.2.2.2.2 k = U.2.2.2.2 k
theorem veq.rf (V : hV) : veq V V := ⟨fun _ _ => rfl, fun _ _ => rfl, fun _ _ => rfl, fun _ _ => rfl, fun _ _ => rfl⟩
theorem veq.tr {V U W : hV} (h : veq V U) (g : veq U W) : veq V W := ⟨fun k hk => (h.1 k hk).trans (g.1 k hk), fun k hk => (h.2.1 k hk).trans (g.2.1 k hk), fun k hk => (h.2.2.1 k hk).trans (g.2.2.1 k hk), fun k hk => (h.2.2.2.1 k hk).trans (g.2.2.2.1 k hk), fun k hk => (h.2.2.2.2 k hk).trans (g.2.2.2.2 k hk)⟩
/-- nothing has changed outside the w-th stretch of s entries -/
def lc {α : Type} (s w : Nat) (f g : Nat → α) : Prop := ∀ j, (j < s * w ∨ s * w + s ≤ j) → g j = f j
theorem lc.rf {α : Type} (s w : Nat) (f : Nat → α) : lc s w f f := fun _ _ => rfl
theorem lc.tr {α : Type} {s w : Nat} {f g h : Nat → α} (a : lc s w f g) (b : lc s w g h) : lc s w f h := fun j hj => (b j hj).trans (a j hj)
theorem vw_oth {tb tb' vb vb' : Nat → Int32} {sb sb' : Nat → Int64} {w : Nat} (h1 : lc 414 w tb tb') (h2 : lc 24 w vb vb') (h3 : lc 48 w sb sb') {u : Nat} (hu : u ≠ w) : veq (vw tb vb sb u) (vw tb' vb' sb' u) :=
  ⟨fun k hk => (h1 (414 * u + k) (by omega)).symm, fun k hk => (h1 (414 * u + 6 + k) (by omega)).symm, fun k hk => (h2 (24 * u + k) (by omega)).symm, fun k hk => (h3 (48 * u + k) (by omega)).symm, fun k hk => (h3 (48 * u + 24 + k) (by omega)).symm⟩
def rel (S : gst) (tb vb : Nat → Int32) (sb : Nat → Int64) (fm tq : Nat → Int32) : Prop :=
  (∀ i, i < 6 → veq (S.2.1 i) (vw tb vb sb i)) ∧ ∀ k, k < S.2.2.1 → veq (S.2.2.2.2.2 k) (vw tb vb sb (6 + k)) ∧ fm k = nI (S.2.2.2.1 k) ∧ tq k = nI (S.2.2.2.2.1 k)
theorem rel_hold {S : gst} {tb vb tb' vb' : Nat → Int32} {sb sb' : Nat → Int64} {fm tq : Nat → Int32} {i : Nat} {V : hV} (h : rel S tb vb sb fm tq) (hi : i < 6) (h1 : lc 414 i tb tb') (h2 : lc 24 i vb vb') (h3 : lc 48 i sb sb') (hV : veq V (vw tb' vb' sb' i)) : rel (shold S i V) tb' vb' sb' fm tq := by
  refine ⟨fun k hk => ?_, fun k hk => ⟨(h.2 k hk).1.tr (vw_oth h1 h2 h3 (by omega)), (h.2 k hk).2⟩⟩
  show veq (if k = i then V else S.2.1 k) _
  by_cases hki : k = i
  · rw [if_pos hki, hki]
    exact hV
  · rw [if_neg hki]
    exact (h.1 k hk).tr (vw_oth h1 h2 h3 hki)
theorem rel_msg {S : gst} {tb vb tb' vb' : Nat → Int32} {sb sb' : Nat → Int64} {fm tq : Nat → Int32} {f t : Nat} {V : hV} (h : rel S tb vb sb fm tq) (h1 : lc 414 (6 + S.2.2.1) tb tb') (h2 : lc 24 (6 + S.2.2.1) vb vb') (h3 : lc 48 (6 + S.2.2.1) sb sb') (hV : veq V (vw tb' vb' sb' (6 + S.2.2.1))) : rel (smsg S f t V) tb' vb' sb' (upd fm S.2.2.1 (nI f)) (upd tq S.2.2.1 (nI t)) := by
  refine ⟨fun k hk => (h.1 k hk).tr (vw_oth h1 h2 h3 (by omega)), fun k hk => ?_⟩
  have hk : k < S.2.2.1 + 1 := hk
  show veq (if k = S.2.2.1 then V else S.2.2.2.2.2 k) _ ∧ (if k = S.2.2.1 then nI f else fm k) = nI (if k = S.2.2.1 then f else S.2.2.2.1 k) ∧ (if k = S.2.2.1 then nI t else tq k) = nI (if k = S.2.2.1 then t else S.2.2.2.2.1 k)
  by_cases hki : k = S.2.2.1
  · rw [if_pos hki, if_pos hki, if_pos hki, if_pos hki, if_pos hki, hki]
    exact ⟨hV, rfl, rfl⟩
  · rw [if_neg hki, if_neg hki, if_neg hki, if_neg hki, if_neg hki]
    have h9 := h.2 k (by omega)
    exact ⟨h9.1.tr (vw_oth h1 h2 h3 (by omega)), h9.2⟩
theorem msh_lo {α : Type} {f : Nat → α} {s B C j : Nat} (h : j < B) : msh f s B C j = f j := by
  unfold msh
  rw [if_neg (by omega)]
theorem msh_in {α : Type} {f : Nat → α} {s B C j : Nat} (h : B ≤ j ∧ j < B + C) : msh f s B C j = f (j + s) := by
  unfold msh
  rw [if_pos h]
theorem rel_del {S : gst} {tb vb : Nat → Int32} {sb : Nat → Int64} {fm tq : Nat → Int32} {i : Nat} (h : rel S tb vb sb fm tq) (hi : i < S.2.2.1) : rel (sdel S i) (msh tb 414 (414 * (6 + i)) (414 * (S.2.2.1 - 1 - i))) (msh vb 24 (24 * (6 + i)) (24 * (S.2.2.1 - 1 - i))) (msh sb 48 (48 * (6 + i)) (48 * (S.2.2.1 - 1 - i))) (msh fm 1 i (S.2.2.1 - 1 - i)) (msh tq 1 i (S.2.2.1 - 1 - i)) := by
  have lo : ∀ u, u < 6 + i → veq (vw tb vb sb u) (vw (msh tb 414 (414 * (6 + i)) (414 * (S.2.2.1 - 1 - i))) (msh vb 24 (24 * (6 + i)) (24 * (S.2.2.1 - 1 - i))) (msh sb 48 (48 * (6 + i)) (48 * (S.2.2.1 - 1 - i))) u) := fun u hu =>
    ⟨fun k hk => (msh_lo (j := 414 * u + k) (by omega)).symm, fun k hk => (msh_lo (j := 414 * u + 6 + k) (by omega)).symm, fun k hk => (msh_lo (j := 24 * u + k) (by omega)).symm, fun k hk => (msh_lo (j := 48 * u + k) (by omega)).symm, fun k hk => (msh_lo (j := 48 * u + 24 + k) (by omega)).symm⟩
  have up : ∀ k, i ≤ k → k < S.2.2.1 - 1 → veq (vw tb vb sb (6 + (k + 1))) (vw (msh tb 414 (414 * (6 + i)) (414 * (S.2.2.1 - 1 - i))) (msh vb 24 (24 * (6 + i)) (24 * (S.2.2.1 - 1 - i))) (msh sb 48 (48 * (6 + i)) (48 * (S.2.2.1 - 1 - i))) (6 + k)) := fun k h1 h2 => by
    refine ⟨fun j hj => ?_, fun j hj => ?_, fun j hj => ?_, fun j hj => ?_, fun j hj => ?_⟩
    · show tb (414 * (6 + (k + 1)) + j) = msh tb _ _ _ (414 * (6 + k) + j)
      rw [msh_in (by omega)]
      congr 1
      omega
    · show tb (414 * (6 + (k + 1)) + 6 + j) = msh tb _ _ _ (414 * (6 + k) + 6 + j)
      rw [msh_in (by omega)]
      congr 1
      omega
    · show vb (24 * (6 + (k + 1)) + j) = msh vb _ _ _ (24 * (6 + k) + j)
      rw [msh_in (by omega)]
      congr 1
      omega
    · show sb (48 * (6 + (k + 1)) + j) = msh sb _ _ _ (48 * (6 + k) + j)
      rw [msh_in (by omega)]
      congr 1
      omega
    · show sb (48 * (6 + (k + 1)) + 24 + j) = msh sb _ _ _ (48 * (6 + k) + 24 + j)
      rw [msh_in (by omega)]
      congr 1
      omega
  refine ⟨fun k hk => (h.1 k hk).tr (lo k (by omega)), fun k hk => ?_⟩
  have hk : k < S.2.2.1 - 1 := hk
  show veq (if k < i then S.2.2.2.2.2 k else S.2.2.2.2.2 (k + 1)) _ ∧ _ = nI (if k < i then S.2.2.2.1 k else S.2.2.2.1 (k + 1)) ∧ _ = nI (if k < i then S.2.2.2.2.1 k else S.2.2.2.2.1 (k + 1))
  by_cases hki : k < i
  · rw [if_pos hki, if_pos hki, if_pos hki, msh_lo hki, msh_lo hki]
    have h9 := h.2 k (by omega)
    exact ⟨h9.1.tr (lo (6 + k) (by omega)), h9.2⟩
  · rw [if_neg hki, if_neg hki, if_neg hki, msh_in (by omega), msh_in (by omega)]
    have h9 := h.2 (k + 1) (by omega)
    exact ⟨h9.1.tr (up k (by omega) hk), h9.2⟩
theorem rel_to {S : gst} {tb vb : Nat → Int32} {sb : Nat → Int64} {fm tq : Nat → Int32} {i t : Nat} (h : rel S tb vb sb fm tq) : rel (sto S i t) tb vb sb fm (upd tq i (nI t)) := by
  refine ⟨h.1, fun k hk => ?_⟩
  have h9 := h.2 k hk
  refine ⟨h9.1, h9.2.1, ?_⟩
  show (if k = i then nI t else tq k) = nI (if k = i then t else S.2.2.2.2.1 k)
  by_cases hki : k = i
  · rw [if_pos hki, if_pos hki]
  · rw [if_neg hki, if_neg hki]
    exact h9.2.2
theorem ffl_in {α : Type} {f : Nat → α} {v : α} {i j : Nat} (h : j < i) : ffl f v i j = v := if_pos h
theorem rel_open {S : gst} {tb vb : Nat → Int32} {sb : Nat → Int64} {fm tq : Nat → Int32} {k9 : Nat} : rel (sopen S k9) (ffl tb (nI 0) 2484) (ffl vb (nI 0) 144) (ffl sb 0 288) fm tq := by
  refine ⟨fun i hi => ?_, fun k hk => absurd hk (Nat.not_lt_zero k)⟩
  show veq (if i < 6 then vwp (S.2.1 i) else S.2.1 i) _
  rw [if_pos hi]
  exact ⟨fun k hk => (ffl_in hk).trans (ffl_in (by omega)).symm, fun k hk => (ffl_in hk).trans (ffl_in (by omega)).symm, fun k hk => (ffl_in hk).trans (ffl_in (by omega)).symm, fun k hk => (ffl_in hk).trans (ffl_in (by omega)).symm, fun k hk => (ffl_in hk).trans (ffl_in (by omega)).symm⟩
theorem rel_new : rel snew (fun _ => 0) (fun _ => 0) (fun _ => 0) (fun _ => 0) (fun _ => 0) := ⟨fun i hi => veq.rf _, fun k hk => absurd hk (Nat.not_lt_zero k)⟩
/-! what is read -/
theorem i_le0 {x : Int32} (h : 0 ≤ x.toInt) : x ≤ 0 ↔ x = 0 := by
  constructor
  · intro q
    have h1 := Int32.le_iff_toInt_le.mp q
    have e : (0 : Int32).toInt = 0 := by decide
    exact Int32.toInt_inj.mp (by omega)
  · intro q
    rw [q]
    decide
theorem dm {f g : Nat → Int32} {pl b : Nat} : ∀ k, (∀ j, j < k → f (pl * 6 + j) = g (b + j) ∧ 0 ≤ (f (pl * 6 + j)).toInt) → dcnt f pl k = mny g b k := by
  intro k
  induction k with
  | zero => intro _; rfl
  | succ k ih =>
    intro h
    show dcnt f pl k + (if f (pl * 6 + k) = 0 then 0 else 1) = mny g b k + (if g (b + k) ≤ 0 then 0 else 1)
    rw [ih (fun j hj => h j (by omega)), ← (h k (by omega)).1]
    by_cases hz : f (pl * 6 + k) = 0
    · rw [if_pos hz, if_pos ((i_le0 (h k (by omega)).2).mpr hz)]
    · rw [if_neg hz, if_neg (fun q => hz ((i_le0 (h k (by omega)).2).mp q))]
theorem mm {f g : Nat → Int32} {pl b : Nat} {ii : Int32} : ∀ k, (∀ j, j < k → f (pl * 6 + j) = g (b + j) ∧ 0 ≤ (f (pl * 6 + j)).toInt) → mko f pl ii k = mgo g b ii k := by
  intro k
  induction k with
  | zero => intro _; rfl
  | succ k ih =>
    intro h
    have hk := ih (fun j hj => h j (by omega))
    have hd := dm (f := f) (g := g) (pl := pl) (b := b) k (fun j hj => h j (by omega))
    show (if mko f pl ii k = -1 then (if f (pl * 6 + k) = 0 then -1 else if nI (dcnt f pl k) = ii then nI k else -1) else mko f pl ii k) = (if mgo g b ii k = -1 then (if g (b + k) ≤ 0 then -1 else if nI (mny g b k) = ii then nI k else -1) else mgo g b ii k)
    rw [hk, hd, ← (h k (by omega)).1]
    by_cases hz : f (pl * 6 + k) = 0
    · rw [if_pos hz, if_pos ((i_le0 (h k (by omega)).2).mpr hz)]
    · rw [if_neg hz, if_neg (fun q => hz ((i_le0 (h k (by omega)).2).mp q))]
theorem wm {f g s : Nat → Int64} {ct b : Nat} : ∀ k, (∀ j, j < k → f (ct * 6 + j) = s (b + j) ∧ g (ct * 6 + j) = s (b + j + 24)) → wsum f g ct k = msum s b k := by
  intro k
  induction k with
  | zero => intro _; rfl
  | succ k ih =>
    intro h
    show wsum f g ct k + (f (ct * 6 + k) - g (ct * 6 + k)) = msum s b k + (s (b + k) - s (b + k + 24))
    rw [ih (fun j hj => h j (by omega)), (h k (by omega)).1, (h k (by omega)).2]
