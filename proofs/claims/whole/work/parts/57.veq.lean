def nng (V : hV) : Prop := ∀ j, j < 408 → 0 ≤ (V.2.1 j).toInt
theorem dmv {V : hV} {tb vb : Nat → Int32} {sb : Nat → Int64} {w : Nat} (h : veq V (vw tb vb sb w)) (hn : nng V) {pl b : Nat} (hp : pl < 68) (hb : b = 414 * w + 6 + 6 * pl) : ∀ j, j < 6 → V.2.1 (pl * 6 + j) = tb (b + j) ∧ 0 ≤ (V.2.1 (pl * 6 + j)).toInt := fun j hj =>
  ⟨(h.2.1 (pl * 6 + j) (by omega)).trans (show tb (414 * w + 6 + (pl * 6 + j)) = tb (b + j) by congr 1; omega), hn _ (by omega)⟩
theorem veq_dcnt {V : hV} {tb vb : Nat → Int32} {sb : Nat → Int64} {w : Nat} (h : veq V (vw tb vb sb w)) (hn : nng V) {pl b : Nat} (hp : pl < 68) (hb : b = 414 * w + 6 + 6 * pl) : dcnt V.2.1 pl 6 = mny tb b 6 := dm 6 (dmv h hn hp hb)
theorem veq_mko {V : hV} {tb vb : Nat → Int32} {sb : Nat → Int64} {w : Nat} {ii : Int32} (h : veq V (vw tb vb sb w)) (hn : nng V) {pl b : Nat} (hp : pl < 68) (hb : b = 414 * w + 6 + 6 * pl) : mko V.2.1 pl ii 6 = mgo tb b ii 6 := mm 6 (dmv h hn hp hb)
theorem veq_wsum {V : hV} {tb vb : Nat → Int32} {sb : Nat → Int64} {w : Nat} (h : veq V (vw tb vb sb w)) {ct : Nat} (hp : ct < 4) : wsum V.2.2.2.1 V.2.2.2.2 ct 6 = msum sb (48 * w + 6 * ct) 6 := wm 6 (fun j hj =>
  ⟨(h.2.2.2.1 (ct * 6 + j) (by omega)).trans (show sb (48 * w + (ct * 6 + j)) = sb (48 * w + 6 * ct + j) by congr 1; omega), (h.2.2.2.2 (ct * 6 + j) (by omega)).trans (show sb (48 * w + 24 + (ct * 6 + j)) = sb (48 * w + 6 * ct + j + 24) by congr 1; omega)⟩)
theorem veq_scnt {V : hV} {tb vb : Nat → Int32} {sb : Nat → Int64} {w : Nat} (h : veq V (vw tb vb sb w)) (hn : nng V) {ks : Nat} (hk : ks < 4) : ∀ i, i ≤ 16 → scnt V.2.1 ks i = msz tb w ks i := by
  intro i
  induction i with
  | zero => intro _; rfl
  | succ i ih =>
    intro hi
    show scnt V.2.1 ks i + (if dcnt V.2.1 (ks * 16 + i) 6 = 0 then 0 else 1) = msz tb w ks i + (if mny tb (414 * w + 6 + 6 * (16 * ks + i)) 6 = 0 then 0 else 1)
    rw [ih (by omega), veq_dcnt h hn (pl := ks * 16 + i) (b := 414 * w + 6 + 6 * (16 * ks + i)) (by omega) (by omega)]
/-- add -/
theorem veq_add {V : hV} {tb vb : Nat → Int32} {sb : Nat → Int64} {w : Nat} (h : veq V (vw tb vb sb w)) (hw : w < 6) {pl row : Nat} (hp : pl < 68) (hr : row = pl) : veq (vadd V w pl) (vw (mnew tb w row) vb sb w) := by
  subst hr
  have hn : V.1 w = tb (414 * w + w) := h.1 w hw
  refine ⟨fun k hk => ?_, fun k hk => ?_, h.2.2.1, h.2.2.2.1, h.2.2.2.2⟩
  · show (if k = w then V.1 w + nI 1 else V.1 k) = (if 414 * w + k = 414 * w + 6 + 6 * row + w then tb (414 * w + w) + nI 1 else if 414 * w + 6 + 6 * row ≤ 414 * w + k ∧ 414 * w + k < 414 * w + 6 + 6 * row + 6 then 0 else if 414 * w + k = 414 * w + w then tb (414 * w + w) + nI 1 else tb (414 * w + k))
    rw [if_neg (show ¬ 414 * w + k = 414 * w + 6 + 6 * row + w by omega), if_neg (show ¬ (414 * w + 6 + 6 * row ≤ 414 * w + k ∧ 414 * w + k < 414 * w + 6 + 6 * row + 6) by omega)]
    by_cases hk2 : k = w
    · rw [if_pos hk2, if_pos (by omega), hn]
    · rw [if_neg hk2, if_neg (by omega)]
      exact h.1 k hk
  · show (if k = row * 6 + w then V.1 w + nI 1 else if row * 6 ≤ k ∧ k < row * 6 + 6 then 0 else V.2.1 k) = (if 414 * w + 6 + k = 414 * w + 6 + 6 * row + w then tb (414 * w + w) + nI 1 else if 414 * w + 6 + 6 * row ≤ 414 * w + 6 + k ∧ 414 * w + 6 + k < 414 * w + 6 + 6 * row + 6 then 0 else if 414 * w + 6 + k = 414 * w + w then tb (414 * w + w) + nI 1 else tb (414 * w + 6 + k))
    by_cases h1 : k = row * 6 + w
    · rw [if_pos h1, if_pos (show 414 * w + 6 + k = 414 * w + 6 + 6 * row + w by omega), hn]
    · rw [if_neg h1, if_neg (show ¬ 414 * w + 6 + k = 414 * w + 6 + 6 * row + w by omega)]
      by_cases h2 : row * 6 ≤ k ∧ k < row * 6 + 6
      · rw [if_pos h2, if_pos (show 414 * w + 6 + 6 * row ≤ 414 * w + 6 + k ∧ 414 * w + 6 + k < 414 * w + 6 + 6 * row + 6 by omega)]
      · rw [if_neg h2, if_neg (show ¬ (414 * w + 6 + 6 * row ≤ 414 * w + 6 + k ∧ 414 * w + 6 + k < 414 * w + 6 + 6 * row + 6) by omega), if_neg (show ¬ 414 * w + 6 + k = 414 * w + w by omega)]
        exact h.2.1 k hk
theorem lc_new {tb : Nat → Int32} {w row : Nat} (hw : w < 6) (hr : row < 68) : lc 414 w tb (mnew tb w row) := fun j hj => by
  show (if j = 414 * w + 6 + 6 * row + w then tb (414 * w + w) + nI 1 else if 414 * w + 6 + 6 * row ≤ j ∧ j < 414 * w + 6 + 6 * row + 6 then 0 else if j = 414 * w + w then tb (414 * w + w) + nI 1 else tb j) = tb j
  rw [if_neg (show ¬ j = 414 * w + 6 + 6 * row + w by omega), if_neg (show ¬ (414 * w + 6 + 6 * row ≤ j ∧ j < 414 * w + 6 + 6 * row + 6) by omega), if_neg (show ¬ j = 414 * w + w by omega)]
/-- remove -/
theorem veq_rem {V : hV} {tb vb : Nat → Int32} {sb : Nat → Int64} {w : Nat} (h : veq V (vw tb vb sb w)) {pl b : Nat} (hp : pl < 68) (hb : b = 414 * w + 6 + 6 * pl) : veq (vrem V pl) (vw (mclr tb b 6) vb sb w) := by
  refine ⟨fun k hk => ?_, fun k hk => ?_, h.2.2.1, h.2.2.2.1, h.2.2.2.2⟩
  · show V.1 k = (if b ≤ 414 * w + k ∧ 414 * w + k < b + 6 then 0 else tb (414 * w + k))
    rw [if_neg (by omega)]
    exact h.1 k hk
  · show (if pl * 6 ≤ k ∧ k < pl * 6 + 6 then 0 else V.2.1 k) = (if b ≤ 414 * w + 6 + k ∧ 414 * w + 6 + k < b + 6 then 0 else tb (414 * w + 6 + k))
    by_cases h2 : pl * 6 ≤ k ∧ k < pl * 6 + 6
    · rw [if_pos h2, if_pos (by omega)]
    · rw [if_neg h2, if_neg (by omega)]
      exact h.2.1 k hk
theorem lc_clr {tb : Nat → Int32} {w b row : Nat} (hr : row < 68) (hb : b = 414 * w + 6 + 6 * row) : lc 414 w tb (mclr tb b 6) := fun j hj => by
  show (if b ≤ j ∧ j < b + 6 then 0 else tb j) = tb j
  rw [if_neg (by omega)]
/-- write -/
theorem veq_wr {V : hV} {tb vb : Nat → Int32} {sb : Nat → Int64} {w : Nat} {v : Int32} (h : veq V (vw tb vb sb w)) (hw : w < 6) {k : Nat} (hk : k < 4) : veq (vwr V w k v) (vw (mnew tb w (64 + k)) (upd vb (24 * w + 6 * k + w) v) sb w) := by
  have h9 := veq_add h hw (pl := 64 + k) (row := 64 + k) (by omega) rfl
  refine ⟨h9.1, h9.2.1, fun j hj => ?_, h.2.2.2.1, h.2.2.2.2⟩
  show (if j = k * 6 + w then v else V.2.2.1 j) = (if 24 * w + j = 24 * w + 6 * k + w then v else vb (24 * w + j))
  by_cases h1 : j = k * 6 + w
  · rw [if_pos h1, if_pos (by omega)]
  · rw [if_neg h1, if_neg (by omega)]
    exact h.2.2.1 j hj
theorem lc_wr {vb : Nat → Int32} {w k : Nat} {v : Int32} (hw : w < 6) (hk : k < 4) : lc 24 w vb (upd vb (24 * w + 6 * k + w) v) := fun j hj => by
  show (if j = 24 * w + 6 * k + w then v else vb j) = vb j
  rw [if_neg (by omega)]
/-- count -/
theorem veq_cnt {V : hV} {tb vb : Nat → Int32} {sb : Nat → Int64} {w : Nat} {b : Int32} (h : veq V (vw tb vb sb w)) (hw : w < 6) {k : Nat} (hk : k < 4) : veq (vcnt V w k b) (vw tb vb (mcn sb (48 * w + 6 * k + w) b) w) := by
  have hA := h.2.2.2.1 (k * 6 + w) (by omega)
  have hT := h.2.2.2.2 (k * 6 + w) (by omega)
  have hA : V.2.2.2.1 (k * 6 + w) = sb (48 * w + 6 * k + w) := hA.trans (show sb (48 * w + (k * 6 + w)) = _ by congr 1; omega)
  have hT : V.2.2.2.2 (k * 6 + w) = sb (48 * w + 6 * k + w + 24) := hT.trans (show sb (48 * w + 24 + (k * 6 + w)) = _ by congr 1; omega)
  refine ⟨h.1, h.2.1, h.2.2.1, fun j hj => ?_, fun j hj => ?_⟩
  · have h9 : V.2.2.2.1 j = sb (48 * w + j) := h.2.2.2.1 j hj
    show (if 0 ≤ b then vp_updL V.2.2.2.1 (k * 6 + w) (V.2.2.2.1 (k * 6 + w) + b.toInt64) else V.2.2.2.1) j = (if b ≤ 0 then vp_updL sb (48 * w + 6 * k + w + 24) (sb (48 * w + 6 * k + w + 24) - b.toInt64) else vp_updL sb (48 * w + 6 * k + w) (sb (48 * w + 6 * k + w) + b.toInt64)) (48 * w + j)
    by_cases hb : b ≤ 0
    · rw [if_pos hb]
      show _ = (if 48 * w + j = 48 * w + 6 * k + w + 24 then _ else sb (48 * w + j))
      rw [if_neg (show ¬ 48 * w + j = 48 * w + 6 * k + w + 24 by omega)]
      by_cases h0 : 0 ≤ b
      · have hz : b = 0 := Int32.le_antisymm hb h0
        rw [if_pos h0]
        show (if j = k * 6 + w then V.2.2.2.1 (k * 6 + w) + b.toInt64 else V.2.2.2.1 j) = _
        by_cases hj2 : j = k * 6 + w
        · rw [if_pos hj2, hz, ← hj2, ← h9]
          exact Int64.add_zero _
        · rw [if_neg hj2]
          exact h9
      · rw [if_neg h0]
        exact h9
    · have h0 : 0 ≤ b := Int32.le_of_lt (Int32.not_le.mp hb)
      rw [if_neg hb, if_pos h0]
      show (if j = k * 6 + w then V.2.2.2.1 (k * 6 + w) + b.toInt64 else V.2.2.2.1 j) = (if 48 * w + j = 48 * w + 6 * k + w then sb (48 * w + 6 * k + w) + b.toInt64 else sb (48 * w + j))
      by_cases hj2 : j = k * 6 + w
      · rw [if_pos hj2, if_pos (by omega), hA]
      · rw [if_neg hj2, if_neg (by omega)]
        exact h9
  · have h9 : V.2.2.2.2 j = sb (48 * w + 24 + j) := h.2.2.2.2 j hj
    show (if 0 ≤ b then V.2.2.2.2 else vp_updL V.2.2.2.2 (k * 6 + w) (V.2.2.2.2 (k * 6 + w) - b.toInt64)) j = (if b ≤ 0 then vp_updL sb (48 * w + 6 * k + w + 24) (sb (48 * w + 6 * k + w + 24) - b.toInt64) else vp_updL sb (48 * w + 6 * k + w) (sb (48 * w + 6 * k + w) + b.toInt64)) (48 * w + 24 + j)
    by_cases hb : b ≤ 0
    · rw [if_pos hb]
      show _ = (if 48 * w + 24 + j = 48 * w + 6 * k + w + 24 then sb (48 * w + 6 * k + w + 24) - b.toInt64 else sb (48 * w + 24 + j))
      by_cases h0 : 0 ≤ b
      · have hz : b = 0 := Int32.le_antisymm hb h0
        rw [if_pos h0, h9]
        by_cases hj2 : j = k * 6 + w
        · rw [if_pos (by omega), hz, show 48 * w + 24 + j = 48 * w + 6 * k + w + 24 by omega]
          exact (Int64.sub_zero _).symm
        · rw [if_neg (by omega)]
      · rw [if_neg h0]
        show (if j = k * 6 + w then V.2.2.2.2 (k * 6 + w) - b.toInt64 else V.2.2.2.2 j) = _
        by_cases hj2 : j = k * 6 + w
        · rw [if_pos hj2, if_pos (by omega), hT]
        · rw [if_neg hj2, if_neg (by omega)]
          exact h9
    · have h0 : 0 ≤ b := Int32.le_of_lt (Int32.not_le.mp hb)
      rw [if_neg hb, if_pos h0]
      show _ = (if 48 * w + 24 + j = 48 * w + 6 * k + w then _ else sb (48 * w + 24 + j))
      rw [if_neg (by omega)]
      exact h9
theorem lc_cnt {sb : Nat → Int64} {w k : Nat} {b : Int32} (hw : w < 6) (hk : k < 4) : lc 48 w sb (mcn sb (48 * w + 6 * k + w) b) := fun j hj => by
  unfold mcn
  split
  · show (if j = 48 * w + 6 * k + w + 24 then _ else sb j) = sb j
    rw [if_neg (by omega)]
  · show (if j = 48 * w + 6 * k + w then _ else sb j) = sb j
    rw [if_neg (by omega)]
/-- clear -/
theorem veq_cl {V : hV} {tb vb : Nat → Int32} {sb : Nat → Int64} {w : Nat} (h : veq V (vw tb vb sb w)) (hn : nng V) {ks : Nat} (hk : ks < 4) : ∀ i, i ≤ 16 → veq (vcl V ks i).1 (vw (mcl tb w ks i).1 vb sb w) ∧ (vcl V ks i).2 = (mcl tb w ks i).2 ∧ nng (vcl V ks i).1 ∧ lc 414 w tb (mcl tb w ks i).1 := by
  intro i
  induction i with
  | zero => intro _; exact ⟨h, rfl, hn, lc.rf _ _ _⟩
  | succ i ih =>
    intro hi
    obtain ⟨h1, h2, h3, h4⟩ := ih (by omega)
    refine ⟨?_, ?_, ?_, ?_⟩
    · exact veq_rem h1 (pl := ks * 16 + i) (b := 414 * w + 6 + 6 * (16 * ks + i)) (by omega) (by omega)
    · show (vcl V ks i).2 + (if dcnt (vcl V ks i).1.2.1 (ks * 16 + i) 6 = 0 then 0 else 1) = (mcl tb w ks i).2 + (if mny (mcl tb w ks i).1 (414 * w + 6 + 6 * (16 * ks + i)) 6 = 0 then 0 else 1)
      rw [h2, veq_dcnt h1 h3 (pl := ks * 16 + i) (b := 414 * w + 6 + 6 * (16 * ks + i)) (by omega) (by omega)]
    · intro j hj
      show 0 ≤ (if (ks * 16 + i) * 6 ≤ j ∧ j < (ks * 16 + i) * 6 + 6 then (0 : Int32) else (vcl V ks i).1.2.1 j).toInt
      split
      · decide
      · exact h3 j hj
    · exact h4.tr (lc_clr (row := 16 * ks + i) (by omega) rfl)
/-- gossip, copy -/
theorem veq_cp {V : hV} {tb vb : Nat → Int32} {sb : Nat → Int64} {a b : Nat} (h : veq V (vw tb vb sb a)) : veq V (vw (mcp tb (414 * a) (414 * b) 414) (mcp vb (24 * a) (24 * b) 24) (mcp sb (48 * a) (48 * b) 48) b) := by
  refine ⟨fun k hk => (h.1 k hk).trans ?_, fun k hk => (h.2.1 k hk).trans ?_, fun k hk => (h.2.2.1 k hk).trans ?_, fun k hk => (h.2.2.2.1 k hk).trans ?_, fun k hk => (h.2.2.2.2 k hk).trans ?_⟩
  · show tb (414 * a + k) = (if 414 * b ≤ 414 * b + k ∧ 414 * b + k < 414 * b + 414 then tb (414 * a + (414 * b + k - 414 * b)) else _)
    rw [if_pos (by omega), Nat.add_sub_cancel_left]
  · show tb (414 * a + 6 + k) = (if 414 * b ≤ 414 * b + 6 + k ∧ 414 * b + 6 + k < 414 * b + 414 then tb (414 * a + (414 * b + 6 + k - 414 * b)) else _)
    rw [if_pos (by omega)]
    congr 1
    omega
  · show vb (24 * a + k) = (if 24 * b ≤ 24 * b + k ∧ 24 * b + k < 24 * b + 24 then vb (24 * a + (24 * b + k - 24 * b)) else _)
    rw [if_pos (by omega), Nat.add_sub_cancel_left]
  · show sb (48 * a + k) = (if 48 * b ≤ 48 * b + k ∧ 48 * b + k < 48 * b + 48 then sb (48 * a + (48 * b + k - 48 * b)) else _)
    rw [if_pos (by omega), Nat.add_sub_cancel_left]
  · show sb (48 * a + 24 + k) = (if 48 * b ≤ 48 * b + 24 + k ∧ 48 * b + 24 + k < 48 * b + 48 then sb (48 * a + (48 * b + 24 + k - 48 * b)) else _)
    rw [if_pos (by omega)]
    congr 1
    omega
theorem lc_cp {α : Type} {f : Nat → α} {s b pa : Nat} : lc s b f (mcp f pa (s * b) s) := fun j hj => by
  show (if s * b ≤ j ∧ j < s * b + s then _ else f j) = f j
  rw [if_neg (by omega)]
