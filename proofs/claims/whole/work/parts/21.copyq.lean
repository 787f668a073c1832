section GwCopyQ
variable {p : Program} {l : Launch} {e : Env} {R : Room} {s : State} {m : MethodId} {args : Array Value} {below : List Frame} {meth : Method} {c : Code} {H : Heap} {locs : List Loc} {cells slots : Nat} {Q : State → Prop}
variable {cc : ByteArray} {pc : Nat} {ls : Array Slot} {rest : List Value} {K : gw_C} {M : gw_M} {a a0 : Nat} {tys : List (ClassId × FieldType)} {H0 : Heap}
/-- an object in the world, as an element of an array of E -/
theorem gw_any (hK : va_K K.1 vwCl tys s) (hG : gw_B K M H0 H locs) {y ci : Nat} {vs : List Value} {r : vw_C} {E : String} (hM : M y = some (.inr (ci, vs))) (hc : vwCl[ci]? = some r) (hca : va_Nw (.castable r.1 E) s) : va_Any E s H y := by
  obtain ⟨ws, hL, hP, hD, hS, h0⟩ := hG
  obtain ⟨q0, hq⟩ := (hL _ _).mp hM
  obtain ⟨c3, c4, hc3, hc4, hasg⟩ := Cond.castable_spec hca
  refine va_rAny hK hP hq hc (fun comp c0 h1 h2 => ?_)
  cases Option.some.inj (hc4.symm.trans h1)
  cases Option.some.inj (hc3.symm.trans h2)
  exact hasg
/-- System.arraycopy between arrays of Object (one and the same array too) -/
theorem gw_copyq (hexec : p.tables.exec = Jvm.exec) (hb : c.code = cc) (hml : c.maxLocals = ls.size) {own : String} {index : Nat} (hown : s.vm.findClass own = some m.cls) (hlink : (Cond.methodLink own index arraycopyName).before args s = true) (hnat : (Cond.native arraycopyName).before args s = true) (hstat : (Cond.static arraycopyName).before args s = true) (hini : (Cond.initialized "java/lang/System").before args s = true)
    (hK : va_K K.1 vwCl tys s) (hG : gw_B K M H0 H locs) {cA : ClassId} {E : String} {n0 n1 sp dp nn : Nat} {f g : Nat → Option Nat} (hM0 : M a0 = some (.inl (cA, n0, .inr (.inr (.inr (.inr f)))))) (hM1 : M a = some (.inl (cA, n1, .inr (.inr (.inr (.inr g)))))) (t0 : Nat) (ht : tys[t0]? = some (cA, .object E)) (h4 : sp + nn ≤ n0) (h5 : dp + nn ≤ n1) (hn0 : n0 < 2 ^ 31) (hn1 : n1 < 2 ^ 31)
    (hel : ∀ i : Nat, i < nn → ∀ y : Nat, f (sp + i) = some y → va_Any E s H y)
    (hframes : 1 ≤ R.frames) (hlocals : (rest.map fun v => v.category).sum + (nativeFrameWords "java/lang/System" "arraycopy" 5 + 11) ≤ R.locals) (hdg : decode cc pc = .ok (.invokestatic index, 3))
    (kk : ∀ (H1 : Heap) (locs1 : List Loc), gw_B K (gw_up M a (.inl (cA, n1, .inr (.inr (.inr (.inr (va_cpy f g sp dp nn))))))) H0 H1 locs1 → W p l e R s m args below meth c H1 locs1 cells slots Q (F0 m (pc + 3) ls rest)) : W p l e R s m args below meth c H locs cells slots Q (F0 m pc ls (.int (nI nn) :: .int (nI dp) :: .ref a :: .int (nI sp) :: .ref a0 :: rest)) := by
  obtain ⟨ws, hL, hP, hD, hS, h0⟩ := hG
  obtain ⟨q0, hq0⟩ := (hL _ _).mp hM0
  obtain ⟨q1, hq1⟩ := (hL _ _).mp hM1
  have es : (nI sp).toNatClampNeg = sp := nI_clamp (by omega)
  have ed : (nI dp).toNatClampNeg = dp := nI_clamp (by omega)
  have en : (nI nn).toNatClampNeg = nn := nI_clamp (by omega)
  refine va_copyM hexec hb hml hown hlink hnat hstat hini hK hP hD hS q0 q1 t0 t0 hq0 hq1 ht ht (nI_pos (by omega)) (nI_pos (by omega)) (nI_pos (by omega)) (by rw [es, en]; omega) (by rw [ed, en]; omega) (fun i hi y hy => ?_) hframes hlocals hdg (fun H1 locs1 hP1 hD1 hS1 => ?_)
  · rw [en] at hi
    rw [es] at hy
    exact hel i hi y hy
  · rw [es, ed, en] at hP1 hD1
    exact kk H1 locs1 (gw_B.put hL hD hq1 h0 hP1 hD1 hS1)
theorem gw_astq_n (hexec : p.tables.exec = Jvm.exec) (hb : c.code = cc) (hK : va_K K.1 vwCl tys s) (hG : gw_B K M H0 H locs) {E : String} {cA : ClassId} {r : vw_C} {n v j : Nat} {vs : List Value} {f : Nat → Option Nat} (hM : M a = some (.inl (cA, n, .inr (.inr (.inr (.inr f)))))) (t0 : Nat) (ht : tys[t0]? = some (cA, .object E)) (hca : va_Nw (.castable r.1 E) s) (ci : Nat) (hv : M v = some (.inr (ci, vs))) (hc : vwCl[ci]? = some r) (hj : j < n) (hn : n < 2 ^ 31) (hdg : decode cc pc = .ok (.aastore, 1))
    (kk : ∀ (H1 : Heap) (locs1 : List Loc), gw_B K (gw_up M a (.inl (cA, n, .inr (.inr (.inr (.inr (va_up f j (some v)))))))) H0 H1 locs1 → W p l e R s m args below meth c H1 locs1 cells slots Q (F0 m (pc + 1) ls rest)) : W p l e R s m args below meth c H locs cells slots Q (F0 m pc ls (.ref v :: .int (nI j) :: .ref a :: rest)) :=
  gw_astqO hexec hb hK hG hM t0 ht hca ci hv hc (gw_in hj hn) hdg (fun H1 locs1 h => kk H1 locs1 (by rw [nI_clamp (by omega)] at h; exact h))
theorem gw_astn_n (hexec : p.tables.exec = Jvm.exec) (hb : c.code = cc) (hK : va_K K.1 vwCl tys s) (hG : gw_B K M H0 H locs) {C : String} {cA : ClassId} {n j : Nat} {f : Nat → Option Nat} (hM : M a = some (.inl (cA, n, .inr (.inr (.inr (.inr f)))))) (t0 : Nat) (ht : tys[t0]? = some (cA, .object C)) (hj : j < n) (hn : n < 2 ^ 31) (hdg : decode cc pc = .ok (.aastore, 1))
    (kk : ∀ (H1 : Heap) (locs1 : List Loc), gw_B K (gw_up M a (.inl (cA, n, .inr (.inr (.inr (.inr (va_up f j none))))))) H0 H1 locs1 → W p l e R s m args below meth c H1 locs1 cells slots Q (F0 m (pc + 1) ls rest)) : W p l e R s m args below meth c H locs cells slots Q (F0 m pc ls (.null :: .int (nI j) :: .ref a :: rest)) :=
  gw_astqN hexec hb hK hG hM t0 ht (gw_in hj hn) hdg (fun H1 locs1 h => kk H1 locs1 (by rw [nI_clamp (by omega)] at h; exact h))
end GwCopyQ
/-! ARRAYLIST: the list w of sz elements, f: the array (at a, of cap places; ArrayList's own empty one where there never was an element) -/
def al (K : gw_C) (M : gw_M) (w a cap sz : Nat) (mc : Int32) (f : Nat → Option Nat) : Prop :=
  M w = some (.inr (0, [.int mc, .ref a, .int (nI sz)])) ∧ sz ≤ 100 ∧ ((a = K.2.2.2.1 ∧ cap = 0 ∧ sz = 0) ∨ (M a = some (.inl (K.2.1 3, cap, .inr (.inr (.inr (.inr f))))) ∧ sz ≤ cap ∧ 10 ≤ cap ∧ cap ≤ 150))
/-- its elements are messages -/
def ael (M : gw_M) (sz : Nat) (f : Nat → Option Nat) : Prop := ∀ k, k < sz → ∃ y vs, f k = some y ∧ M y = some (.inr (2, vs))
