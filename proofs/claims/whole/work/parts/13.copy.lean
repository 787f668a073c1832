section GwCopy
variable {p : Program} {l : Launch} {e : Env} {R : Room} {s : State} {m : MethodId} {args : Array Value} {below : List Frame} {meth : Method} {c : Code} {H : Heap} {locs : List Loc} {cells slots : Nat} {Q : State → Prop}
variable {cc : ByteArray} {pc : Nat} {ls : Array Slot} {rest : List Value} {K : gw_C} {M : gw_M} {a a0 : Nat} {tys : List (ClassId × FieldType)} {H0 : Heap}
/-- System.arraycopy of a whole int array's first nn places into another's -/
theorem gw_copyi (hexec : p.tables.exec = Jvm.exec) (hb : c.code = cc) (hml : c.maxLocals = ls.size) {own : String} {index : Nat} (hown : s.vm.findClass own = some m.cls) (hlink : (Cond.methodLink own index arraycopyName).before args s = true) (hnat : (Cond.native arraycopyName).before args s = true) (hstat : (Cond.static arraycopyName).before args s = true) (hini : (Cond.initialized "java/lang/System").before args s = true)
    (hK : va_K K.1 vwCl tys s) (hG : gw_B K M H0 H locs) {cA : ClassId} {n0 n1 nn : Nat} {f g : Nat → Int32} (hM0 : M a0 = some (.inl (cA, n0, .inl f))) (hM1 : M a = some (.inl (cA, n1, .inl g))) (t0 : Nat) (ht : tys[t0]? = some (cA, .int)) (h4 : nn ≤ n0) (h5 : nn ≤ n1) (hn : nn < 2 ^ 31)
    (hframes : 1 ≤ R.frames) (hlocals : (rest.map fun v => v.category).sum + (nativeFrameWords "java/lang/System" "arraycopy" 5 + 11) ≤ R.locals) (hdg : decode cc pc = .ok (.invokestatic index, 3))
    (kk : ∀ (H1 : Heap) (locs1 : List Loc), gw_B K (gw_up M a (.inl (cA, n1, .inl (va_cpy f g 0 0 nn)))) H0 H1 locs1 → W p l e R s m args below meth c H1 locs1 cells slots Q (F0 m (pc + 3) ls rest)) : W p l e R s m args below meth c H locs cells slots Q (F0 m pc ls (.int (nI nn) :: .int (nI 0) :: .ref a :: .int (nI 0) :: .ref a0 :: rest)) := by
  obtain ⟨ws, hL, hP, hD, hS, h0⟩ := hG
  obtain ⟨q0, hq0⟩ := (hL _ _).mp hM0
  obtain ⟨q1, hq1⟩ := (hL _ _).mp hM1
  have e0 : (nI 0).toNatClampNeg = 0 := by decide
  have en : (nI nn).toNatClampNeg = nn := nI_clamp hn
  refine va_copyi hexec hb hml hown hlink hnat hstat hini hK hP hD hS q0 q1 t0 t0 hq0 hq1 ht ht rfl (by decide) (by decide) (nI_pos hn) (by rw [e0, en]; omega) (by rw [e0, en]; omega) (fun i _ => rfl) hframes hlocals hdg (fun H1 locs1 hP1 hD1 hS1 => ?_)
  rw [e0, en] at hP1 hD1
  exact kk H1 locs1 (gw_B.put hL hD hq1 h0 hP1 hD1 hS1)
theorem gw_copyl (hexec : p.tables.exec = Jvm.exec) (hb : c.code = cc) (hml : c.maxLocals = ls.size) {own : String} {index : Nat} (hown : s.vm.findClass own = some m.cls) (hlink : (Cond.methodLink own index arraycopyName).before args s = true) (hnat : (Cond.native arraycopyName).before args s = true) (hstat : (Cond.static arraycopyName).before args s = true) (hini : (Cond.initialized "java/lang/System").before args s = true)
    (hK : va_K K.1 vwCl tys s) (hG : gw_B K M H0 H locs) {cA : ClassId} {n0 n1 nn : Nat} {f g : Nat → Int64} (hM0 : M a0 = some (.inl (cA, n0, .inr (.inl f)))) (hM1 : M a = some (.inl (cA, n1, .inr (.inl g)))) (t0 : Nat) (ht : tys[t0]? = some (cA, .long)) (h4 : nn ≤ n0) (h5 : nn ≤ n1) (hn : nn < 2 ^ 31)
    (hframes : 1 ≤ R.frames) (hlocals : (rest.map fun v => v.category).sum + (nativeFrameWords "java/lang/System" "arraycopy" 5 + 11) ≤ R.locals) (hdg : decode cc pc = .ok (.invokestatic index, 3))
    (kk : ∀ (H1 : Heap) (locs1 : List Loc), gw_B K (gw_up M a (.inl (cA, n1, .inr (.inl (va_cpy f g 0 0 nn))))) H0 H1 locs1 → W p l e R s m args below meth c H1 locs1 cells slots Q (F0 m (pc + 3) ls rest)) : W p l e R s m args below meth c H locs cells slots Q (F0 m pc ls (.int (nI nn) :: .int (nI 0) :: .ref a :: .int (nI 0) :: .ref a0 :: rest)) := by
  obtain ⟨ws, hL, hP, hD, hS, h0⟩ := hG
  obtain ⟨q0, hq0⟩ := (hL _ _).mp hM0
  obtain ⟨q1, hq1⟩ := (hL _ _).mp hM1
  have e0 : (nI 0).toNatClampNeg = 0 := by decide
  have en : (nI nn).toNatClampNeg = nn := nI_clamp hn
  refine va_copyl hexec hb hml hown hlink hnat hstat hini hK hP hD hS q0 q1 t0 t0 hq0 hq1 ht ht rfl (by decide) (by decide) (nI_pos hn) (by rw [e0, en]; omega) (by rw [e0, en]; omega) (fun i _ => rfl) hframes hlocals hdg (fun H1 locs1 hP1 hD1 hS1 => ?_)
  rw [e0, en] at hP1 hD1
  exact kk H1 locs1 (gw_B.put hL hD hq1 h0 hP1 hD1 hS1)
end GwCopy
