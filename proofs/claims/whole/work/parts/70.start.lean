/-! WHAT THE STATEMENT GIVES AT THE START -/
theorem st_int {s : State} {args : Array Value} {ty : FieldType} (h : (Cond.arrayClass ty).before args s = true) : ∃ a : ClassId, ArrOfT s a ty ∧ s.vm.findClass ("[" ++ ty.toString) = some a := by
  obtain ⟨a, k, c, h1, h2, h3⟩ := Cond.arrayClass_spec h
  exact ⟨a, fun n z => ⟨fun k h => (by cases h), k, h2, c, h3⟩, h1⟩
theorem st_obj {s : State} {args : Array Value} {C : String} (h : (Cond.arrayOver (.object C)).before args s = true) : ∃ a : ClassId, ArrOfT s a (.object C) ∧ va_RA s a (.object C) := by
  obtain ⟨comp, a, k, h1, h2, h3, h4, h5⟩ := Cond.arrayOver_spec h
  exact ⟨a, fun n z => ⟨fun k h => (by cases h), k, h3, comp, h4⟩, k, comp, h3, h4, h1, h5⟩
set_option maxHeartbeats 4000000 in
set_option maxRecDepth 100000 in
theorem gw_start {p : Program} {s : State} {m : MethodId} {meth : Method} {c : Code} {b L : Nat} {xs : Nat → Int32} (C0 : lw_At p s m meth c b L xs) : ∃ K : gw_C, gw_T K s ∧ K.2.2.1 = s.heap.size := by
  obtain ⟨hx, hb, hr, hml, hown, hts, hX, hbl, hlocks, hgv⟩ := id C0
  have hs := flat_of_before _ hgv
  obtain ⟨c0, i0, k0⟩ := u_known (C := RJx4a65c) (T := TJx4a65c) (N := 3) (n := 3) hts inJx4a65c (hts (.instantiable RJx4a65c 3) (by decide +kernel))
  obtain ⟨c1, i1, k1⟩ := u_known (C := RX0) (T := TX0) (N := 5) (n := 5) hts inX0 (hts (.instantiable RX0 5) (by decide +kernel))
  obtain ⟨c2, i2, k2⟩ := u_known (C := RX1) (T := TX1) (N := 3) (n := 3) hts inX1 (hts (.instantiable RX1 3) (by decide +kernel))
  obtain ⟨c3, i3, k3⟩ := u_known (C := RX2) (T := TX2) (N := 3) (n := 3) hts inX2 (hts (.instantiable RX2 3) (by decide +kernel))
  obtain ⟨c4, i4, k4⟩ := u_known (C := RX3) (T := TX3) (N := 8) (n := 8) hts inX3 (hts (.instantiable RX3 8) (by decide +kernel))
  obtain ⟨a0, o0, f0⟩ := st_int (hts (.arrayClass .int) (by decide +kernel))
  obtain ⟨a1, o1, f1⟩ := st_int (hts (.arrayClass .long) (by decide +kernel))
  obtain ⟨a2, o2, f2⟩ := st_obj (hts (.arrayOver (.object "DotGossip$Holding")) (by decide +kernel))
  obtain ⟨a3, o3, f3⟩ := st_obj (hts (.arrayOver (.object "java/lang/Object")) (by decide +kernel))
  have hA : ∀ a : Nat, a < s.heap.size → ¬ (fun q : Nat => s.heap.size ≤ q) a := fun a h => Nat.not_le.mpr h
  obtain ⟨tE, hE1, hE2⟩ := va_Tof (tm := .static "java/util/ArrayList" "DEFAULTCAPACITY_EMPTY_ELEMENTDATA" "[Ljava/lang/Object;") (ty := .object "java/lang/Object") (N := 0) (f := fun _ => .null) (by decide) (hs _ (by decide +kernel)) (va_eqt (hs _ (by decide +kernel))) (fun j hj => absurd hj (Nat.not_lt_zero j)) hA
  obtain ⟨mi, hmi⟩ := va_Mi.of (C := "[Ljava/lang/Object;") (hs _ (by decide +kernel))
  refine ⟨((fun k => if k = 0 then c0 else if k = 1 then c1 else if k = 2 then c2 else if k = 3 then c3 else c4, fun k => if k = 0 then i0 else if k = 1 then i1 else if k = 2 then i2 else if k = 3 then i3 else i4), (fun k => if k = 0 then a0 else if k = 1 then a1 else if k = 2 then a2 else a3), s.heap.size, tE, mi), ⟨⟨fun k q hq => ?_, fun k q hq => ?_⟩, ⟨⟨?_, ?_⟩, ⟨?_, hE2⟩, hmi, ?_⟩, ⟨?_, ?_, ?_⟩, ⟨?_, ?_⟩, ⟨?_, ?_⟩, ⟨?_, ?_⟩, ?_⟩, rfl⟩
  · match k, hq with
    | 0, hq => cases hq; exact k0
    | 1, hq => cases hq; exact k1
    | 2, hq => cases hq; exact k2
    | 3, hq => cases hq; exact k3
    | 4, hq => cases hq; exact k4
    | k + 5, hq => simp [vwCl] at hq
  · match k, hq with
    | 0, hq => cases hq; exact ⟨o0, f0⟩
    | 1, hq => cases hq; exact ⟨o1, f1⟩
    | 2, hq => cases hq; exact ⟨o2, f2⟩
    | 3, hq => cases hq; exact ⟨o3, f3⟩
    | k + 4, hq => simp [gw_tys] at hq
  · exact vx_Zqof (hts _ (by decide +kernel)) (hts (.initialized Bundle.tN) (by decide +kernel)) (hs _ (by decide +kernel)) hA
  · exact vx_Zqof (hts _ (by decide +kernel)) (hts (.initialized Bundle.tN) (by decide +kernel)) (hs _ (by decide +kernel)) hA
  · exact va_Zof (hts _ (by decide +kernel)) (hts (.initialized "java/util/ArrayList") (by decide +kernel)) hE1 hA
  · exact va_Dc.of (hts _ (by decide +kernel))
  · exact va_Nw.of rfl (hts (gw_dec "java/lang/RuntimeException") (by decide +kernel))
  · exact va_Nw.of rfl (hts (gw_dec "java/lang/Exception") (by decide +kernel))
  · exact va_Nw.of rfl (hts (gw_dec "java/lang/Throwable") (by decide +kernel))
  · exact va_Nw.of rfl (hts (.castable "java/lang/IllegalArgumentException" "java/lang/IllegalArgumentException") (by decide +kernel))
  · exact va_Nw.of rfl (hts (.castable "java/lang/IllegalStateException" "java/lang/IllegalStateException") (by decide +kernel))
  · exact va_Nw.of rfl (hts (.castable "DotGossip$Message" "DotGossip$Message") (by decide +kernel))
  · exact va_Nw.of rfl (hts (.castable "DotGossip$Message" "java/lang/Object") (by decide +kernel))
  · exact va_AO.of (hts _ (by decide +kernel))
  · exact va_AO.of (hts _ (by decide +kernel))
  · exact va_Nc.of (hs _ (by decide +kernel))
