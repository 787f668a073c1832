/-! WHAT EVERY CONTRACT HAS AT ITS START AND ITS END: the world, the tables' facts, the statics. -/
abbrev gw_tys (K : gw_C) : List (ClassId × FieldType) := [(K.2.1 0, .int), (K.2.1 1, .long), (K.2.1 2, .object "DotGossip$Holding"), (K.2.1 3, .object "java/lang/Object")]
def gw_dec (C : String) : Cond := .declares ⟨C, "<init>", "()V"⟩
/-- words that a callee's list can't hold -/
def gw_N (U : State) : Prop :=
  (va_Nw (gw_dec "java/lang/RuntimeException") U ∧ va_Nw (gw_dec "java/lang/Exception") U ∧ va_Nw (gw_dec "java/lang/Throwable") U) ∧
  (va_Nw (.castable "java/lang/IllegalArgumentException" "java/lang/IllegalArgumentException") U ∧ va_Nw (.castable "java/lang/IllegalStateException" "java/lang/IllegalStateException") U) ∧
  (va_Nw (.castable "DotGossip$Message" "DotGossip$Message") U ∧ va_Nw (.castable "DotGossip$Message" "java/lang/Object") U) ∧
  (va_AO "DotGossip$Holding" U ∧ va_AO "java/lang/Object" U) ∧ va_Nc "java/lang/IllegalStateException" "java/lang/IllegalArgumentException" U
theorem gw_nD {x : MethodName} {u U : State} (hvm : u.vm.Alike U.vm) (h : va_Nw (.declares x) u) : va_Nw (.declares x) U := va_tabs rfl (rfl : (u.setVm U.vm).vm = U.vm) (by rw [Cond.declares_setVm hvm]; exact h)
theorem gw_nC {C T : String} {u U : State} (hvm : u.vm.Alike U.vm) (h : va_Nw (.castable C T) u) : va_Nw (.castable C T) U := va_tabs rfl (rfl : (u.setVm U.vm).vm = U.vm) (by rw [Cond.castable_setVm hvm]; exact h)
theorem gw_N.moved {u U : State} (hvm : u.vm.Alike U.vm) (h : gw_N u) : gw_N U := by
  obtain ⟨⟨a1, a2, a3⟩, ⟨b1, b2⟩, ⟨c1, c2⟩, ⟨d1, d2⟩, e1⟩ := h
  exact ⟨⟨gw_nD hvm a1, gw_nD hvm a2, gw_nD hvm a3⟩, ⟨gw_nC hvm b1, gw_nC hvm b2⟩, ⟨gw_nC hvm c1, gw_nC hvm c2⟩, ⟨va_AO.moved hvm d1, va_AO.moved hvm d2⟩, va_Nc.moved hvm e1⟩
def gw_S (K : gw_C) (U : State) (H : Heap) : Prop :=
  (vx_Zq Bundle.tN "UNASSIGNED_STACK" Bundle.steD (gw_A K) U H ∧ vx_Zq Bundle.tN "SUPPRESSED_SENTINEL" Bundle.listD (gw_A K) U H) ∧
  (va_Z "java/util/ArrayList" "DEFAULTCAPACITY_EMPTY_ELEMENTDATA" "[Ljava/lang/Object;" (.ref K.2.2.2.1) (gw_A K) U H ∧ va_T (.object "java/lang/Object") K.2.2.2.1 0 (fun _ => .null) (gw_A K) U H) ∧
  (va_Mi "[Ljava/lang/Object;" K.2.2.2.2 U ∧ va_Dc U)
theorem gw_S.moved {K : gw_C} {u U : State} {H : Heap} (hvm : u.vm.Alike U.vm) (h : gw_S K u H) : gw_S K U H := by
  obtain ⟨⟨a1, a2⟩, ⟨b1, b2⟩, c1, c2⟩ := h
  exact ⟨⟨a1.moved hvm, a2.moved hvm⟩, ⟨b1.moved hvm, b2.moved hvm⟩, c1.moved hvm, c2.moved hvm⟩
theorem gw_S.kept {K : gw_C} {U : State} {H H1 : Heap} (h : gw_S K U H) (hq : ∀ a : Nat, a < H.size → ¬ gw_A K a → H1[a]? = H[a]?) : gw_S K U H1 := by
  obtain ⟨⟨a1, a2⟩, ⟨b1, b2⟩, c1, c2⟩ := h
  exact ⟨⟨a1.kept hq, a2.kept hq⟩, ⟨b1.kept hq, b2.kept hq⟩, c1, c2⟩
/-- what a body knows of the tables and statics, at its own start -/
def gw_T (K : gw_C) (s : State) : Prop := va_K K.1 vwCl (gw_tys K) s ∧ gw_S K s s.heap ∧ gw_N s
theorem gw_T.K {K : gw_C} {s : State} (h : gw_T K s) : va_K K.1 vwCl (gw_tys K) s := h.1
/-- THE WORLD AT A CONTRACT'S START AND END -/
def gw_I (K : gw_C) (M : gw_M) (U : State) : Prop := (∃ ws : va_W, gw_L M ws ∧ va_P K.1 vwCl ws U.heap ∧ va_D (gw_A K) ws) ∧ K.2.2.1 ≤ U.heap.size ∧ gw_T K U
theorem gw_I.B {K : gw_C} {M : gw_M} {s : State} (h : gw_I K M s) : gw_B K M s.heap s.heap [] := by
  obtain ⟨⟨ws, h1, h2, h3⟩, h4, -⟩ := h
  exact ⟨ws, h1, h2, h3, va_S.rf, h4⟩
theorem gw_T.moved {K : gw_C} {s t : State} {H : Heap} {locs : List Loc} (h : gw_T K s) (hS : va_S (gw_A K) s.heap H locs) (ht : t.heap = H) (hW : s.vm.Alike t.vm) : gw_T K t :=
  ⟨va_K.moved hW h.1, by rw [ht]; exact (h.2.1.moved hW).kept hS.2.1, h.2.2.moved hW⟩
theorem gw_B.I {K : gw_C} {M : gw_M} {s t : State} {H : Heap} {locs : List Loc} (h : gw_B K M s.heap H locs) (hT : gw_T K s) (ht : t.heap = H) (hW : s.vm.Alike t.vm) : gw_I K M t := by
  obtain ⟨ws, h1, h2, h3, h4, h5⟩ := h
  exact ⟨⟨ws, h1, by rw [ht]; exact h2, h3⟩, by rw [ht]; exact Nat.le_trans h5 h4.1, hT.moved h4 ht hW⟩
theorem gw_blind {K : gw_C} {M : gw_M} {av : List Value} : FrameBlind (va_Pc av (gw_I K M)) := by
  intro a U g mk q
  obtain ⟨q0, ⟨ws, q1, q2, q3⟩, q4, q5, q6, q7⟩ := q
  exact ⟨q0, ⟨ws, q1, q2, q3⟩, q4, va_K.moved (u := U) (U := U.calling g mk a) (Vm.Alike.refl U.vm) q5, gw_S.moved (u := U) (U := U.calling g mk a) (Vm.Alike.refl U.vm) q6, q7⟩
theorem gw_preS {K : gw_C} {M : gw_M} {s : State} {H : Heap} {locs : List Loc} (hG : gw_B K M s.heap H locs) (hT : gw_T K s) {As : List Value} : PreS s H (va_Pc As (gw_I K M)) As :=
  ⟨gw_blind, fun _ hU hW => ⟨rfl, hG.I hT hU hW.alike⟩⟩
theorem gw_preV {K : gw_C} {M : gw_M} {s : State} {H : Heap} {locs : List Loc} (hG : gw_B K M s.heap H locs) (hT : gw_T K s) {As : List Value} {b ci : Nat} {fs : List Value} {r : vw_C} (hM : M b = some (.inr (ci, fs))) (hc : vwCl[ci]? = some r) : PreV s H r.1 b (va_Pc (.ref b :: As) (gw_I K M)) As := by
  refine ⟨gw_blind, ?_, fun _ hU hW => ⟨rfl, hG.I hT hU hW.alike⟩⟩
  obtain ⟨ws, hL, hP, hD, hS, h0⟩ := hG
  obtain ⟨q0, hq⟩ := (hL _ _).mp hM
  exact va_recv hT.1 hP hc hq
section GwEnds
variable {p : Program} {l : Launch} {e : Env} {R : Room} {s : State} {m : MethodId} {args : Array Value} {below : List Frame} {meth : Method} {c : Code} {H : Heap} {locs : List Loc} {cells slots : Nat} {Q : State → Prop}
variable {cc : ByteArray} {pc : Nat} {ls : Array Slot} {rest st0 : List Value} {K : gw_C} {M : gw_M} {a : Array Value} {mc ms : Nat}
theorem gw_calli {post : Int32 → gw_M → Prop} (hr : va_Run p l e R s m args below meth c H locs cells slots mc ms (F0 m pc ls st0) rest (va_Qi post (gw_I K) (gw_A K) a) (gw_A K)) (hG : gw_B K M s.heap H locs)
    (kk : ∀ (r : Int32) (M1 : gw_M) (H1 : Heap) (locs1 : List Loc), post r M1 → gw_B K M1 s.heap H1 locs1 → W p l e R s m args below meth c H1 locs1 (cells + mc) (slots + ms) Q (F0 m (pc + 3) ls (.int r :: rest))) : W p l e R s m args below meth c H locs cells slots Q (F0 m pc ls st0) := by
  refine va_calli hr hG.S (fun q _ h => h) (fun q h => h) (fun r u t H1 locs1 ht hvm hw hB hz hk hS => ?_)
  obtain ⟨⟨ws, h1, h2, h3⟩, h4, -⟩ := hB
  rw [ht] at h2
  exact kk r u H1 locs1 hw ⟨ws, h1, h2, h3, hS, hG.b0⟩
theorem gw_callv {post : gw_M → Prop} (hr : va_Run p l e R s m args below meth c H locs cells slots mc ms (F0 m pc ls st0) rest (va_Qv post (gw_I K) (gw_A K) a) (gw_A K)) (hG : gw_B K M s.heap H locs)
    (kk : ∀ (M1 : gw_M) (H1 : Heap) (locs1 : List Loc), post M1 → gw_B K M1 s.heap H1 locs1 → W p l e R s m args below meth c H1 locs1 (cells + mc) (slots + ms) Q (F0 m (pc + 3) ls rest)) : W p l e R s m args below meth c H locs cells slots Q (F0 m pc ls st0) := by
  refine va_callv hr hG.S (fun q _ h => h) (fun q h => h) (fun u t H1 locs1 ht hvm hw hB hz hk hS => ?_)
  obtain ⟨⟨ws, h1, h2, h3⟩, h4, -⟩ := hB
  rw [ht] at h2
  exact kk u H1 locs1 hw ⟨ws, h1, h2, h3, hS, hG.b0⟩
/-- a callee that answers a reference (some) or null (none) -/
theorem gw_callq {post : Option Nat → gw_M → Prop} (hr : va_Run p l e R s m args below meth c H locs cells slots mc ms (F0 m pc ls st0) rest (va_Qq post (gw_I K) (gw_A K) a) (gw_A K)) (hG : gw_B K M s.heap H locs)
    (kk : ∀ (r : Option Nat) (M1 : gw_M) (H1 : Heap) (locs1 : List Loc), post r M1 → gw_B K M1 s.heap H1 locs1 → W p l e R s m args below meth c H1 locs1 (cells + mc) (slots + ms) Q (F0 m (pc + 3) ls (va_rf r :: rest))) : W p l e R s m args below meth c H locs cells slots Q (F0 m pc ls st0) := by
  refine va_callq hr hG.S (fun q _ h => h) (fun q h => h) (fun r u t H1 locs1 ht hvm hw hB hz hk hS => ?_)
  obtain ⟨⟨ws, h1, h2, h3⟩, h4, -⟩ := hB
  rw [ht] at h2
  exact kk r u H1 locs1 hw ⟨ws, h1, h2, h3, hS, hG.b0⟩
theorem gw_iret {v : Int32} {post : Int32 → gw_M → Prop} (hexec : p.tables.exec = Jvm.exec) (hb : c.code = cc) (hr : meth.sig.returnType = some .int) (hlocks : meth.locks = false) (hG : gw_B K M s.heap H locs) (hT : gw_T K s) (hc : cells ≤ mc) (hs : slots ≤ ms) (hdg : decode cc pc = .ok (.ireturn, 1)) (hp : post v M) :
    W p l e R s m args below meth c H locs cells slots (MQ below (va_Qi post (gw_I K) (gw_A K)) args s mc ms (gw_A K)) (F0 m pc ls [.int v]) := by
  refine W.widen (k := mc) (n := ms) hc hs ?_
  exact W.iret hexec hb hr (fun t ht hW => ⟨⟨v, M, rfl, hp, hG.I hT ht hW.alike⟩, hG.S.F ht⟩) hG.S.2.2 hdg hlocks
theorem gw_zret {v : Int32} {post : Int32 → gw_M → Prop} (hexec : p.tables.exec = Jvm.exec) (hb : c.code = cc) (hr : meth.sig.returnType = some .boolean) (hlocks : meth.locks = false) (hG : gw_B K M s.heap H locs) (hT : gw_T K s) (hc : cells ≤ mc) (hs : slots ≤ ms) (hdg : decode cc pc = .ok (.ireturn, 1)) (hv : v = 0 ∨ v = 1) (hp : post v M) :
    W p l e R s m args below meth c H locs cells slots (MQ below (va_Qi post (gw_I K) (gw_A K)) args s mc ms (gw_A K)) (F0 m pc ls [.int v]) := by
  refine W.widen (k := mc) (n := ms) hc hs ?_
  exact W.zret hexec hb hr (by rcases hv with rfl | rfl <;> rfl) (fun t ht hW => ⟨⟨v, M, rfl, hp, hG.I hT ht hW.alike⟩, hG.S.F ht⟩) hG.S.2.2 hdg hlocks
theorem gw_vret {post : gw_M → Prop} (hexec : p.tables.exec = Jvm.exec) (hb : c.code = cc) (hr : meth.sig.returnType = none) (hlocks : meth.locks = false) (hG : gw_B K M s.heap H locs) (hT : gw_T K s) (hc : cells ≤ mc) (hs : slots ≤ ms) (hdg : decode cc pc = .ok (.return_, 1)) (hp : post M) :
    W p l e R s m args below meth c H locs cells slots (MQ below (va_Qv post (gw_I K) (gw_A K)) args s mc ms (gw_A K)) (F0 m pc ls []) := by
  refine W.widen (k := mc) (n := ms) hc hs ?_
  exact W.vret hexec hb hr (fun t ht hW => ⟨⟨M, rfl, hp, hG.I hT ht hW.alike⟩, hG.S.F ht⟩) hG.S.2.2 hdg hlocks
theorem gw_aret {v : Option Nat} {rt : FieldType} {post : Option Nat → gw_M → Prop} (hexec : p.tables.exec = Jvm.exec) (hb : c.code = cc) (hr : meth.sig.returnType = some rt) (hrt : (∃ n, rt = .object n) ∨ ∃ t, rt = .array t) (hlocks : meth.locks = false) (hG : gw_B K M s.heap H locs) (hT : gw_T K s) (hc : cells ≤ mc) (hs : slots ≤ ms) (hdg : decode cc pc = .ok (.areturn, 1)) (hp : post v M) :
    W p l e R s m args below meth c H locs cells slots (MQ below (va_Qq post (gw_I K) (gw_A K)) args s mc ms (gw_A K)) (F0 m pc ls [va_rf v]) := by
  refine W.widen (k := mc) (n := ms) hc hs ?_
  exact W.aret hexec hb hr hrt (va_rf_or v) (fun t ht hW => ⟨⟨v, M, rfl, hp, hG.I hT ht hW.alike⟩, hG.S.F ht⟩) hG.S.2.2 hdg hlocks
end GwEnds
/-- .. where the heap has grown behind it -/
theorem gw_B.Iext {K : gw_C} {M : gw_M} {s t : State} {H : Heap} {locs : List Loc} (h : gw_B K M s.heap H locs) (hT : gw_T K s) (hz : H.size ≤ t.heap.size) (hq : ∀ q : Nat, q < H.size → t.heap[q]? = H[q]?) (hW : s.vm.Alike t.vm) : gw_I K M t ∧ va_F (gw_A K) s t := by
  obtain ⟨ws, h1, h2, h3, h4, h5⟩ := h
  have hS : va_S (gw_A K) s.heap t.heap locs := ⟨Nat.le_trans h4.1 hz, fun q g1 g2 => (hq q (Nat.lt_of_lt_of_le g1 h4.1)).trans (h4.2.1 q g1 g2), h4.2.2⟩
  exact ⟨⟨⟨ws, h1, h2.kept (fun k x hx => hq x.1 ((h2 k x hx).lt)), h3⟩, Nat.le_trans h5 hS.1, hT.moved hS rfl hW⟩, hS.F rfl⟩
/-! METHODS THAT MAY THROW: px E M: what holds where E was thrown -/
def gw_X (K : gw_C) (px : String → gw_M → Prop) : String → State → State → Prop := vx_X (S := gw_M) (fun _ => True) (fun E M t => px E M ∧ gw_I K M t) (gw_A K)
section GwThrows
variable {p : Program} {l : Launch} {e : Env} {R : Room} {s : State} {m : MethodId} {args : Array Value} {below : List Frame} {meth : Method} {c : Code} {H : Heap} {locs : List Loc} {cells slots : Nat} {Q : State → Prop}
variable {cc : ByteArray} {pc : Nat} {ls : Array Slot} {rest st0 : List Value} {K : gw_C} {M : gw_M} {a : Array Value} {mc ms nc ns : Nat} {px py : String → gw_M → Prop} {Qc : Array Value → State → Outcome → State → Prop}
theorem gw_none (h : c.exceptionTable.isEmpty = true) : ∀ x ∈ c.exceptionTable.toList, covers x pc = false := by
  intro x hx
  have h0 : c.exceptionTable = #[] := by simpa using h
  rw [h0] at hx
  cases hx
/-- it isn't caught here -/
theorem gw_out (hemp : c.exceptionTable.isEmpty = true) (hlocks : meth.locks = false) {E : String} {ce : Cell} {q : Addr} (hG : gw_B K M s.heap H locs) (hT : gw_T K s) (hcell : H[q]? = some ce) (hv : ce.vm = .none) (hcl : s.vm.findClass E = some ce.cls) (hx : py E M) (hc : cells ≤ mc) (hs : slots ≤ ms) :
    vx_W p l e R s m args below meth c H locs cells slots (vx_MQ below Qc (gw_X K py) args s mc ms (gw_A K)) (F0 m pc ls rest) q :=
  vx_out (gw_none hemp) hlocks hcell hv hcl (fun t ht hvm => ⟨M, trivial, ⟨hx, hG.I hT ht hvm⟩, hG.S.F ht⟩) hG.S.2.2 hc hs
theorem gw_xcalli {post : Int32 → gw_M → Prop} (hr : vx_Run p l e R s m args below meth c H locs cells slots nc ns (F0 m pc ls st0) rest (va_Qi post (gw_I K) (gw_A K) a) (gw_X K px) (gw_A K)) (hG : gw_B K M s.heap H locs)
    (kx : ∀ (E : String) (ce : Cell) (q : Addr) (M1 : gw_M) (H1 : Heap) (locs1 : List Loc), px E M1 → gw_B K M1 s.heap H1 locs1 → H1[q]? = some ce → ce.vm = .none → s.vm.findClass E = some ce.cls → vx_W p l e R s m args below meth c H1 locs1 (cells + nc) (slots + ns) Q (F0 m pc ls rest) q)
    (kk : ∀ (r : Int32) (M1 : gw_M) (H1 : Heap) (locs1 : List Loc), post r M1 → gw_B K M1 s.heap H1 locs1 → W p l e R s m args below meth c H1 locs1 (cells + nc) (slots + ns) Q (F0 m (pc + 3) ls (.int r :: rest))) : W p l e R s m args below meth c H locs cells slots Q (F0 m pc ls st0) := by
  refine vx_calli hr hG.S (fun q _ h => h) (fun q h => h) (fun q _ h => h) (fun E ce q u t H1 locs1 ht hvm _ hB hz hk hS h1 h2 h3 => ?_) (fun r u t H1 locs1 ht hvm hw hB hz hk hS => ?_)
  · obtain ⟨hp, ⟨ws, g1, g2, g3⟩, g4, -⟩ := hB
    rw [ht] at g2
    exact kx E ce q u H1 locs1 hp ⟨ws, g1, g2, g3, hS, hG.b0⟩ h1 h2 h3
  · obtain ⟨⟨ws, g1, g2, g3⟩, g4, -⟩ := hB
    rw [ht] at g2
    exact kk r u H1 locs1 hw ⟨ws, g1, g2, g3, hS, hG.b0⟩
theorem gw_xcallv {post : gw_M → Prop} (hr : vx_Run p l e R s m args below meth c H locs cells slots nc ns (F0 m pc ls st0) rest (va_Qv post (gw_I K) (gw_A K) a) (gw_X K px) (gw_A K)) (hG : gw_B K M s.heap H locs)
    (kx : ∀ (E : String) (ce : Cell) (q : Addr) (M1 : gw_M) (H1 : Heap) (locs1 : List Loc), px E M1 → gw_B K M1 s.heap H1 locs1 → H1[q]? = some ce → ce.vm = .none → s.vm.findClass E = some ce.cls → vx_W p l e R s m args below meth c H1 locs1 (cells + nc) (slots + ns) Q (F0 m pc ls rest) q)
    (kk : ∀ (M1 : gw_M) (H1 : Heap) (locs1 : List Loc), post M1 → gw_B K M1 s.heap H1 locs1 → W p l e R s m args below meth c H1 locs1 (cells + nc) (slots + ns) Q (F0 m (pc + 3) ls rest)) : W p l e R s m args below meth c H locs cells slots Q (F0 m pc ls st0) := by
  refine vx_callv hr hG.S (fun q _ h => h) (fun q h => h) (fun q _ h => h) (fun E ce q u t H1 locs1 ht hvm _ hB hz hk hS h1 h2 h3 => ?_) (fun u t H1 locs1 ht hvm hw hB hz hk hS => ?_)
  · obtain ⟨hp, ⟨ws, g1, g2, g3⟩, g4, -⟩ := hB
    rw [ht] at g2
    exact kx E ce q u H1 locs1 hp ⟨ws, g1, g2, g3, hS, hG.b0⟩ h1 h2 h3
  · obtain ⟨⟨ws, g1, g2, g3⟩, g4, -⟩ := hB
    rw [ht] at g2
    exact kk u H1 locs1 hw ⟨ws, g1, g2, g3, hS, hG.b0⟩
theorem gw_throw0 (hexec : p.tables.exec = Jvm.exec) (hb : c.code = cc) (hl : l.stackTraces = false) {own cls : String} {ik ic : Nat} (hown : s.vm.findClass own = some m.cls) (hcls : Bundle.fit cls = true) (hk : (Cond.classLink own ik cls).before args s = true) (hini : (Cond.initialized cls).before args s = true)
    (hat : ∀ w ∈ (vx_at0 own ic cls ["java/lang/RuntimeException", "java/lang/Exception"]).filter goodWord, w.before args s = true) (hcast : va_Nw (.castable cls cls) s) (hT : gw_T K s) (hG : gw_B K M s.heap H locs) (hsize : ls.size = c.maxLocals)
    (hbad : ∀ w ∈ (vx_at0 own ic cls ["java/lang/RuntimeException", "java/lang/Exception"]).filter (fun w => !goodWord w), w ∈ [gw_dec "java/lang/RuntimeException", gw_dec "java/lang/Exception", gw_dec "java/lang/Throwable", .castable cls cls])
    (hgood : ∀ w ∈ Cond.classLink own ik cls :: Cond.initialized cls :: vx_at0 own ic cls ["java/lang/RuntimeException", "java/lang/Exception"], vx_ot w = true)
    (d0 : decode cc pc = .ok (.new ik, 3)) (d3 : decode cc (pc + 3) = .ok (.dup, 1)) (d4 : decode cc (pc + 4) = .ok (.invokespecial ic, 3)) (d7 : decode cc (pc + 7) = .ok (.athrow, 1)) (hemp : c.exceptionTable.isEmpty = true)
    (hRframes : 5 < R.frames) (hRlocals : (rest.map fun v => v.category).sum + 81 ≤ R.locals) (hRcells : cells + 1 ≤ R.cells) (hRslots : slots + 6 ≤ R.slots) (hlocks : meth.locks = false) (hc : cells + 1 ≤ mc) (hs : slots + 6 ≤ ms) (hx : py cls M) :
    W p l e R s m args below meth c H locs cells slots (vx_MQ below Qc (gw_X K py) args s mc ms (gw_A K)) (F0 m pc ls rest) := by
  obtain ⟨⟨n1, n2, n3⟩, -⟩ := hT.2.2
  refine vx_throw0 (A := gw_A K) (names := ["java/lang/RuntimeException", "java/lang/Exception"]) hexec hb hl hown hcls (by decide +kernel) hk hini (vx_hat hat hbad (vx_c (va_Nw.use rfl n1) (vx_c (va_Nw.use rfl n2) (vx_c (va_Nw.use rfl n3) (vx_c (va_Nw.use rfl hcast) vx_n))))) hgood hT.2.1.1.1 hT.2.1.1.2 hG.S hsize d0 d3 d4 d7 (gw_none hemp) hRframes hRlocals hRcells hRslots hlocks (fun t hvm hz hq => ?_) hG.S.2.2 hc hs
  obtain ⟨g1, g2⟩ := hG.Iext hT hz hq hvm
  exact ⟨M, trivial, ⟨hx, g1⟩, g2⟩
end GwThrows
