/-! WORLDS AS FUNCTIONS. M a = some e: the cell e lies at the address a. A list of the kit's own kind stands behind it (gw_L), so every row of the kit lifts. One fixed set of addresses for all methods: those from b0 on (b0: the heap's size at the law's entry). -/
abbrev gw_M : Type := Nat → Option va_E
/-- the classes' numbers and slots; the array classes' numbers; b0; where ArrayList's empty array lies; where the class object of Object[] lies -/
abbrev gw_C : Type := va_G × (Nat → ClassId) × Nat × Nat × Nat
abbrev gw_A (K : gw_C) : Nat → Prop := fun q => K.2.2.1 ≤ q
def gw_up (M : gw_M) (a : Nat) (e : va_E) : gw_M := fun q => if q = a then some e else M q
theorem gw_s {M : gw_M} {a : Nat} {e : va_E} : gw_up M a e a = some e := if_pos rfl
theorem gw_n {M : gw_M} {a q : Nat} {e : va_E} (h : q ≠ a) : gw_up M a e q = M q := if_neg h
theorem gw_k {M : gw_M} {a q : Nat} {e f : va_E} (h : q ≠ a) (hq : M q = some f) : gw_up M a e q = some f := (gw_n h).trans hq
/-- a cell that is there, beside a new one -/
theorem gw_o {M : gw_M} {a q : Nat} {e f : va_E} (h : M a = none) (hq : M q = some f) : gw_up M a e q = some f := gw_k (fun z => by rw [z, h] at hq; cases hq) hq
theorem gw_ne {M : gw_M} {a q : Nat} {f : va_E} (h : M a = none) (hq : M q = some f) : q ≠ a := fun z => by rw [z, h] at hq; cases hq
theorem gw_uu {M : gw_M} {a : Nat} {e f : va_E} : gw_up (gw_up M a e) a f = gw_up M a f := by
  funext q
  unfold gw_up
  split <;> rfl
theorem gw_same {M : gw_M} {a : Nat} {e : va_E} (h : M a = some e) : gw_up M a e = M := by
  funext q
  unfold gw_up
  split
  · next z => rw [z, h]
  · rfl
def gw_L (M : gw_M) (ws : va_W) : Prop := ∀ (a : Nat) (e : va_E), M a = some e ↔ ∃ k : Nat, ws[k]? = some (a, e)
theorem gw_L.set {M : gw_M} {ws : va_W} {A : Nat → Prop} {a k : Nat} {e0 e : va_E} (h : gw_L M ws) (hD : va_D A ws) (hk : ws[k]? = some (a, e0)) : gw_L (gw_up M a e) (ws.set k (a, e)) := by
  intro b f
  have hlt : k < ws.length := (List.getElem?_eq_some_iff.mp hk).1
  by_cases hb : b = a
  · subst hb
    rw [gw_s]
    constructor
    · intro q
      cases q
      exact ⟨k, by rw [List.getElem?_set_self hlt]⟩
    · rintro ⟨j, hj⟩
      by_cases hjk : k = j
      · subst hjk
        rw [List.getElem?_set_self hlt] at hj
        cases hj
        rfl
      · rw [List.getElem?_set_ne hjk] at hj
        exact absurd (hD.1 k j _ _ hk hj rfl) hjk
  · rw [gw_n hb, h b f]
    constructor
    · rintro ⟨j, hj⟩
      have hjk : k ≠ j := fun q => hb (by subst q; rw [hk] at hj; cases hj; rfl)
      exact ⟨j, by rw [List.getElem?_set_ne hjk]; exact hj⟩
    · rintro ⟨j, hj⟩
      have hjk : k ≠ j := fun q => hb (by subst q; rw [List.getElem?_set_self hlt] at hj; cases hj; rfl)
      rw [List.getElem?_set_ne hjk] at hj
      exact ⟨j, hj⟩
theorem gw_L.push {M : gw_M} {ws : va_W} {A : Nat → Prop} {a : Nat} {e : va_E} (h : gw_L M ws) (hD : va_D A (ws ++ [(a, e)])) : M a = none ∧ gw_L (gw_up M a e) (ws ++ [(a, e)]) := by
  have hl : (ws ++ [(a, e)])[ws.length]? = some (a, e) := by simp
  have hno : ∀ (k : Nat) (f : va_E), ws[k]? ≠ some (a, f) := by
    intro k f hk
    have hlt : k < ws.length := (List.getElem?_eq_some_iff.mp hk).1
    have h1 : (ws ++ [(a, e)])[k]? = some (a, f) := by rw [List.getElem?_append_left hlt]; exact hk
    have h2 := hD.1 k ws.length _ _ h1 hl rfl
    omega
  have hn : M a = none := by
    cases hm : M a with
    | none => rfl
    | some f =>
      obtain ⟨k, hk⟩ := (h a f).mp hm
      exact absurd hk (hno k f)
  refine ⟨hn, fun b f => ?_⟩
  by_cases hb : b = a
  · subst hb
    rw [gw_s]
    constructor
    · intro q
      cases q
      exact ⟨_, hl⟩
    · rintro ⟨j, hj⟩
      have hjl : j < (ws ++ [(b, e)]).length := (List.getElem?_eq_some_iff.mp hj).1
      have := hD.1 j ws.length _ _ hj hl rfl
      subst this
      rw [hl] at hj
      cases hj
      rfl
  · rw [gw_n hb, h b f]
    constructor
    · rintro ⟨j, hj⟩
      have hlt : j < ws.length := (List.getElem?_eq_some_iff.mp hj).1
      exact ⟨j, by rw [List.getElem?_append_left hlt]; exact hj⟩
    · rintro ⟨j, hj⟩
      by_cases hlt : j < ws.length
      · rw [List.getElem?_append_left hlt] at hj
        exact ⟨j, hj⟩
      · rw [List.getElem?_append_right (by omega)] at hj
        have hz : j - ws.length < 1 := (List.getElem?_eq_some_iff.mp hj).1
        rw [show j - ws.length = 0 by omega] at hj
        cases hj
        exact absurd rfl hb
/-- what a body knows of its heap: the world M, nothing below b0 changed since H0 -/
def gw_B (K : gw_C) (M : gw_M) (H0 H : Heap) (locs : List Loc) : Prop := ∃ ws : va_W, gw_L M ws ∧ va_P K.1 vwCl ws H ∧ va_D (gw_A K) ws ∧ va_S (gw_A K) H0 H locs ∧ K.2.2.1 ≤ H0.size
theorem gw_B.S {K : gw_C} {M : gw_M} {H0 H : Heap} {locs : List Loc} (h : gw_B K M H0 H locs) : va_S (gw_A K) H0 H locs := by
  obtain ⟨_, -, -, -, h, -⟩ := h
  exact h
theorem gw_B.b0 {K : gw_C} {M : gw_M} {H0 H : Heap} {locs : List Loc} (h : gw_B K M H0 H locs) : K.2.2.1 ≤ H0.size := by
  obtain ⟨_, -, -, -, -, h⟩ := h
  exact h
theorem gw_B.put {K : gw_C} {M : gw_M} {ws : va_W} {H0 H1 : Heap} {locs1 : List Loc} {a k : Nat} {e0 e : va_E} (hL : gw_L M ws) (hD0 : va_D (gw_A K) ws) (hk : ws[k]? = some (a, e0)) (h0 : K.2.2.1 ≤ H0.size) (hP : va_P K.1 vwCl (ws.set k (a, e)) H1) (hD : va_D (gw_A K) (ws.set k (a, e))) (hS : va_S (gw_A K) H0 H1 locs1) : gw_B K (gw_up M a e) H0 H1 locs1 :=
  ⟨_, hL.set hD0 hk, hP, hD, hS, h0⟩
section GwRows
variable {p : Program} {l : Launch} {e : Env} {R : Room} {s : State} {m : MethodId} {args : Array Value} {below : List Frame} {meth : Method} {c : Code} {H : Heap} {locs : List Loc} {cells slots : Nat} {Q : State → Prop}
variable {cc : ByteArray} {pc : Nat} {ls : Array Slot} {rest : List Value} {K : gw_C} {M : gw_M} {a : Nat} {tys : List (ClassId × FieldType)} {H0 : Heap}
theorem gw_get (hexec : p.tables.exec = Jvm.exec) (hb : c.code = cc) {own ref C : String} {T : u_T} {N ci index : Nat} {Ts : List Cond} (hts : ∀ w ∈ Ts, w.before args s = true) (hin : ∀ w ∈ u_ws C T N, w ∈ Ts) (hown : s.vm.findClass own = some m.cls) (hK : va_K K.1 vwCl tys s) (hG : gw_B K M H0 H locs) {fs : List Value} (hM : M a = some (.inr (ci, fs))) (hc : vwCl[ci]? = some (C, T, N)) (k : Nat) (hk : k < N) (hlink : (Cond.fieldLink own index ref (T k).2.1 (T k).2.2.1).before args s = true) (hsame : ∀ x, s.fieldFound? (T k).1 (T k).2.1 (T k).2.2.1 = some x → s.fieldFound? ref (T k).2.1 (T k).2.2.1 = some x) {v : Value} (hv : fs[k]? = some v) (hdg : decode cc pc = .ok (.getfield index, 3))
    (kk : W p l e R s m args below meth c H locs cells slots Q (F0 m (pc + 3) ls (v :: rest))) : W p l e R s m args below meth c H locs cells slots Q (F0 m pc ls (.ref a :: rest)) := by
  obtain ⟨ws, hL, hP, hD, hS, h0⟩ := hG
  obtain ⟨q0, hq⟩ := (hL _ _).mp hM
  exact va_get hexec hb hts hin hown hK hP q0 hq hc k hk hlink hsame hv hdg kk
theorem gw_getN (hexec : p.tables.exec = Jvm.exec) (hb : c.code = cc) {own ref C host : String} {T : u_T} {N ci index : Nat} {Ts : List Cond} (hts : ∀ w ∈ Ts, w.before args s = true) (hin : ∀ w ∈ u_ws C T N, w ∈ Ts) (hown : s.vm.findClass own = some m.cls) (hK : va_K K.1 vwCl tys s) (hG : gw_B K M H0 H locs) {fs : List Value} (hM : M a = some (.inr (ci, fs))) (hc : vwCl[ci]? = some (C, T, N)) (k : Nat) (hk : k < N) (hlink : (Cond.fieldLinkNest own index ref (T k).2.1 (T k).2.2.1 host).before args s = true) (hsame : ∀ x, s.fieldFound? (T k).1 (T k).2.1 (T k).2.2.1 = some x → s.fieldFound? ref (T k).2.1 (T k).2.2.1 = some x) {v : Value} (hv : fs[k]? = some v) (hdg : decode cc pc = .ok (.getfield index, 3))
    (kk : W p l e R s m args below meth c H locs cells slots Q (F0 m (pc + 3) ls (v :: rest))) : W p l e R s m args below meth c H locs cells slots Q (F0 m pc ls (.ref a :: rest)) := by
  obtain ⟨ws, hL, hP, hD, hS, h0⟩ := hG
  obtain ⟨q0, hq⟩ := (hL _ _).mp hM
  exact va_getN hexec hb hts hin hown hK hP q0 hq hc k hk hlink hsame hv hdg kk
theorem gw_put (hexec : p.tables.exec = Jvm.exec) (hb : c.code = cc) {own ref C : String} {T : u_T} {N ci index : Nat} {Ts : List Cond} (hts : ∀ w ∈ Ts, w.before args s = true) (hin : ∀ w ∈ u_ws C T N, w ∈ Ts) (ty0 : Nat → FieldType) (hty : ∀ k, k < N → parseFieldDescriptor (T k).2.2.1 = some (ty0 k)) (hnm : ∀ a, a < N → ∀ b, b < N → a ≠ b → (T a).2.1 ≠ (T b).2.1) (hown : s.vm.findClass own = some m.cls) (hK : va_K K.1 vwCl tys s) (hG : gw_B K M H0 H locs) {fs : List Value} (hM : M a = some (.inr (ci, fs))) (hc : vwCl[ci]? = some (C, T, N)) (k : Nat) (hk : k < N) (hlink : (Cond.fieldLink own index ref (T k).2.1 (T k).2.2.1).before args s = true) (hsame : ∀ x, s.fieldFound? (T k).1 (T k).2.1 (T k).2.2.1 = some x → s.fieldFound? ref (T k).2.1 (T k).2.2.1 = some x) (hfin : (T k).2.2.2 = false) {ty : FieldType} {v : Value} (hd : parseFieldDescriptor (T k).2.2.1 = some ty) (hn : narrow ty v = v) (hfit : fits ty v = true) (hl : k < fs.length)
    (hdg : decode cc pc = .ok (.putfield index, 3)) (kk : ∀ (H1 : Heap) (locs1 : List Loc), gw_B K (gw_up M a (.inr (ci, fs.set k v))) H0 H1 locs1 → W p l e R s m args below meth c H1 locs1 cells slots Q (F0 m (pc + 3) ls rest)) : W p l e R s m args below meth c H locs cells slots Q (F0 m pc ls (v :: .ref a :: rest)) := by
  obtain ⟨ws, hL, hP, hD, hS, h0⟩ := hG
  obtain ⟨q0, hq⟩ := (hL _ _).mp hM
  exact va_put hexec hb hts hin ty0 hty hnm hown hK hP hD hS q0 hq hc k hk hlink hsame hfin hd hn hfit hl hdg (fun H1 locs1 hP1 hD1 hS1 => kk H1 locs1 (gw_B.put hL hD hq h0 hP1 hD1 hS1))
theorem gw_putF (hexec : p.tables.exec = Jvm.exec) (hb : c.code = cc) {own ref C : String} {T : u_T} {N ci index : Nat} {Ts : List Cond} (hts : ∀ w ∈ Ts, w.before args s = true) (hin : ∀ w ∈ u_ws C T N, w ∈ Ts) (ty0 : Nat → FieldType) (hty : ∀ k, k < N → parseFieldDescriptor (T k).2.2.1 = some (ty0 k)) (hnm : ∀ a, a < N → ∀ b, b < N → a ≠ b → (T a).2.1 ≠ (T b).2.1) (hown : s.vm.findClass own = some m.cls) (hK : va_K K.1 vwCl tys s) (hG : gw_B K M H0 H locs) {fs : List Value} (hM : M a = some (.inr (ci, fs))) (hc : vwCl[ci]? = some (C, T, N)) (k : Nat) (hk : k < N) (hlink : (Cond.fieldLink own index ref (T k).2.1 (T k).2.2.1).before args s = true) (hsame : ∀ x, s.fieldFound? (T k).1 (T k).2.1 (T k).2.2.1 = some x → s.fieldFound? ref (T k).2.1 (T k).2.2.1 = some x) (hfin : (T k).2.2.2 = true) (hin2 : meth.name = "<init>") (hdecl : (T k).1 = own) {ty : FieldType} {v : Value} (hd : parseFieldDescriptor (T k).2.2.1 = some ty) (hn : narrow ty v = v) (hfit : fits ty v = true) (hl : k < fs.length)
    (hdg : decode cc pc = .ok (.putfield index, 3)) (kk : ∀ (H1 : Heap) (locs1 : List Loc), gw_B K (gw_up M a (.inr (ci, fs.set k v))) H0 H1 locs1 → W p l e R s m args below meth c H1 locs1 cells slots Q (F0 m (pc + 3) ls rest)) : W p l e R s m args below meth c H locs cells slots Q (F0 m pc ls (v :: .ref a :: rest)) := by
  obtain ⟨ws, hL, hP, hD, hS, h0⟩ := hG
  obtain ⟨q0, hq⟩ := (hL _ _).mp hM
  exact va_putF hexec hb hts hin ty0 hty hnm hown hK hP hD hS q0 hq hc k hk hlink hsame hfin hin2 hdecl hd hn hfit hl hdg (fun H1 locs1 hP1 hD1 hS1 => kk H1 locs1 (gw_B.put hL hD hq h0 hP1 hD1 hS1))
theorem gw_iald (hexec : p.tables.exec = Jvm.exec) (hb : c.code = cc) (hK : va_K K.1 vwCl tys s) (hG : gw_B K M H0 H locs) {cA : ClassId} {n : Nat} {f : Nat → Int32} (hM : M a = some (.inl (cA, n, .inl f))) (t0 : Nat) (ht : tys[t0]? = some (cA, .int)) {i : Int32} (hin : vp_in i n) (hdg : decode cc pc = .ok (.iaload, 1))
    (kk : W p l e R s m args below meth c H locs cells slots Q (F0 m (pc + 1) ls (.int (f i.toNatClampNeg) :: rest))) : W p l e R s m args below meth c H locs cells slots Q (F0 m pc ls (.int i :: .ref a :: rest)) := by
  obtain ⟨ws, hL, hP, hD, hS, h0⟩ := hG
  obtain ⟨q0, hq⟩ := (hL _ _).mp hM
  exact va_iald hexec hb hK hP q0 t0 hq ht hin hdg kk
theorem gw_lald (hexec : p.tables.exec = Jvm.exec) (hb : c.code = cc) (hK : va_K K.1 vwCl tys s) (hG : gw_B K M H0 H locs) {cA : ClassId} {n : Nat} {f : Nat → Int64} (hM : M a = some (.inl (cA, n, .inr (.inl f)))) (t0 : Nat) (ht : tys[t0]? = some (cA, .long)) {i : Int32} (hin : vp_in i n) (hdg : decode cc pc = .ok (.laload, 1))
    (kk : W p l e R s m args below meth c H locs cells slots Q (F0 m (pc + 1) ls (.long (f i.toNatClampNeg) :: rest))) : W p l e R s m args below meth c H locs cells slots Q (F0 m pc ls (.int i :: .ref a :: rest)) := by
  obtain ⟨ws, hL, hP, hD, hS, h0⟩ := hG
  obtain ⟨q0, hq⟩ := (hL _ _).mp hM
  exact va_lald hexec hb hK hP q0 t0 hq ht hin hdg kk
theorem gw_aldq (hexec : p.tables.exec = Jvm.exec) (hb : c.code = cc) (hK : va_K K.1 vwCl tys s) (hG : gw_B K M H0 H locs) {cA : ClassId} {C : String} {n : Nat} {f : Nat → Option Nat} (hM : M a = some (.inl (cA, n, .inr (.inr (.inr (.inr f)))))) (t0 : Nat) (ht : tys[t0]? = some (cA, .object C)) {i : Int32} (hin : vp_in i n) (hdg : decode cc pc = .ok (.aaload, 1))
    (kk : W p l e R s m args below meth c H locs cells slots Q (F0 m (pc + 1) ls (va_rf (f i.toNatClampNeg) :: rest))) : W p l e R s m args below meth c H locs cells slots Q (F0 m pc ls (.int i :: .ref a :: rest)) := by
  obtain ⟨ws, hL, hP, hD, hS, h0⟩ := hG
  obtain ⟨q0, hq⟩ := (hL _ _).mp hM
  exact va_aldq hexec hb hK hP q0 t0 hq ht hin hdg kk
theorem gw_iast (hexec : p.tables.exec = Jvm.exec) (hb : c.code = cc) (hK : va_K K.1 vwCl tys s) (hG : gw_B K M H0 H locs) {cA : ClassId} {n : Nat} {f : Nat → Int32} (hM : M a = some (.inl (cA, n, .inl f))) (t0 : Nat) (ht : tys[t0]? = some (cA, .int)) {i x : Int32} (hin : vp_in i n) (hdg : decode cc pc = .ok (.iastore, 1))
    (kk : ∀ (H1 : Heap) (locs1 : List Loc), gw_B K (gw_up M a (.inl (cA, n, .inl (upd f i.toNatClampNeg x)))) H0 H1 locs1 → W p l e R s m args below meth c H1 locs1 cells slots Q (F0 m (pc + 1) ls rest)) : W p l e R s m args below meth c H locs cells slots Q (F0 m pc ls (.int x :: .int i :: .ref a :: rest)) := by
  obtain ⟨ws, hL, hP, hD, hS, h0⟩ := hG
  obtain ⟨q0, hq⟩ := (hL _ _).mp hM
  exact va_iast hexec hb hK hP hD hS q0 t0 hq ht hin hdg (fun H1 locs1 hP1 hD1 hS1 => kk H1 locs1 (gw_B.put hL hD hq h0 hP1 hD1 hS1))
theorem gw_last (hexec : p.tables.exec = Jvm.exec) (hb : c.code = cc) (hK : va_K K.1 vwCl tys s) (hG : gw_B K M H0 H locs) {cA : ClassId} {n : Nat} {f : Nat → Int64} (hM : M a = some (.inl (cA, n, .inr (.inl f)))) (t0 : Nat) (ht : tys[t0]? = some (cA, .long)) {i : Int32} {x : Int64} (hin : vp_in i n) (hdg : decode cc pc = .ok (.lastore, 1))
    (kk : ∀ (H1 : Heap) (locs1 : List Loc), gw_B K (gw_up M a (.inl (cA, n, .inr (.inl (vp_updL f i.toNatClampNeg x))))) H0 H1 locs1 → W p l e R s m args below meth c H1 locs1 cells slots Q (F0 m (pc + 1) ls rest)) : W p l e R s m args below meth c H locs cells slots Q (F0 m pc ls (.long x :: .int i :: .ref a :: rest)) := by
  obtain ⟨ws, hL, hP, hD, hS, h0⟩ := hG
  obtain ⟨q0, hq⟩ := (hL _ _).mp hM
  exact va_last hexec hb hK hP hD hS q0 t0 hq ht hin hdg (fun H1 locs1 hP1 hD1 hS1 => kk H1 locs1 (gw_B.put hL hD hq h0 hP1 hD1 hS1))
theorem gw_astq (hexec : p.tables.exec = Jvm.exec) (hb : c.code = cc) (hK : va_K K.1 vwCl tys s) (hG : gw_B K M H0 H locs) {cA : ClassId} {r : vw_C} {n v : Nat} {vs : List Value} {f : Nat → Option Nat} (hM : M a = some (.inl (cA, n, .inr (.inr (.inr (.inr f)))))) (t0 : Nat) (ht : tys[t0]? = some (cA, .object r.1)) (ci : Nat) (hv : M v = some (.inr (ci, vs))) (hc : vwCl[ci]? = some r) {i : Int32} (hin : vp_in i n) (hdg : decode cc pc = .ok (.aastore, 1))
    (kk : ∀ (H1 : Heap) (locs1 : List Loc), gw_B K (gw_up M a (.inl (cA, n, .inr (.inr (.inr (.inr (va_up f i.toNatClampNeg (some v)))))))) H0 H1 locs1 → W p l e R s m args below meth c H1 locs1 cells slots Q (F0 m (pc + 1) ls rest)) : W p l e R s m args below meth c H locs cells slots Q (F0 m pc ls (.ref v :: .int i :: .ref a :: rest)) := by
  obtain ⟨ws, hL, hP, hD, hS, h0⟩ := hG
  obtain ⟨q0, hq⟩ := (hL _ _).mp hM
  obtain ⟨qk, hqk⟩ := (hL _ _).mp hv
  exact va_astq hexec hb hK hP hD hS q0 t0 qk ci hq ht hqk hc hin hdg (fun H1 locs1 hP1 hD1 hS1 => kk H1 locs1 (gw_B.put hL hD hq h0 hP1 hD1 hS1))
theorem gw_astqO (hexec : p.tables.exec = Jvm.exec) (hb : c.code = cc) (hK : va_K K.1 vwCl tys s) (hG : gw_B K M H0 H locs) {E : String} {cA : ClassId} {r : vw_C} {n v : Nat} {vs : List Value} {f : Nat → Option Nat} (hM : M a = some (.inl (cA, n, .inr (.inr (.inr (.inr f)))))) (t0 : Nat) (ht : tys[t0]? = some (cA, .object E)) (hca : va_Nw (.castable r.1 E) s) (ci : Nat) (hv : M v = some (.inr (ci, vs))) (hc : vwCl[ci]? = some r) {i : Int32} (hin : vp_in i n) (hdg : decode cc pc = .ok (.aastore, 1))
    (kk : ∀ (H1 : Heap) (locs1 : List Loc), gw_B K (gw_up M a (.inl (cA, n, .inr (.inr (.inr (.inr (va_up f i.toNatClampNeg (some v)))))))) H0 H1 locs1 → W p l e R s m args below meth c H1 locs1 cells slots Q (F0 m (pc + 1) ls rest)) : W p l e R s m args below meth c H locs cells slots Q (F0 m pc ls (.ref v :: .int i :: .ref a :: rest)) := by
  obtain ⟨ws, hL, hP, hD, hS, h0⟩ := hG
  obtain ⟨q0, hq⟩ := (hL _ _).mp hM
  obtain ⟨qk, hqk⟩ := (hL _ _).mp hv
  exact va_astqO hexec hb hK hP hD hS q0 t0 qk ci hq ht hca hqk hc hin hdg (fun H1 locs1 hP1 hD1 hS1 => kk H1 locs1 (gw_B.put hL hD hq h0 hP1 hD1 hS1))
theorem gw_astqN (hexec : p.tables.exec = Jvm.exec) (hb : c.code = cc) (hK : va_K K.1 vwCl tys s) (hG : gw_B K M H0 H locs) {cA : ClassId} {C : String} {n : Nat} {f : Nat → Option Nat} (hM : M a = some (.inl (cA, n, .inr (.inr (.inr (.inr f)))))) (t0 : Nat) (ht : tys[t0]? = some (cA, .object C)) {i : Int32} (hin : vp_in i n) (hdg : decode cc pc = .ok (.aastore, 1))
    (kk : ∀ (H1 : Heap) (locs1 : List Loc), gw_B K (gw_up M a (.inl (cA, n, .inr (.inr (.inr (.inr (va_up f i.toNatClampNeg none))))))) H0 H1 locs1 → W p l e R s m args below meth c H1 locs1 cells slots Q (F0 m (pc + 1) ls rest)) : W p l e R s m args below meth c H locs cells slots Q (F0 m pc ls (.null :: .int i :: .ref a :: rest)) := by
  obtain ⟨ws, hL, hP, hD, hS, h0⟩ := hG
  obtain ⟨q0, hq⟩ := (hL _ _).mp hM
  exact va_astqN hexec hb hK hP hD hS q0 t0 hq ht hin hdg (fun H1 locs1 hP1 hD1 hS1 => kk H1 locs1 (gw_B.put hL hD hq h0 hP1 hD1 hS1))
theorem gw_alen (hexec : p.tables.exec = Jvm.exec) (hb : c.code = cc) (hK : va_K K.1 vwCl tys s) (hG : gw_B K M H0 H locs) {cA : ClassId} {x : vp_A} (hM : M a = some (.inl (cA, x))) (t0 : Nat) {ty : FieldType} (ht : tys[t0]? = some (cA, ty)) {v : Int32} (hv : Int32.ofNat x.1 = v) (hdg : decode cc pc = .ok (.arraylength, 1))
    (kk : W p l e R s m args below meth c H locs cells slots Q (F0 m (pc + 1) ls (.int v :: rest))) : W p l e R s m args below meth c H locs cells slots Q (F0 m pc ls (.ref a :: rest)) := by
  obtain ⟨ws, hL, hP, hD, hS, h0⟩ := hG
  obtain ⟨q0, hq⟩ := (hL _ _).mp hM
  exact va_alen hexec hb hK hP q0 t0 hq ht hv hdg kk
theorem gw_new (hexec : p.tables.exec = Jvm.exec) (hb : c.code = cc) {own C : String} {T : u_T} {N ci index : Nat} {Ts : List Cond} (hts : ∀ w ∈ Ts, w.before args s = true) (hin : ∀ w ∈ u_ws C T N, w ∈ Ts) (ty : Nat → FieldType) (hty : ∀ k, k < N → parseFieldDescriptor (T k).2.2.1 = some (ty k)) (hown : s.vm.findClass own = some m.cls) (hcl : (Cond.classLink own index C).before args s = true) (hinst : (Cond.instantiable C N).before args s = true) (hini : (Cond.initialized C).before args s = true)
    (hK : va_K K.1 vwCl tys s) (hG : gw_B K M H0 H locs) (hc : vwCl[ci]? = some (C, T, N)) {fs : List Value} (hfs : ∀ j, j < N → defaultValue (ty j) = vp_V fs j) (hcells : cells + 1 ≤ R.cells) (hslots : slots + N ≤ R.slots) (hdg : decode cc pc = .ok (.new index, 3))
    (kk : ∀ (q : Nat) (H1 : Heap), M q = none → gw_B K (gw_up M q (.inr (ci, fs))) H0 H1 locs → W p l e R s m args below meth c H1 locs (cells + 1) (slots + N) Q (F0 m (pc + 3) ls (.ref q :: rest))) : W p l e R s m args below meth c H locs cells slots Q (F0 m pc ls rest) := by
  obtain ⟨ws, hL, hP, hD, hS, h0⟩ := hG
  exact va_new hexec hb hts hin ty hty hown hcl hinst hini hK hP hD hS (fun q h => Nat.le_trans h0 h) hc hfs hcells hslots hdg (fun q H1 hP1 hD1 hS1 => kk q H1 (hL.push hD1).1 ⟨_, (hL.push hD1).2, hP1, hD1, hS1, h0⟩)
/-- an array class has one number -/
theorem gw_one {D : va_G} {cl : List vw_C} {cA cB : ClassId} {ty : FieldType} {t0 : Nat} {x : ClassId × FieldType} (hK : va_K D cl tys s) (hK2 : va_K D cl (tys ++ [x]) s) (hx : x = (cB, ty)) (ht : tys[t0]? = some (cA, ty)) : cB = cA := by
  subst hx
  have h1 := (hK.2 t0 _ ht).2
  have h2 := (hK2.2 tys.length (cB, ty) (by simp)).2
  cases ty with
  | object C =>
    obtain ⟨_, _, -, -, -, e1⟩ := h1
    obtain ⟨_, _, -, -, -, e2⟩ := h2
    exact Option.some.inj (e2.symm.trans e1)
  | _ => exact Option.some.inj (Eq.trans (Eq.symm h2) h1)
theorem gw_newa (hexec : p.tables.exec = Jvm.exec) (hb : c.code = cc) {atype : ArrayType} (harr : (Cond.arrayClass (newarray.typeOf atype)).before args s = true) {ty : FieldType} (hty : newarray.typeOf atype = ty) (hK : va_K K.1 vwCl tys s) (hG : gw_B K M H0 H locs) (t0 : Nat) {cA : ClassId} (ht : tys[t0]? = some (cA, ty))
    {n : Int32} {N' : Nat} {a0 : vp_A} (ha : ∀ cA : ClassId, vp_cell cA a0 = arrV cA N' (fun _ => defaultValue ty)) (hn : ¬ n < 0) (hN : n.toNatClampNeg = N') (hbytes : N' * componentBytes ty ≤ 536870912) (hcells : cells + 1 ≤ R.cells) (hslots : slots + N' ≤ R.slots) (hdg : decode cc pc = .ok (.newarray atype, 2))
    (kk : ∀ (q : Nat) (H1 : Heap), M q = none → gw_B K (gw_up M q (.inl (cA, a0))) H0 H1 locs →
      W p l e R s m args below meth c H1 locs (cells + 1) (slots + N') Q (F0 m (pc + 2) ls (.ref q :: rest))) : W p l e R s m args below meth c H locs cells slots Q (F0 m pc ls (.int n :: rest)) := by
  obtain ⟨ws, hL, hP, hD, hS, h0⟩ := hG
  refine va_newa hexec hb harr hty hK hP hD hS (fun q h => Nat.le_trans h0 h) ha hn hN hbytes hcells hslots hdg (fun q cB H1 hK2 hP1 hD1 hS1 => ?_)
  have hE := gw_one hK hK2 rfl ht
  subst hE
  exact kk q H1 (hL.push hD1).1 ⟨_, (hL.push hD1).2, hP1, hD1, hS1, h0⟩
theorem gw_newq (hexec : p.tables.exec = Jvm.exec) (hb : c.code = cc) {own C : String} {index : Nat} (hown : s.vm.findClass own = some m.cls) (hclink : (Cond.classLink own index C).before args s = true) (hover : va_AO C s) (hK : va_K K.1 vwCl tys s) (hG : gw_B K M H0 H locs) (t0 : Nat) {cA : ClassId} (ht : tys[t0]? = some (cA, .object C))
    {n : Int32} {N' : Nat} (hn : ¬ n < 0) (hN : n.toNatClampNeg = N') (hbytes : N' * 4 ≤ 536870912) (hcells : cells + 1 ≤ R.cells) (hslots : slots + N' ≤ R.slots) (hdg : decode cc pc = .ok (.anewarray index, 3))
    (kk : ∀ (q : Nat) (H1 : Heap), M q = none → gw_B K (gw_up M q (.inl (cA, N', .inr (.inr (.inr (.inr (fun _ => none))))))) H0 H1 locs →
      W p l e R s m args below meth c H1 locs (cells + 1) (slots + N') Q (F0 m (pc + 3) ls (.ref q :: rest))) : W p l e R s m args below meth c H locs cells slots Q (F0 m pc ls (.int n :: rest)) := by
  obtain ⟨ws, hL, hP, hD, hS, h0⟩ := hG
  refine va_newq hexec hb hown hclink hover hK hP hD hS (fun q h => Nat.le_trans h0 h) hn hN hbytes hcells hslots hdg (fun q cB H1 hK2 hP1 hD1 hS1 => ?_)
  have hE := gw_one hK hK2 rfl ht
  subst hE
  exact kk q H1 (hL.push hD1).1 ⟨_, (hL.push hD1).2, hP1, hD1, hS1, h0⟩
end GwRows
