section
-- ===== PART A: goes FIRST, ahead of the names: the tables' words, and 'selects' of the private methods out of them =====
/-- a private method of a class that the tables say can be made, by its rows of tables_1 -/
def lw_okq (q : MethodName × Nat) : Prop := (q.1.cls ≠ "java/lang/invoke/MethodHandle" ∧ q.1.cls ≠ "java/lang/invoke/VarHandle") ∧ Cond.instantiable q.1.cls q.2 ∈ tables_1 ∧ Cond.privateMethod q.1 ∈ tables_1 ∧ Cond.instanceMethod q.1 ∈ tables_1
theorem lw_p0 : lw_okq (⟨"java/lang/Throwable", "fillInStackTrace", "(I)Ljava/lang/Throwable;"⟩, 6) := ⟨⟨by decide +kernel, by decide +kernel⟩, List.mem_of_getElem? (i := 141) (by decide +kernel), List.mem_of_getElem? (i := 139) (by decide +kernel), List.mem_of_getElem? (i := 140) (by decide +kernel)⟩
theorem lw_p1 : lw_okq (⟨"DotGossip", "requireElement", "(III)V"⟩, 3) := ⟨⟨by decide +kernel, by decide +kernel⟩, List.mem_of_getElem? (i := 20) (by decide +kernel), List.mem_of_getElem? (i := 187) (by decide +kernel), List.mem_of_getElem? (i := 188) (by decide +kernel)⟩
theorem lw_p2 : lw_okq (⟨"DotGossip", "requireReplica", "(I)V"⟩, 3) := ⟨⟨by decide +kernel, by decide +kernel⟩, List.mem_of_getElem? (i := 20) (by decide +kernel), List.mem_of_getElem? (i := 191) (by decide +kernel), List.mem_of_getElem? (i := 192) (by decide +kernel)⟩
theorem lw_p3 : lw_okq (⟨"java/util/ArrayList", "add", "(Ljava/lang/Object;[Ljava/lang/Object;I)V"⟩, 3) := ⟨⟨by decide +kernel, by decide +kernel⟩, List.mem_of_getElem? (i := 57) (by decide +kernel), List.mem_of_getElem? (i := 304) (by decide +kernel), List.mem_of_getElem? (i := 305) (by decide +kernel)⟩
theorem lw_p4 : lw_okq (⟨"java/util/ArrayList", "grow", "()[Ljava/lang/Object;"⟩, 3) := ⟨⟨by decide +kernel, by decide +kernel⟩, List.mem_of_getElem? (i := 57) (by decide +kernel), List.mem_of_getElem? (i := 308) (by decide +kernel), List.mem_of_getElem? (i := 309) (by decide +kernel)⟩
theorem lw_p5 : lw_okq (⟨"java/util/ArrayList", "grow", "(I)[Ljava/lang/Object;"⟩, 3) := ⟨⟨by decide +kernel, by decide +kernel⟩, List.mem_of_getElem? (i := 57) (by decide +kernel), List.mem_of_getElem? (i := 312) (by decide +kernel), List.mem_of_getElem? (i := 313) (by decide +kernel)⟩
theorem lw_p6 : lw_okq (⟨"java/util/ArrayList", "fastRemove", "([Ljava/lang/Object;I)V"⟩, 3) := ⟨⟨by decide +kernel, by decide +kernel⟩, List.mem_of_getElem? (i := 57) (by decide +kernel), List.mem_of_getElem? (i := 369) (by decide +kernel), List.mem_of_getElem? (i := 370) (by decide +kernel)⟩
theorem lw_p7 : lw_okq (⟨"DotGossip$Holding", "mergeDot", "(LDotGossip$Holding;II)Z"⟩, 5) := ⟨⟨by decide +kernel, by decide +kernel⟩, List.mem_of_getElem? (i := 29) (by decide +kernel), List.mem_of_getElem? (i := 378) (by decide +kernel), List.mem_of_getElem? (i := 379) (by decide +kernel)⟩
theorem lw_p8 : lw_okq (⟨"DotGossipModel", "refuses", "(I)Z"⟩, 8) := ⟨⟨by decide +kernel, by decide +kernel⟩, List.mem_of_getElem? (i := 497) (by decide +kernel), List.mem_of_getElem? (i := 537) (by decide +kernel), List.mem_of_getElem? (i := 538) (by decide +kernel)⟩
theorem lw_p9 : lw_okq (⟨"DotGossipModel", "isElement", "(III)Z"⟩, 8) := ⟨⟨by decide +kernel, by decide +kernel⟩, List.mem_of_getElem? (i := 497) (by decide +kernel), List.mem_of_getElem? (i := 545) (by decide +kernel), List.mem_of_getElem? (i := 546) (by decide +kernel)⟩
theorem lw_p10 : lw_okq (⟨"DotGossipModel", "isReplica", "(I)Z"⟩, 8) := ⟨⟨by decide +kernel, by decide +kernel⟩, List.mem_of_getElem? (i := 497) (by decide +kernel), List.mem_of_getElem? (i := 549) (by decide +kernel), List.mem_of_getElem? (i := 550) (by decide +kernel)⟩
theorem lw_p11 : lw_okq (⟨"DotGossipModel", "news", "(II)I"⟩, 8) := ⟨⟨by decide +kernel, by decide +kernel⟩, List.mem_of_getElem? (i := 497) (by decide +kernel), List.mem_of_getElem? (i := 553) (by decide +kernel), List.mem_of_getElem? (i := 554) (by decide +kernel)⟩
theorem lw_p12 : lw_okq (⟨"DotGossipModel", "empties", "(II)V"⟩, 8) := ⟨⟨by decide +kernel, by decide +kernel⟩, List.mem_of_getElem? (i := 497) (by decide +kernel), List.mem_of_getElem? (i := 560) (by decide +kernel), List.mem_of_getElem? (i := 561) (by decide +kernel)⟩
theorem lw_p13 : lw_okq (⟨"DotGossipModel", "many", "(II)I"⟩, 8) := ⟨⟨by decide +kernel, by decide +kernel⟩, List.mem_of_getElem? (i := 497) (by decide +kernel), List.mem_of_getElem? (i := 571) (by decide +kernel), List.mem_of_getElem? (i := 572) (by decide +kernel)⟩
theorem lw_p14 : lw_okq (⟨"DotGossipModel", "isRegister", "(II)Z"⟩, 8) := ⟨⟨by decide +kernel, by decide +kernel⟩, List.mem_of_getElem? (i := 497) (by decide +kernel), List.mem_of_getElem? (i := 583) (by decide +kernel), List.mem_of_getElem? (i := 584) (by decide +kernel)⟩
theorem lw_p15 : lw_okq (⟨"DotGossipModel", "sum", "(II)I"⟩, 8) := ⟨⟨by decide +kernel, by decide +kernel⟩, List.mem_of_getElem? (i := 497) (by decide +kernel), List.mem_of_getElem? (i := 591) (by decide +kernel), List.mem_of_getElem? (i := 592) (by decide +kernel)⟩
def lw_privs_1 : List (MethodName × Nat) := [(⟨"java/lang/Throwable", "fillInStackTrace", "(I)Ljava/lang/Throwable;"⟩, 6), (⟨"DotGossip", "requireElement", "(III)V"⟩, 3), (⟨"DotGossip", "requireReplica", "(I)V"⟩, 3), (⟨"java/util/ArrayList", "add", "(Ljava/lang/Object;[Ljava/lang/Object;I)V"⟩, 3), (⟨"java/util/ArrayList", "grow", "()[Ljava/lang/Object;"⟩, 3), (⟨"java/util/ArrayList", "grow", "(I)[Ljava/lang/Object;"⟩, 3), (⟨"java/util/ArrayList", "fastRemove", "([Ljava/lang/Object;I)V"⟩, 3), (⟨"DotGossip$Holding", "mergeDot", "(LDotGossip$Holding;II)Z"⟩, 5), (⟨"DotGossipModel", "refuses", "(I)Z"⟩, 8), (⟨"DotGossipModel", "isElement", "(III)Z"⟩, 8), (⟨"DotGossipModel", "isReplica", "(I)Z"⟩, 8), (⟨"DotGossipModel", "news", "(II)I"⟩, 8), (⟨"DotGossipModel", "empties", "(II)V"⟩, 8), (⟨"DotGossipModel", "many", "(II)I"⟩, 8), (⟨"DotGossipModel", "isRegister", "(II)Z"⟩, 8), (⟨"DotGossipModel", "sum", "(II)I"⟩, 8)]
theorem lw_r1 : ∀ q ∈ lw_privs_1, lw_okq q := List.forall_mem_cons.mpr ⟨lw_p0, List.forall_mem_cons.mpr ⟨lw_p1, List.forall_mem_cons.mpr ⟨lw_p2, List.forall_mem_cons.mpr ⟨lw_p3, List.forall_mem_cons.mpr ⟨lw_p4, List.forall_mem_cons.mpr ⟨lw_p5, List.forall_mem_cons.mpr ⟨lw_p6, List.forall_mem_cons.mpr ⟨lw_p7, List.forall_mem_cons.mpr ⟨lw_p8, List.forall_mem_cons.mpr ⟨lw_p9, List.forall_mem_cons.mpr ⟨lw_p10, List.forall_mem_cons.mpr ⟨lw_p11, List.forall_mem_cons.mpr ⟨lw_p12, List.forall_mem_cons.mpr ⟨lw_p13, List.forall_mem_cons.mpr ⟨lw_p14, List.forall_mem_cons.mpr ⟨lw_p15, fun _ h => absurd h List.not_mem_nil⟩⟩⟩⟩⟩⟩⟩⟩⟩⟩⟩⟩⟩⟩⟩⟩
theorem lw_p16 : lw_okq (⟨"DotGossipModel", "copies", "(II)V"⟩, 8) := ⟨⟨by decide +kernel, by decide +kernel⟩, List.mem_of_getElem? (i := 497) (by decide +kernel), List.mem_of_getElem? (i := 599) (by decide +kernel), List.mem_of_getElem? (i := 600) (by decide +kernel)⟩
theorem lw_p17 : lw_okq (⟨"DotGossipModel", "isMessage", "(I)Z"⟩, 8) := ⟨⟨by decide +kernel, by decide +kernel⟩, List.mem_of_getElem? (i := 497) (by decide +kernel), List.mem_of_getElem? (i := 607) (by decide +kernel), List.mem_of_getElem? (i := 608) (by decide +kernel)⟩
theorem lw_p18 : lw_okq (⟨"DotGossipModel", "merges", "(II)I"⟩, 8) := ⟨⟨by decide +kernel, by decide +kernel⟩, List.mem_of_getElem? (i := 497) (by decide +kernel), List.mem_of_getElem? (i := 611) (by decide +kernel), List.mem_of_getElem? (i := 612) (by decide +kernel)⟩
theorem lw_p19 : lw_okq (⟨"DotGossipModel", "gone", "(I)V"⟩, 8) := ⟨⟨by decide +kernel, by decide +kernel⟩, List.mem_of_getElem? (i := 497) (by decide +kernel), List.mem_of_getElem? (i := 615) (by decide +kernel), List.mem_of_getElem? (i := 616) (by decide +kernel)⟩
theorem lw_p20 : lw_okq (⟨"DotGossipModel", "origin", "(III)I"⟩, 8) := ⟨⟨by decide +kernel, by decide +kernel⟩, List.mem_of_getElem? (i := 497) (by decide +kernel), List.mem_of_getElem? (i := 643) (by decide +kernel), List.mem_of_getElem? (i := 644) (by decide +kernel)⟩
def lw_privs_2 : List (MethodName × Nat) := [(⟨"DotGossipModel", "copies", "(II)V"⟩, 8), (⟨"DotGossipModel", "isMessage", "(I)Z"⟩, 8), (⟨"DotGossipModel", "merges", "(II)I"⟩, 8), (⟨"DotGossipModel", "gone", "(I)V"⟩, 8), (⟨"DotGossipModel", "origin", "(III)I"⟩, 8)]
theorem lw_r2 : ∀ q ∈ lw_privs_2, lw_okq q := List.forall_mem_cons.mpr ⟨lw_p16, List.forall_mem_cons.mpr ⟨lw_p17, List.forall_mem_cons.mpr ⟨lw_p18, List.forall_mem_cons.mpr ⟨lw_p19, List.forall_mem_cons.mpr ⟨lw_p20, fun _ h => absurd h List.not_mem_nil⟩⟩⟩⟩⟩
def lw_privs : List (MethodName × Nat) := lw_privs_1 ++ (lw_privs_2)
def lw_tbl : List Cond := k2_sels lw_privs ++ tables_1
theorem lw_privs_ok : ∀ q ∈ lw_privs, lw_okq q := by
  show ∀ q ∈ lw_privs_1 ++ (lw_privs_2), lw_okq q
  exact List.forall_mem_append.mpr ⟨lw_r1, lw_r2⟩

/-! ===== BEGIN words of one list among another's, by their places ===== -/
theorem goodIn_r {big : List Cond} (ws : List Cond) (ps : List Nat) (hp : ws = ps.filterMap (fun i => big[i]?)) (h : ws.all goodWord = true) : GoodIn big ws := by
  intro w hw
  have h1 := List.all_eq_true.mp h w hw
  rw [hp] at hw
  obtain ⟨i, -, hi⟩ := List.mem_filterMap.mp hw
  have hm : w ∈ big := by first | exact List.mem_of_getElem? hi | exact List.getElem?_mem hi
  exact ⟨hm, good_of_word h1⟩
theorem goodIn_app {big a b : List Cond} (ha : GoodIn big a) (hb : GoodIn big b) : GoodIn big (a ++ b) := fun w h => (List.mem_append.mp h).elim (ha w) (hb w)
theorem goodIn_ca {big a b : List Cond} {c : Cond} (ha : GoodIn big (c :: a)) (hb : GoodIn big b) : GoodIn big (c :: (a ++ b)) := fun w h => (List.mem_cons.mp h).elim (fun e => ha w (List.mem_cons.mpr (Or.inl e))) (fun h => (List.mem_append.mp h).elim (fun h => ha w (List.mem_cons.mpr (Or.inr h))) (hb w))
theorem goodIn_sub {big ws : List Cond} (hm : ∀ w ∈ ws, w ∈ big) (h : ws.all goodWord = true) : GoodIn big ws := fun w hw => ⟨hm w hw, good_of_word (List.all_eq_true.mp h w hw)⟩
/-! ===== END ===== -/

/-! ===== BEGIN exceptions that leave a method, and their catching by the caller (launches without stack traces) ===== -/
section VXA
/-! The laws vx_back, vx_callV, vx_callS, vx_callSW, vx_throw0, vx_throwS follow proofs of the library, with one case more: JvmDerived/Free/Laws.lean (Back.of_free), Shelf42/LK1.lean (callV, callS), Shelf/KitTraced.lean (throwNew0V, throwNewS). -/
/-- where a method has thrown q: the class by its name, the cell, what was written, the world -/
def vx_T (XC : String → State → State → Prop) (st : State) (q : Addr) (t : State) (mc ms : Nat) (free : Addr → Prop) : Prop :=
  ∃ (E : String) (ce : Cell) (L : List Loc), XC E st t ∧ t.heap[q]? = some ce ∧ ce.vm = .none ∧ st.vm.findClass E = some ce.cls ∧ st.WarmedH t.vm ∧ st.sameButNew ({ t with vm := st.vm } : State) L mc ms ∧ ∀ z ∈ L, free z.base
def vx_Q (Qc : Array Value → State → Outcome → State → Prop) (XC : String → State → State → Prop) (mc ms : Nat) (free : Addr → Prop) : Array Value → State → Outcome → State → Prop := fun a st o t =>
  (Qc a st o t ∧ ∃ L, FrameEnd st o t L mc ms ∧ ∀ q ∈ L, free q.base) ∨ ∃ q, o = .threw q ∧ vx_T XC st q t mc ms free
/-- a callee that returns or throws -/
def vx_Met (l : Launch) (y : MethodName) (ws : List Cond) (rm : Room) (Pc : Array Value → State → Prop) (Qc : Array Value → State → Outcome → State → Prop) (XC : String → State → State → Prop) (mc ms : Nat) (free : Addr → Prop) : Prop :=
  MetFree l y (headSpec ws rm) Pc (fun _ _ _ _ _ => True) (vx_Q Qc XC mc ms free)
def vx_Post (XC : String → State → State → Prop) (mc ms : Nat) (free : Addr → Prop) : Pt → Array Value → Addr → Pt → Prop := fun A a q B =>
  ∃ (g : JFrame) (mk : MethodId) (t : State) (L : List Loc) (E : String) (ce : Cell), B.U.heap = t.heap ∧ B.U.vm = t.vm ∧ XC E (A.U.calling g mk a) t ∧ t.heap[q]? = some ce ∧ ce.vm = .none ∧ A.U.vm.findClass E = some ce.cls ∧ B.locs = A.locs ++ L ∧ (∀ z ∈ L, free z.base) ∧ B.cells = A.cells + mc ∧ B.slots = A.slots + ms
def vx_Back (l : Launch) (R : Room) (p : Program) (e : Env) (below : List Frame) (s : State) (sargs : Array Value) (y : MethodName) (len W9 : Nat)
    (Pre : Pt → Array Value → Prop) (Post : Pt → Array Value → Option Value → Pt → Prop) (PostX : Pt → Array Value → Addr → Pt → Prop) : Prop :=
  ∀ (m : MethodId) (meth : Method) (c : Code) (A : Pt) (g : JFrame) (ig : Instr) (mk : MethodId) (a : Array Value),
    Stand p l e R s m sargs below meth c A.U A.locs A.cells A.slots → g.method = m → g.locals.size = c.maxLocals → decode c.code g.pc = .ok (ig, len) →
    2 * g.monitorRoom + (g.stack.map fun v => v.category).sum ≤ W9 → A.U.methodNamed? y = some mk → Pre A a →
    (∃ (v : Option Value) (B : Pt), Stand p l e R s m sargs below meth c B.U B.locs B.cells B.slots ∧ Post A a v B ∧
      Steps p.tables e below (doInvoke e (A.U.setTop g) [] mk a).1 (B.U.setTop { g with pc := g.pc + len, stack := v.toList ++ g.stack })) ∨
    (∃ (q : Addr) (B : Pt), Stand p l e R s m sargs below meth c B.U B.locs B.cells B.slots ∧ PostX A a q B ∧
      Steps p.tables e below (doInvoke e (A.U.setTop g) [] mk a).1 ((B.U.setTop g).pushFrame (.throwing q)))
section Payer
variable {l : Launch} {R : Room} {p : Program} {e : Env} {below : List Frame} {s : State} {sargs : Array Value} {y : MethodName} {len W9 : Nat}
theorem vx_back {ws : List Cond} {rm : Room} {Pc : Array Value → State → Prop} {Qc : Array Value → State → Outcome → State → Prop} {XC : String → State → State → Prop} {mc ms : Nat} {free : Addr → Prop} {bytes : ByteArray} {maxL : Nat} {ret : Option FieldType}
    (hM : vx_Met l y ws rm Pc Qc XC mc ms free) (hblind : FrameBlind Pc) (hrc : rm.cells = mc) (hrs : rm.slots = ms)
    (hframes : rm.frames + 1 ≤ R.frames) (hlocals : W9 + (maxL + 11) + rm.locals ≤ R.locals)
    (hws : ∀ w ∈ ws, ∀ a' U, s.WarmedH U.vm → w.before a' U = true) (hcode : Cond.code y bytes maxL ret ∈ ws) (hinit : ∀ a' U, s.WarmedH U.vm → (Cond.initialized y.cls).before a' U = true) :
    vx_Back l R p e below s sargs y len W9 (PreOf R mc ms Pc) (PostOf Qc mc ms free) (vx_Post XC mc ms free) := by
  intro m meth c A g ig mk a X hg hsize hdg hW hn hp
  have h1 : (headSpec ws rm).pre.before a A.U = true := atoms_intro fun w hw => hws w hw _ _ X.warmed
  have h2 : (Cond.code y bytes maxL ret).before a A.U = true := hws _ hcode _ _ X.warmed
  have h3 : (Cond.initialized y.cls).before a A.U = true := hinit _ _ X.warmed
  have h4 : A.cells + (headSpec ws rm).room.cells ≤ R.cells := by rw [show (headSpec ws rm).room.cells = mc from hrc]; exact hp.1
  have h5 : A.slots + (headSpec ws rm).room.slots ≤ R.slots := by rw [show (headSpec ws rm).room.slots = ms from hrs]; exact hp.2.1
  have hPc : Pc a (A.U.calling g mk a) := hblind _ _ _ _ hp.2.2
  obtain ⟨U, Ls, c0, s0⟩ := A
  dsimp only [Pt.U, Pt.locs, Pt.cells, Pt.slots] at h1 h2 h3 h4 h5 X hn hPc ⊢
  obtain ⟨methY, cY, hmY, hcY, -, hlY, -, -, -, -⟩ := Cond.code_spec hn h2
  obtain ⟨kY, hkY, -⟩ := className_of_methodNamed hn
  have hinitY : kY.init = .initialized := Cond.initialized_spec (findClass_of_methodNamed hn) hkY h3
  have h : At U g.method c below := by rw [hg]; exact X.here
  have hlocals9 : W9 + (maxL + 11) + (headSpec ws rm).room.locals ≤ R.locals := hlocals
  have happ : (headSpec ws rm).appliesLoose y e.platform (U.calling g mk a) = true :=
    Spec.appliesLoose_calling (g := g) h hdg hn hkY hinitY
      (X.room_calling (g := g) (R' := (headSpec ws rm).room) hsize hmY hcY hframes (by rw [hlY]; omega) h4 h5) h1
  obtain ⟨mid, hmid⟩ := h.above
  have hfr : (U.setTop g).frames = (.java g :: mid) ++ below := by rw [State.frames_setTop' g h.top, hmid]; rfl
  obtain ⟨o, s₂, hsteps, -, hend, hq⟩ := Steps.callFree hM p X.admits X.cas X.clock (acts := []) hfr happ hPc trivial
  have hq' : vx_Q Qc XC mc ms free a (U.calling g mk a) o s₂ := hq
  rw [State.frames_setTop' g h.top] at hend
  obtain ⟨g₀, hg0⟩ := Option.isSome_iff_exists.mp h.top
  obtain ⟨r, hr⟩ := State.topJava?_eq_some.mp hg0
  have hr' : (({ U with heap := s₂.heap, slotsUsed := s₂.slotsUsed } : State).setVm s₂.vm).frames = .java g₀ :: r := hr
  rcases hq' with ⟨hqc, L, hfe, hL⟩ | ⟨q, rfl, E, ce, L, hx, hce, hcv, hcl, hW₂, hsm, hL⟩
  · obtain ⟨⟨v, rfl⟩, hW₂, e2, q2, q3, q4, q5, q6⟩ := id hfe
    have e3 : s₂ = ({ (U.calling g mk a).setFrames s₂.frames with heap := s₂.heap, slotsUsed := s₂.slotsUsed } : State).setVm s₂.vm := by
      have : s₂ = ({ s₂ with vm := (U.calling g mk a).vm } : State).setVm s₂.vm := rfl
      rw [e2] at this
      exact this
    obtain ⟨c₂, i₂, len₂, hc₂, hd₂, hf₂⟩ := hend
    have hW' : U.WarmedH s₂.vm := hW₂
    have hcc : c₂ = c := by
      have h1 : s₂.code? g.method = U.code? g.method := by
        rw [State.code?_eq, State.code?_eq, hW'.alike.method?]
      exact Option.some.inj (hc₂.symm.trans (h1.trans h.code))
    subst hcc
    have hlen : len₂ = len := by rw [hdg] at hd₂; cases hd₂; rfl
    subst hlen
    have hs₂ : s₂ = (({ U with heap := s₂.heap, slotsUsed := s₂.slotsUsed } : State).setVm s₂.vm).setTop { g with pc := g.pc + len₂, stack := v.toList ++ g.stack } := by
      refine e3.trans ?_
      rw [hf₂, State.calling_eq h.top, State.setFrames_setFrames, State.setTop_of_frames _ hr', hr]
      rfl
    have hsame : U.sameButNew ({ U with heap := s₂.heap, slotsUsed := s₂.slotsUsed } : State) L mc ms := by
      refine ⟨?_, q2, q3, q4, q5, q6⟩
      obtain ⟨t, ht, -⟩ := State.frames_cons hr
      show ({ U with heap := s₂.heap, slotsUsed := s₂.slotsUsed } : State) = { U.setFrames U.frames with heap := s₂.heap, slotsUsed := s₂.slotsUsed }
      rw [State.setFrames_self ht]
    subst hg
    refine Or.inl ⟨v, ⟨(({ U with heap := s₂.heap, slotsUsed := s₂.slotsUsed } : State).setVm s₂.vm), Ls ++ L, c0 + mc, s0 + ms⟩,
      ⟨X.admits, X.cas, X.clock, X.frames, X.room, X.hears, X.method, X.code, (X.here.setHeapUsed s₂.heap s₂.slotsUsed).setVm hW'.alike, X.tail, State.WarmedH.trans X.warmed hW', X.limits, X.bytes, X.same.trans (hsame.setVm s.vm)⟩,
      ⟨g, mk, s₂, L, rfl, rfl, hqc, rfl, hL, rfl, rfl⟩, ?_⟩
    show Steps p.tables e below _ ((({ U with heap := s₂.heap, slotsUsed := s₂.slotsUsed } : State).setVm s₂.vm).setTop { g with pc := g.pc + len₂, stack := v.toList ++ g.stack })
    rw [← hs₂]
    exact hsteps
  · obtain ⟨e2, q2, q3, q4, q5, q6⟩ := id hsm
    have e3 : s₂ = ({ (U.calling g mk a).setFrames s₂.frames with heap := s₂.heap, slotsUsed := s₂.slotsUsed } : State).setVm s₂.vm := by
      have : s₂ = ({ s₂ with vm := (U.calling g mk a).vm } : State).setVm s₂.vm := rfl
      rw [e2] at this
      exact this
    have hf₂ : s₂.frames = .throwing q :: .java g :: U.frames.tail := hend
    have hW' : U.WarmedH s₂.vm := hW₂
    have hs₂ : s₂ = ((({ U with heap := s₂.heap, slotsUsed := s₂.slotsUsed } : State).setVm s₂.vm).setTop g).pushFrame (.throwing q) := by
      refine e3.trans ?_
      rw [hf₂, State.calling_eq h.top, State.setFrames_setFrames, State.pushFrame, State.frames_setTop _ hr', State.setTop_of_frames _ hr', State.setFrames_setFrames, hr]
      rfl
    have hsame : U.sameButNew ({ U with heap := s₂.heap, slotsUsed := s₂.slotsUsed } : State) L mc ms := by
      refine ⟨?_, q2, q3, q4, q5, q6⟩
      obtain ⟨t, ht, -⟩ := State.frames_cons hr
      show ({ U with heap := s₂.heap, slotsUsed := s₂.slotsUsed } : State) = { U.setFrames U.frames with heap := s₂.heap, slotsUsed := s₂.slotsUsed }
      rw [State.setFrames_self ht]
    subst hg
    refine Or.inr ⟨q, ⟨(({ U with heap := s₂.heap, slotsUsed := s₂.slotsUsed } : State).setVm s₂.vm), Ls ++ L, c0 + mc, s0 + ms⟩,
      ⟨X.admits, X.cas, X.clock, X.frames, X.room, X.hears, X.method, X.code, (X.here.setHeapUsed s₂.heap s₂.slotsUsed).setVm hW'.alike, X.tail, State.WarmedH.trans X.warmed hW', X.limits, X.bytes, X.same.trans (hsame.setVm s.vm)⟩,
      ⟨g, mk, s₂, L, E, ce, rfl, rfl, hx, hce, hcv, hcl, rfl, hL, rfl, rfl⟩, ?_⟩
    show Steps p.tables e below _ (((({ U with heap := s₂.heap, slotsUsed := s₂.slotsUsed } : State).setVm s₂.vm).setTop g).pushFrame (.throwing q))
    rw [← hs₂]
    exact hsteps
end Payer
section Calls
variable {p : Program} {l : Launch} {e : Env} {R : Room} {s : State} {m : MethodId} {args : Array Value} {below : List Frame} {meth : Method} {c : Code} {T : State} {locs : List Loc} {cells slots : Nat}
theorem vx_callV (X : Stand p l e R s m args below meth c T locs cells slots) (hexec : p.tables.exec = Jvm.exec) {own C : String} {index : Nat} {y : MethodName} {bytes : ByteArray} {maxL : Nat} {ret : Option FieldType}
    (hown : s.vm.findClass own = some m.cls) (hlink : (Cond.methodLink own index y).before args s = true) (hinst : (Cond.instanceMethod y).before args s = true) (hsel : (Cond.selects C y y).before args s = true)
    (hcode : (Cond.code y bytes maxL ret).before args s = true) (hy : y.cls ≠ "java/lang/invoke/MethodHandle" ∧ y.cls ≠ "java/lang/invoke/VarHandle")
    {W9 : Nat} {Pre : Pt → Array Value → Prop} {Post : Pt → Array Value → Option Value → Pt → Prop} {PostX : Pt → Array Value → Addr → Pt → Prop} (hK : vx_Back l R p e below s args y 3 W9 Pre Post PostX)
    {b : Addr} {cellB : Cell} (hcell : T.heap[b]? = some cellB) (hobj : cellB.vm.isStatics = false) (hcls : s.vm.findClass C = some cellB.cls)
    {g : JFrame} (hg : g.method = m) (hsize : g.locals.size = c.maxLocals) {argsL rest : List Value} (hlen : ∀ sig, parseMethodDescriptor y.desc = some sig → argsL.length = sig.parameters.length)
    (hstack : g.stack = argsL.reverse ++ .ref b :: rest) (hW : 2 * g.monitorRoom + (rest.map fun v => v.category).sum ≤ W9) (hdg : decode c.code g.pc = .ok (.invokevirtual index, 3))
    (hpre : ∀ vm₁, s.WarmedH vm₁ → Pre ⟨T.setVm vm₁, locs, cells, slots⟩ (Value.ref b :: argsL).toArray) :
    (∃ (v : Option Value) (vm₁ : Vm) (B : Pt), s.WarmedH vm₁ ∧ Stand p l e R s m args below meth c B.U B.locs B.cells B.slots ∧ Post ⟨T.setVm vm₁, locs, cells, slots⟩ (Value.ref b :: argsL).toArray v B ∧
      ∀ target, Steps p.tables e below (B.U.setTop { g with pc := g.pc + 3, stack := v.toList ++ rest }) target → Steps p.tables e below (T.setTop g) target) ∨
    (∃ (q : Addr) (vm₁ : Vm) (B : Pt), s.WarmedH vm₁ ∧ Stand p l e R s m args below meth c B.U B.locs B.cells B.slots ∧ PostX ⟨T.setVm vm₁, locs, cells, slots⟩ (Value.ref b :: argsL).toArray q B ∧
      Steps p.tables e below (T.setTop g) ((B.U.setTop { g with stack := rest }).pushFrame (.throwing q))) := by
  obtain ⟨mk, methM, hnamed, hmethM, hstM, habM⟩ := Cond.instanceMethod_spec hinst
  obtain ⟨methM', cM, hmethM', -, -, -, -, -, -, hsigM⟩ := Cond.code_spec hnamed hcode
  cases hmethM.symm.trans hmethM'
  obtain ⟨c2, r2, m2, q1, q2, q3, q4, kP, hkP, hkPi⟩ := Cond.selects_spec hsel
  cases hcls.symm.trans q1
  cases (State.methodFound?_of_named hnamed hy).symm.trans q2
  cases hnamed.symm.trans q3
  have hselP : selectMethod e.platform s.vm cellB.cls mk = .method mk := by rw [Launch.admits_selectMethod X.admits]; exact q4
  obtain ⟨vm₁, X₁, hstep₁⟩ := X.invokevirtual hexec hown hlink hnamed hmethM hstM hkP hkPi hy (a := b) (cell := cellB) hcell
    (fun z h => by rw [h] at hobj; cases hobj) hselP hmethM habM hkP hkPi (g := g) hg (argsL := argsL) (rest := rest) (hlen _ hsigM) hstack hdg
  rcases hK m meth c ⟨T.setVm vm₁, locs, cells, slots⟩ { g with stack := rest } (.invokevirtual index) mk (Value.ref b :: argsL).toArray X₁ hg hsize hdg hW (X₁.named hnamed) (hpre vm₁ X₁.warmed) with ⟨v, B, X', hpost, hsteps⟩ | ⟨q, B, X', hpost, hsteps⟩
  · exact Or.inl ⟨v, vm₁, B, X₁.warmed, X', hpost, fun target h => hstep₁ _ fun acts => by rw [doInvoke_state]; exact hsteps.trans h⟩
  · exact Or.inr ⟨q, vm₁, B, X₁.warmed, X', hpost, hstep₁ _ fun acts => by rw [doInvoke_state]; exact hsteps⟩
theorem vx_callS (X : Stand p l e R s m args below meth c T locs cells slots) (hexec : p.tables.exec = Jvm.exec) {own : String} {index : Nat} {y : MethodName} {bytes : ByteArray} {maxL : Nat} {ret : Option FieldType}
    (hown : s.vm.findClass own = some m.cls) (hlink : (Cond.methodLink own index y).before args s = true) (hstat : (Cond.static y).before args s = true) (hinit : (Cond.initialized y.cls).before args s = true)
    (hcode : (Cond.code y bytes maxL ret).before args s = true) (hy : y.cls ≠ "java/lang/invoke/MethodHandle" ∧ y.cls ≠ "java/lang/invoke/VarHandle")
    {W9 : Nat} {Pre : Pt → Array Value → Prop} {Post : Pt → Array Value → Option Value → Pt → Prop} {PostX : Pt → Array Value → Addr → Pt → Prop} (hK : vx_Back l R p e below s args y 3 W9 Pre Post PostX)
    {g : JFrame} (hg : g.method = m) (hsize : g.locals.size = c.maxLocals) {argsL rest : List Value} (hlen : ∀ sig, parseMethodDescriptor y.desc = some sig → argsL.length = sig.parameters.length)
    (hstack : g.stack = argsL.reverse ++ rest) (hW : 2 * g.monitorRoom + (rest.map fun v => v.category).sum ≤ W9) (hdg : decode c.code g.pc = .ok (.invokestatic index, 3))
    (hpre : ∀ vm₁, s.WarmedH vm₁ → Pre ⟨T.setVm vm₁, locs, cells, slots⟩ argsL.toArray) :
    (∃ (v : Option Value) (vm₁ : Vm) (B : Pt), s.WarmedH vm₁ ∧ Stand p l e R s m args below meth c B.U B.locs B.cells B.slots ∧ Post ⟨T.setVm vm₁, locs, cells, slots⟩ argsL.toArray v B ∧
      ∀ target, Steps p.tables e below (B.U.setTop { g with pc := g.pc + 3, stack := v.toList ++ rest }) target → Steps p.tables e below (T.setTop g) target) ∨
    (∃ (q : Addr) (vm₁ : Vm) (B : Pt), s.WarmedH vm₁ ∧ Stand p l e R s m args below meth c B.U B.locs B.cells B.slots ∧ PostX ⟨T.setVm vm₁, locs, cells, slots⟩ argsL.toArray q B ∧
      Steps p.tables e below (T.setTop g) ((B.U.setTop { g with stack := rest }).pushFrame (.throwing q))) := by
  obtain ⟨mk, hnamed⟩ := Cond.code_named hcode
  obtain ⟨methM, cM, hmethM, -, -, -, -, -, -, hsigM⟩ := Cond.code_spec hnamed hcode
  have hstatic : methM.isStatic = true := Cond.static_spec hnamed hmethM hstat
  obtain ⟨kP, hkP, -⟩ := className_of_methodNamed hnamed
  have hinitP : kP.init = .initialized := Cond.initialized_spec (findClass_of_methodNamed hnamed) hkP hinit
  obtain ⟨vm₁, X₁, hstep₁⟩ := X.invokestatic hexec hown hlink hnamed hmethM hstatic hkP hinitP hy (g := g) hg (argsL := argsL) (rest := rest) (hlen _ hsigM) hstack hdg
  rcases hK m meth c ⟨T.setVm vm₁, locs, cells, slots⟩ { g with stack := rest } (.invokestatic index) mk argsL.toArray X₁ hg hsize hdg hW (X₁.named hnamed) (hpre vm₁ X₁.warmed) with ⟨v, B, X', hpost, hsteps⟩ | ⟨q, B, X', hpost, hsteps⟩
  · exact Or.inl ⟨v, vm₁, B, X₁.warmed, X', hpost, fun target h => hstep₁ _ fun acts => by rw [doInvoke_state]; exact hsteps.trans h⟩
  · exact Or.inr ⟨q, vm₁, B, X₁.warmed, X', hpost, hstep₁ _ fun acts => by rw [doInvoke_state]; exact hsteps⟩
end Calls
theorem vx_cls {s : State} {T : State} {vm₁ : Vm} {E : String} {k : ClassId} (hW : s.WarmedH vm₁) (h : (T.setVm vm₁).vm.findClass E = some k) : s.vm.findClass E = some k := by
  have h1 : vm₁.findClass E = some k := h
  rw [hW.alike.findClass] at h1
  exact h1
/-- the method's frame g, with q thrown over it -/
def vx_W (p : Program) (l : Launch) (e : Env) (R : Room) (s : State) (m : MethodId) (args : Array Value) (below : List Frame) (meth : Method) (c : Code) (H : Heap) (locs : List Loc) (cells slots : Nat) (Q : State → Prop) (g : JFrame) (q : Addr) : Prop :=
  ∀ T : State, T.heap = H → Stand p l e R s m args below meth c T locs cells slots → ∃ t, Steps p.tables e below ((T.setTop g).pushFrame (.throwing q)) t ∧ Q t
def vx_Run (p : Program) (l : Launch) (e : Env) (R : Room) (s : State) (m : MethodId) (args : Array Value) (below : List Frame) (meth : Method) (c : Code) (H : Heap) (locs : List Loc) (cells slots mc ms : Nat) (g : JFrame) (rest : List Value) (Qa : State → Outcome → State → Prop) (XC : String → State → State → Prop) (free : Addr → Prop) : Prop :=
  ∀ T : State, T.heap = H → Stand p l e R s m args below meth c T locs cells slots →
    (∃ (v : Option Value) (st₀ t T' : State) (L : List Loc), st₀.heap = H ∧ Stand p l e R s m args below meth c T' (locs ++ L) (cells + mc) (slots + ms) ∧ (∀ q ∈ L, free q.base) ∧ T'.heap = t.heap ∧ T'.vm = t.vm ∧ Qa st₀ (.returned v) t ∧
      Goes p e below T g T' { g with pc := g.pc + 3, stack := v.toList ++ rest }) ∨
    (∃ (q : Addr) (st₀ t T' : State) (L : List Loc) (E : String) (ce : Cell), st₀.heap = H ∧ Stand p l e R s m args below meth c T' (locs ++ L) (cells + mc) (slots + ms) ∧ (∀ z ∈ L, free z.base) ∧ T'.heap = t.heap ∧ T'.vm = t.vm ∧ XC E st₀ t ∧ t.heap[q]? = some ce ∧ ce.vm = .none ∧ s.vm.findClass E = some ce.cls ∧
      Steps p.tables e below (T.setTop g) ((T'.setTop { g with stack := rest }).pushFrame (.throwing q)))
def vx_X {S : Type} (px : S → Prop) (B : String → S → State → Prop) (A : Nat → Prop) : String → State → State → Prop := fun E st t => ∃ u : S, px u ∧ B E u t ∧ va_F A st t
section Runs
variable {p : Program} {l : Launch} {e : Env} {R : Room} {s : State} {m : MethodId} {args : Array Value} {below : List Frame} {meth : Method} {c : Code} {H : Heap} {locs : List Loc} {cells slots : Nat}
variable {y : MethodName} {bytes cc : ByteArray} {maxL nL mc ms n index : Nat} {ret : Option FieldType} {ws : List Cond} {rm : Room} {Pc : Array Value → State → Prop} {Qc : Array Value → State → Outcome → State → Prop} {XC : String → State → State → Prop} {free : Addr → Prop} {Ts : List Cond} {own C : String} {b : Addr} {As rest : List Value} {g : JFrame}
theorem vx_callBack (cb : CallB R s args own index y bytes maxL ret ws rm mc ms n) (hM : vx_Met l y ws rm Pc Qc XC mc ms free) (hbl : FrameBlind Pc) : vx_Back l R p e below s args y 3 8 (PreOf R mc ms Pc) (PostOf Qc mc ms free) (vx_Post XC mc ms free) := by
  obtain ⟨hrc, hrs, hfr, hlo, hws, hcw, -, hini, -⟩ := cb
  exact vx_back (bytes := bytes) (maxL := maxL) (ret := ret) hM hbl hrc hrs hfr hlo hws hcw (fun a' U hW => word_at hW (Or.inl (by first | rfl | simp [Cond.onTables, Cond.keeps, Cond.steady])) hini)
theorem vx_runV (S : CallFix p m c cc nL s args Ts own) (hM : vx_Met l y ws rm Pc Qc XC mc ms free) (cw : CallW R s args own C index y bytes maxL ret ws rm mc ms n) (hp : PreV s H C b Pc As)
    (hg : g.method = m) (hn : As.length = n) (hsize : g.locals.size = nL) (hstack : g.stack = As.reverse ++ .ref b :: rest) (hW : 2 * g.monitorRoom + (rest.map fun v => v.category).sum ≤ 8) (hdg : decode cc g.pc = .ok (.invokevirtual index, 3)) (hf : cells + mc ≤ R.cells ∧ slots + ms ≤ R.slots) :
    vx_Run p l e R s m args below meth c H locs cells slots mc ms g rest (Qc (Value.ref b :: As).toArray) XC free := by
  have hK : vx_Back l R p e below s args y 3 8 (PreOf R mc ms Pc) (PostOf Qc mc ms free) (vx_Post XC mc ms free) := vx_callBack cw.1 hM hp.1
  obtain ⟨⟨-, -, -, -, -, -, hcode, -, hy, hlen, hl⟩, hin, hse⟩ := cw
  obtain ⟨hx, hb, hml, ho, -⟩ := S
  obtain ⟨-, ⟨cellB, hcB, hoB, hclB⟩, hPc⟩ := hp
  intro T hT X
  rcases vx_callV X hx (C := C) (bytes := bytes) (maxL := maxL) (ret := ret) ho hl hin hse hcode hy hK (by rw [hT]; exact hcB) hoB hclB hg (hsize.trans hml.symm) (argsL := As) (rest := rest) (fun sig h => hn.trans (hlen sig h)) hstack hW (by rw [hb]; exact hdg)
    (fun vm₁ hW₁ => ⟨hf.1, hf.2, hPc (T.setVm vm₁) hT hW₁⟩) with ⟨v, vm₁, ⟨U', l2, c2, s2⟩, hW₁, X', ⟨g', mk, t, L, e1, e2, hq, h1, hL, h2, h3⟩, st⟩ | ⟨q, vm₁, ⟨U', l2, c2, s2⟩, hW₁, X', ⟨g', mk, t, L, E, ce, e1, e2, hq, hce, hcv, hcl, h1, hL, h2, h3⟩, st⟩
  · dsimp only [Pt.U, Pt.locs, Pt.cells, Pt.slots] at X' e1 e2 h1 h2 h3 st
    subst h1; subst h2; subst h3
    exact Or.inl ⟨v, (T.setVm vm₁).calling g' mk (Value.ref b :: As).toArray, t, U', L, hT, X', hL, e1, e2, hq, st⟩
  · dsimp only [Pt.U, Pt.locs, Pt.cells, Pt.slots] at X' e1 e2 h1 h2 h3 st hcl
    subst h1; subst h2; subst h3
    exact Or.inr ⟨q, (T.setVm vm₁).calling g' mk (Value.ref b :: As).toArray, t, U', L, E, ce, hT, X', hL, e1, e2, hq, hce, hcv, vx_cls hW₁ hcl, st⟩
theorem vx_runS (S : CallFix p m c cc nL s args Ts own) (hM : vx_Met l y ws rm Pc Qc XC mc ms free) (cw : CallB R s args own index y bytes maxL ret ws rm mc ms n ∧ (Cond.static y).before args s = true) (hp : PreS s H Pc As)
    (hg : g.method = m) (hn : As.length = n) (hsize : g.locals.size = nL) (hstack : g.stack = As.reverse ++ rest) (hW : 2 * g.monitorRoom + (rest.map fun v => v.category).sum ≤ 8) (hdg : decode cc g.pc = .ok (.invokestatic index, 3)) (hf : cells + mc ≤ R.cells ∧ slots + ms ≤ R.slots) :
    vx_Run p l e R s m args below meth c H locs cells slots mc ms g rest (Qc As.toArray) XC free := by
  have hK : vx_Back l R p e below s args y 3 8 (PreOf R mc ms Pc) (PostOf Qc mc ms free) (vx_Post XC mc ms free) := vx_callBack cw.1 hM hp.1
  obtain ⟨⟨-, -, -, -, -, -, hcode, hini, hy, hlen, hl⟩, hstt⟩ := cw
  obtain ⟨hx, hb, hml, ho, -⟩ := S
  intro T hT X
  rcases vx_callS X hx (bytes := bytes) (maxL := maxL) (ret := ret) ho hl hstt hini hcode hy hK hg (hsize.trans hml.symm) (argsL := As) (rest := rest) (fun sig h => hn.trans (hlen sig h)) hstack hW (by rw [hb]; exact hdg)
    (fun vm₁ hW₁ => ⟨hf.1, hf.2, hp.2 (T.setVm vm₁) hT hW₁⟩) with ⟨v, vm₁, ⟨U', l2, c2, s2⟩, hW₁, X', ⟨g', mk, t, L, e1, e2, hq, h1, hL, h2, h3⟩, st⟩ | ⟨q, vm₁, ⟨U', l2, c2, s2⟩, hW₁, X', ⟨g', mk, t, L, E, ce, e1, e2, hq, hce, hcv, hcl, h1, hL, h2, h3⟩, st⟩
  · dsimp only [Pt.U, Pt.locs, Pt.cells, Pt.slots] at X' e1 e2 h1 h2 h3 st
    subst h1; subst h2; subst h3
    exact Or.inl ⟨v, (T.setVm vm₁).calling g' mk As.toArray, t, U', L, hT, X', hL, e1, e2, hq, st⟩
  · dsimp only [Pt.U, Pt.locs, Pt.cells, Pt.slots] at X' e1 e2 h1 h2 h3 st hcl
    subst h1; subst h2; subst h3
    exact Or.inr ⟨q, (T.setVm vm₁).calling g' mk As.toArray, t, U', L, E, ce, hT, X', hL, e1, e2, hq, hce, hcv, vx_cls hW₁ hcl, st⟩
end Runs
section Rows
variable {p : Program} {l : Launch} {e : Env} {R : Room} {s : State} {m : MethodId} {args : Array Value} {below : List Frame} {meth : Method} {c : Code} {H : Heap} {locs : List Loc} {cells slots : Nat} {Q : State → Prop}
variable {mc ms : Nat} {free : Addr → Prop} {A0 A1 : Nat → Prop} {H0 : Heap} {a : Array Value} {pc : Nat} {ls : Array Slot} {st0 rest : List Value}
theorem vx_keep {st₀ t T' : State} {L : List Loc} (h0 : st₀.heap = H) (e1 : T'.heap = t.heap) (hS : va_S A0 H0 H locs) (hA : ∀ q, q < H.size → A1 q → A0 q) (hf : ∀ q, free q → A0 q) (hL : ∀ q ∈ L, free q.base) (hF : va_F A1 st₀ t) :
    H.size ≤ T'.heap.size ∧ (∀ q : Nat, q < H.size → ¬ A1 q → T'.heap[q]? = H[q]?) ∧ va_S A0 H0 T'.heap (locs ++ L) := by
  obtain ⟨hz, hk⟩ := hF
  rw [h0] at hz hk
  exact ⟨by rw [e1]; exact hz, fun q h1 h2 => by rw [e1]; exact hk q h1 h2,
    ⟨Nat.le_trans hS.1 (by rw [e1]; exact hz), fun q h1 h2 => by rw [e1, hk q (Nat.lt_of_lt_of_le h1 hS.1) (fun z => h2 (hA q (Nat.lt_of_lt_of_le h1 hS.1) z))]; exact hS.2.1 q h1 h2, fun q hq => by
      rcases List.mem_append.mp hq with h | h
      · exact hS.2.2 q h
      · exact hf _ (hL q h)⟩⟩
theorem vx_calli {S SX : Type} {post : Int32 → S → Prop} {px : SX → Prop} {B : S → State → Prop} {BX : String → SX → State → Prop} {AX : Nat → Prop} (hr : vx_Run p l e R s m args below meth c H locs cells slots mc ms (F0 m pc ls st0) rest (va_Qi post B A1 a) (vx_X px BX AX) free) (hS : va_S A0 H0 H locs) (hA : ∀ q, q < H.size → A1 q → A0 q) (hf : ∀ q, free q → A0 q) (hAX : ∀ q, q < H.size → AX q → A0 q)
    (kx : ∀ (E : String) (ce : Cell) (q9 : Addr) (u : SX) (t : State) (H1 : Heap) (locs1 : List Loc), t.heap = H1 → s.vm.Alike t.vm → px u → BX E u t → H.size ≤ H1.size → (∀ q : Nat, q < H.size → ¬ AX q → H1[q]? = H[q]?) → va_S A0 H0 H1 locs1 → H1[q9]? = some ce → ce.vm = .none → s.vm.findClass E = some ce.cls → vx_W p l e R s m args below meth c H1 locs1 (cells + mc) (slots + ms) Q (F0 m pc ls rest) q9)
    (kk : ∀ (r : Int32) (u : S) (t : State) (H1 : Heap) (locs1 : List Loc), t.heap = H1 → s.vm.Alike t.vm → post r u → B u t → H.size ≤ H1.size → (∀ q : Nat, q < H.size → ¬ A1 q → H1[q]? = H[q]?) → va_S A0 H0 H1 locs1 → W p l e R s m args below meth c H1 locs1 (cells + mc) (slots + ms) Q (F0 m (pc + 3) ls (.int r :: rest))) : W p l e R s m args below meth c H locs cells slots Q (F0 m pc ls st0) := by
  intro T hT X
  rcases hr T hT X with ⟨v, st₀, t, T', L, h0, X', hL, e1, e2, ⟨⟨r, u, hv, hp, hb⟩, hF⟩, st⟩ | ⟨q, st₀, t, T', L, E, ce, h0, X', hL, e1, e2, ⟨u, hp, hb, hF⟩, hce, hcv, hcl, st⟩
  · cases hv
    obtain ⟨k1, k2, k3⟩ := vx_keep h0 e1 hS hA hf hL hF
    obtain ⟨t2, a1, b1⟩ := kk r u t T'.heap (locs ++ L) e1.symm (by rw [← e2]; exact X'.warmed.alike) hp hb k1 k2 k3 T' rfl X'
    exact ⟨t2, st t2 a1, b1⟩
  · obtain ⟨k1, k2, k3⟩ := vx_keep h0 e1 hS hAX hf hL hF
    obtain ⟨t2, a1, b1⟩ := kx E ce q u t T'.heap (locs ++ L) e1.symm (by rw [← e2]; exact X'.warmed.alike) hp hb k1 k2 k3 (by rw [e1]; exact hce) hcv hcl T' rfl X'
    exact ⟨t2, st.trans a1, b1⟩
theorem vx_calll {S SX : Type} {post : Int64 → S → Prop} {px : SX → Prop} {B : S → State → Prop} {BX : String → SX → State → Prop} {AX : Nat → Prop} (hr : vx_Run p l e R s m args below meth c H locs cells slots mc ms (F0 m pc ls st0) rest (va_Ql post B A1 a) (vx_X px BX AX) free) (hS : va_S A0 H0 H locs) (hA : ∀ q, q < H.size → A1 q → A0 q) (hf : ∀ q, free q → A0 q) (hAX : ∀ q, q < H.size → AX q → A0 q)
    (kx : ∀ (E : String) (ce : Cell) (q9 : Addr) (u : SX) (t : State) (H1 : Heap) (locs1 : List Loc), t.heap = H1 → s.vm.Alike t.vm → px u → BX E u t → H.size ≤ H1.size → (∀ q : Nat, q < H.size → ¬ AX q → H1[q]? = H[q]?) → va_S A0 H0 H1 locs1 → H1[q9]? = some ce → ce.vm = .none → s.vm.findClass E = some ce.cls → vx_W p l e R s m args below meth c H1 locs1 (cells + mc) (slots + ms) Q (F0 m pc ls rest) q9)
    (kk : ∀ (r : Int64) (u : S) (t : State) (H1 : Heap) (locs1 : List Loc), t.heap = H1 → s.vm.Alike t.vm → post r u → B u t → H.size ≤ H1.size → (∀ q : Nat, q < H.size → ¬ A1 q → H1[q]? = H[q]?) → va_S A0 H0 H1 locs1 → W p l e R s m args below meth c H1 locs1 (cells + mc) (slots + ms) Q (F0 m (pc + 3) ls (.long r :: rest))) : W p l e R s m args below meth c H locs cells slots Q (F0 m pc ls st0) := by
  intro T hT X
  rcases hr T hT X with ⟨v, st₀, t, T', L, h0, X', hL, e1, e2, ⟨⟨r, u, hv, hp, hb⟩, hF⟩, st⟩ | ⟨q, st₀, t, T', L, E, ce, h0, X', hL, e1, e2, ⟨u, hp, hb, hF⟩, hce, hcv, hcl, st⟩
  · cases hv
    obtain ⟨k1, k2, k3⟩ := vx_keep h0 e1 hS hA hf hL hF
    obtain ⟨t2, a1, b1⟩ := kk r u t T'.heap (locs ++ L) e1.symm (by rw [← e2]; exact X'.warmed.alike) hp hb k1 k2 k3 T' rfl X'
    exact ⟨t2, st t2 a1, b1⟩
  · obtain ⟨k1, k2, k3⟩ := vx_keep h0 e1 hS hAX hf hL hF
    obtain ⟨t2, a1, b1⟩ := kx E ce q u t T'.heap (locs ++ L) e1.symm (by rw [← e2]; exact X'.warmed.alike) hp hb k1 k2 k3 (by rw [e1]; exact hce) hcv hcl T' rfl X'
    exact ⟨t2, st.trans a1, b1⟩
theorem vx_callf {S SX : Type} {post : UInt32 → S → Prop} {px : SX → Prop} {B : S → State → Prop} {BX : String → SX → State → Prop} {AX : Nat → Prop} (hr : vx_Run p l e R s m args below meth c H locs cells slots mc ms (F0 m pc ls st0) rest (va_Qf post B A1 a) (vx_X px BX AX) free) (hS : va_S A0 H0 H locs) (hA : ∀ q, q < H.size → A1 q → A0 q) (hf : ∀ q, free q → A0 q) (hAX : ∀ q, q < H.size → AX q → A0 q)
    (kx : ∀ (E : String) (ce : Cell) (q9 : Addr) (u : SX) (t : State) (H1 : Heap) (locs1 : List Loc), t.heap = H1 → s.vm.Alike t.vm → px u → BX E u t → H.size ≤ H1.size → (∀ q : Nat, q < H.size → ¬ AX q → H1[q]? = H[q]?) → va_S A0 H0 H1 locs1 → H1[q9]? = some ce → ce.vm = .none → s.vm.findClass E = some ce.cls → vx_W p l e R s m args below meth c H1 locs1 (cells + mc) (slots + ms) Q (F0 m pc ls rest) q9)
    (kk : ∀ (r : UInt32) (u : S) (t : State) (H1 : Heap) (locs1 : List Loc), t.heap = H1 → s.vm.Alike t.vm → post r u → B u t → H.size ≤ H1.size → (∀ q : Nat, q < H.size → ¬ A1 q → H1[q]? = H[q]?) → va_S A0 H0 H1 locs1 → W p l e R s m args below meth c H1 locs1 (cells + mc) (slots + ms) Q (F0 m (pc + 3) ls (.float r :: rest))) : W p l e R s m args below meth c H locs cells slots Q (F0 m pc ls st0) := by
  intro T hT X
  rcases hr T hT X with ⟨v, st₀, t, T', L, h0, X', hL, e1, e2, ⟨⟨r, u, hv, hp, hb⟩, hF⟩, st⟩ | ⟨q, st₀, t, T', L, E, ce, h0, X', hL, e1, e2, ⟨u, hp, hb, hF⟩, hce, hcv, hcl, st⟩
  · cases hv
    obtain ⟨k1, k2, k3⟩ := vx_keep h0 e1 hS hA hf hL hF
    obtain ⟨t2, a1, b1⟩ := kk r u t T'.heap (locs ++ L) e1.symm (by rw [← e2]; exact X'.warmed.alike) hp hb k1 k2 k3 T' rfl X'
    exact ⟨t2, st t2 a1, b1⟩
  · obtain ⟨k1, k2, k3⟩ := vx_keep h0 e1 hS hAX hf hL hF
    obtain ⟨t2, a1, b1⟩ := kx E ce q u t T'.heap (locs ++ L) e1.symm (by rw [← e2]; exact X'.warmed.alike) hp hb k1 k2 k3 (by rw [e1]; exact hce) hcv hcl T' rfl X'
    exact ⟨t2, st.trans a1, b1⟩
theorem vx_calld {S SX : Type} {post : UInt64 → S → Prop} {px : SX → Prop} {B : S → State → Prop} {BX : String → SX → State → Prop} {AX : Nat → Prop} (hr : vx_Run p l e R s m args below meth c H locs cells slots mc ms (F0 m pc ls st0) rest (va_Qd post B A1 a) (vx_X px BX AX) free) (hS : va_S A0 H0 H locs) (hA : ∀ q, q < H.size → A1 q → A0 q) (hf : ∀ q, free q → A0 q) (hAX : ∀ q, q < H.size → AX q → A0 q)
    (kx : ∀ (E : String) (ce : Cell) (q9 : Addr) (u : SX) (t : State) (H1 : Heap) (locs1 : List Loc), t.heap = H1 → s.vm.Alike t.vm → px u → BX E u t → H.size ≤ H1.size → (∀ q : Nat, q < H.size → ¬ AX q → H1[q]? = H[q]?) → va_S A0 H0 H1 locs1 → H1[q9]? = some ce → ce.vm = .none → s.vm.findClass E = some ce.cls → vx_W p l e R s m args below meth c H1 locs1 (cells + mc) (slots + ms) Q (F0 m pc ls rest) q9)
    (kk : ∀ (r : UInt64) (u : S) (t : State) (H1 : Heap) (locs1 : List Loc), t.heap = H1 → s.vm.Alike t.vm → post r u → B u t → H.size ≤ H1.size → (∀ q : Nat, q < H.size → ¬ A1 q → H1[q]? = H[q]?) → va_S A0 H0 H1 locs1 → W p l e R s m args below meth c H1 locs1 (cells + mc) (slots + ms) Q (F0 m (pc + 3) ls (.double r :: rest))) : W p l e R s m args below meth c H locs cells slots Q (F0 m pc ls st0) := by
  intro T hT X
  rcases hr T hT X with ⟨v, st₀, t, T', L, h0, X', hL, e1, e2, ⟨⟨r, u, hv, hp, hb⟩, hF⟩, st⟩ | ⟨q, st₀, t, T', L, E, ce, h0, X', hL, e1, e2, ⟨u, hp, hb, hF⟩, hce, hcv, hcl, st⟩
  · cases hv
    obtain ⟨k1, k2, k3⟩ := vx_keep h0 e1 hS hA hf hL hF
    obtain ⟨t2, a1, b1⟩ := kk r u t T'.heap (locs ++ L) e1.symm (by rw [← e2]; exact X'.warmed.alike) hp hb k1 k2 k3 T' rfl X'
    exact ⟨t2, st t2 a1, b1⟩
  · obtain ⟨k1, k2, k3⟩ := vx_keep h0 e1 hS hAX hf hL hF
    obtain ⟨t2, a1, b1⟩ := kx E ce q u t T'.heap (locs ++ L) e1.symm (by rw [← e2]; exact X'.warmed.alike) hp hb k1 k2 k3 (by rw [e1]; exact hce) hcv hcl T' rfl X'
    exact ⟨t2, st.trans a1, b1⟩
theorem vx_callv {S SX : Type} {post : S → Prop} {px : SX → Prop} {B : S → State → Prop} {BX : String → SX → State → Prop} {AX : Nat → Prop} (hr : vx_Run p l e R s m args below meth c H locs cells slots mc ms (F0 m pc ls st0) rest (va_Qv post B A1 a) (vx_X px BX AX) free) (hS : va_S A0 H0 H locs) (hA : ∀ q, q < H.size → A1 q → A0 q) (hf : ∀ q, free q → A0 q) (hAX : ∀ q, q < H.size → AX q → A0 q)
    (kx : ∀ (E : String) (ce : Cell) (q9 : Addr) (u : SX) (t : State) (H1 : Heap) (locs1 : List Loc), t.heap = H1 → s.vm.Alike t.vm → px u → BX E u t → H.size ≤ H1.size → (∀ q : Nat, q < H.size → ¬ AX q → H1[q]? = H[q]?) → va_S A0 H0 H1 locs1 → H1[q9]? = some ce → ce.vm = .none → s.vm.findClass E = some ce.cls → vx_W p l e R s m args below meth c H1 locs1 (cells + mc) (slots + ms) Q (F0 m pc ls rest) q9)
    (kk : ∀ (u : S) (t : State) (H1 : Heap) (locs1 : List Loc), t.heap = H1 → s.vm.Alike t.vm → post u → B u t → H.size ≤ H1.size → (∀ q : Nat, q < H.size → ¬ A1 q → H1[q]? = H[q]?) → va_S A0 H0 H1 locs1 → W p l e R s m args below meth c H1 locs1 (cells + mc) (slots + ms) Q (F0 m (pc + 3) ls (rest))) : W p l e R s m args below meth c H locs cells slots Q (F0 m pc ls st0) := by
  intro T hT X
  rcases hr T hT X with ⟨v, st₀, t, T', L, h0, X', hL, e1, e2, ⟨⟨u, hv, hp, hb⟩, hF⟩, st⟩ | ⟨q, st₀, t, T', L, E, ce, h0, X', hL, e1, e2, ⟨u, hp, hb, hF⟩, hce, hcv, hcl, st⟩
  · cases hv
    obtain ⟨k1, k2, k3⟩ := vx_keep h0 e1 hS hA hf hL hF
    obtain ⟨t2, a1, b1⟩ := kk u t T'.heap (locs ++ L) e1.symm (by rw [← e2]; exact X'.warmed.alike) hp hb k1 k2 k3 T' rfl X'
    exact ⟨t2, st t2 a1, b1⟩
  · obtain ⟨k1, k2, k3⟩ := vx_keep h0 e1 hS hAX hf hL hF
    obtain ⟨t2, a1, b1⟩ := kx E ce q u t T'.heap (locs ++ L) e1.symm (by rw [← e2]; exact X'.warmed.alike) hp hb k1 k2 k3 (by rw [e1]; exact hce) hcv hcl T' rfl X'
    exact ⟨t2, st.trans a1, b1⟩
end Rows
section Ends
variable {p : Program} {l : Launch} {e : Env} {R : Room} {s : State} {m : MethodId} {args : Array Value} {below : List Frame} {meth : Method} {c : Code} {H : Heap} {locs : List Loc} {cells slots : Nat} {Q : State → Prop}
variable {mc ms : Nat} {free : Addr → Prop} {A0 A1 : Nat → Prop} {H0 : Heap} {a : Array Value} {ls : Array Slot} {st0 rest : List Value}
variable {Qc : Array Value → State → Outcome → State → Prop} {XC : String → State → State → Prop}
/-- what a body that may throw owes at its end -/
def vx_MQ (below : List Frame) (Qc : Array Value → State → Outcome → State → Prop) (XC : String → State → State → Prop) (a : Array Value) (s : State) (mc ms : Nat) (free : Addr → Prop) : State → Prop := fun t =>
  ∃ o, t.status = .running ∧ Ended t below o ∧ vx_Q Qc XC mc ms free a s o t
theorem vx_ret {g : JFrame} {mc ms : Nat} (k : W p l e R s m args below meth c H locs cells slots (MQ below Qc args s mc ms free) g) : W p l e R s m args below meth c H locs cells slots (vx_MQ below Qc XC args s mc ms free) g := by
  intro T hT X
  obtain ⟨t, a1, o, b1, b2, b3, b4⟩ := k T hT X
  exact ⟨t, a1, o, b1, b2, Or.inl ⟨b3, b4⟩⟩
/-- not caught here: it goes on to the caller -/
theorem vx_widen {g : JFrame} {q : Addr} {k n : Nat} (h1 : cells ≤ k) (h2 : slots ≤ n) (kk : vx_W p l e R s m args below meth c H locs k n Q g q) : vx_W p l e R s m args below meth c H locs cells slots Q g q := fun T hT X => kk T hT (stand_widen X h1 h2)
theorem vx_out {pc : Nat} {E : String} {ce : Cell} {q : Addr} {mc ms : Nat} (hout : ∀ x ∈ c.exceptionTable.toList, covers x pc = false) (hlocks : meth.locks = false) (hcell : H[q]? = some ce) (hv : ce.vm = .none) (hcl : s.vm.findClass E = some ce.cls)
    (hx : ∀ t : State, t.heap = H → s.vm.Alike t.vm → XC E s t) (hf : ∀ z ∈ locs, free z.base) (hc : cells ≤ mc) (hs : slots ≤ ms) :
    vx_W p l e R s m args below meth c H locs cells slots (vx_MQ below Qc XC args s mc ms free) (F0 m pc ls rest) q := by
  intro T hT X
  obtain ⟨st1, hrun, hend, hW, hsm⟩ := X.leaveThrown q (g := F0 m pc ls rest) rfl rfl rfl hout hlocks
  have hcell9 : (T.setFrames (.throwing q :: below)).heap[q]? = some ce := by
    show T.heap[q]? = some ce
    rw [hT]; exact hcell
  exact ⟨_, st1, .threw q, hrun, hend, Or.inr ⟨q, rfl, E, ce, locs, hx _ hT hW.alike, hcell9, hv, hcl, hW, hsm.mono hc hs, hf⟩⟩
theorem vx_frame {U : State} {k n : Nat} (h : s.sameButNew ({ U with vm := s.vm } : State) locs k n) : s.heap.size ≤ U.heap.size ∧ ∀ q : Nat, q < s.heap.size → (∀ z ∈ locs, z.base ≠ q) → U.heap[q]? = s.heap[q]? := by
  obtain ⟨-, h2, -, -, -, h6⟩ := h
  refine ⟨h2, fun q hq hz => ?_⟩
  obtain ⟨c9, e1, e2, e3, e4⟩ := h6 q _ (Array.getElem?_eq_getElem hq)
  have hs : c9.slots = (s.heap[q]).slots := Array.ext_getElem? fun i => e4 i fun hm => hz _ hm rfl
  have h9 : c9 = s.heap[q] := by
    rw [hs] at e2
    exact e2
  have e5 : U.heap[q]? = some c9 := e1
  rw [e5, h9, Array.getElem?_eq_getElem hq]
/-- the words of a throw but the four that speak of the heap -/
def vx_no (w : Cond) : Bool := decide (w ≠ .isRef (.static Bundle.tN "UNASSIGNED_STACK" Bundle.steD)) && decide (w ≠ .isRef (.static Bundle.tN "SUPPRESSED_SENTINEL" Bundle.listD)) && decide (w ≠ .laysStatic Bundle.tN "UNASSIGNED_STACK" Bundle.steD) && decide (w ≠ .laysStatic Bundle.tN "SUPPRESSED_SENTINEL" Bundle.listD)
def vx_at0 (own : String) (ic : Nat) (X : String) (names : List String) : List Cond := (Bundle.ownAtoms0 own ic X names).filter vx_no
def vx_atS (own : String) (ic : Nat) (X : String) (names : List String) : List Cond := (Bundle.ownAtoms own ic X names).filter vx_no
/-- a word that the tables alone decide, or a good one -/
def vx_ot (w : Cond) : Bool := w.onTables || goodWord w
theorem vx_ot_at {args a' : Array Value} {s U : State} {w : Cond} (hW : s.WarmedH U.vm) (hvm : s.vm = U.vm) (hg : vx_ot w = true) (h : w.before args s = true) : w.before a' U = true := by
  simp only [vx_ot, Bool.or_eq_true] at hg
  rcases hg with hg | hg
  · exact va_tabs hg hvm h
  · exact word_at hW (good_of_word hg) h
/-- a list's words: the good ones out of the method's own list, the others by premises of their own -/
theorem vx_hat {args : Array Value} {s : State} {L B : List Cond} (h1 : ∀ w ∈ L.filter goodWord, w.before args s = true) (h2 : ∀ w ∈ L.filter (fun w => !goodWord w), w ∈ B) (h3 : ∀ w ∈ B, w.before args s = true) : ∀ w ∈ L, w.before args s = true := by
  intro w hw
  by_cases g : goodWord w = true
  · exact h1 w (List.mem_filter.mpr ⟨hw, g⟩)
  · refine h3 w (h2 w (List.mem_filter.mpr ⟨hw, ?_⟩))
    show (!goodWord w) = true
    cases hgw : goodWord w
    · rfl
    · exact absurd hgw g
theorem vx_c {args : Array Value} {s : State} {w : Cond} {B : List Cond} (h : w.before args s = true) (t : ∀ w ∈ B, w.before args s = true) : ∀ w' ∈ w :: B, w'.before args s = true := fun w' h' => (List.mem_cons.mp h').elim (fun e => by rw [e]; exact h) (t w')
theorem vx_n {args : Array Value} {s : State} : ∀ w ∈ ([] : List Cond), w.before args s = true := fun _ h => nomatch h
theorem vx_own {args : Array Value} {s : State} {L : List Cond} (h1 : ∀ w ∈ L.filter vx_no, w.before args s = true)
    (hU : (Cond.isRef (.static Bundle.tN "UNASSIGNED_STACK" Bundle.steD)).before args s = true) (hN : (Cond.isRef (.static Bundle.tN "SUPPRESSED_SENTINEL" Bundle.listD)).before args s = true)
    (lU : (Cond.laysStatic Bundle.tN "UNASSIGNED_STACK" Bundle.steD).before args s = true) (lN : (Cond.laysStatic Bundle.tN "SUPPRESSED_SENTINEL" Bundle.listD).before args s = true) : ∀ w ∈ L, w.before args s = true := by
  intro w hw
  by_cases e1 : w = .isRef (.static Bundle.tN "UNASSIGNED_STACK" Bundle.steD)
  · rw [e1]; exact hU
  · by_cases e2 : w = .isRef (.static Bundle.tN "SUPPRESSED_SENTINEL" Bundle.listD)
    · rw [e2]; exact hN
    · by_cases e3 : w = .laysStatic Bundle.tN "UNASSIGNED_STACK" Bundle.steD
      · rw [e3]; exact lU
      · by_cases e4 : w = .laysStatic Bundle.tN "SUPPRESSED_SENTINEL" Bundle.listD
        · rw [e4]; exact lN
        · exact h1 w (List.mem_filter.mpr ⟨hw, by unfold vx_no; rw [decide_eq_true e1, decide_eq_true e2, decide_eq_true e3, decide_eq_true e4]; rfl⟩)
/-- where a static field lies, its class's statics cell in H -/
def vx_L (C n d : String) (A : Nat → Prop) (U : State) (H : Heap) : Prop := ∃ (c : ClassId) (k : Class) (i : Nat) (f : Field) (a : Nat) (cell : Cell), U.vm.findClass C = some c ∧ U.fieldFound? C n d = some (c, k, i, f) ∧ f.isStatic = true ∧ k.statics = some a ∧ H[a]? = some cell ∧ cell.vm.isStatics = true ∧ cell.cls = c ∧ f.slot < cell.slots.size ∧ k.staticTypes[f.slot]? = some f.type ∧ ¬ A a
theorem vx_L.moved {C n d : String} {A : Nat → Prop} {u U : State} {H : Heap} (hvm : u.vm.Alike U.vm) (h : vx_L C n d A u H) : vx_L C n d A U H := by
  obtain ⟨c, k, i, f, a, cell, h1, h2, h3, h4, h5, h6, h7, h8, h9, h10⟩ := h
  obtain ⟨k', hi', he⟩ := State.fieldFound?_setVm hvm h2
  exact ⟨c, k', i, f, a, cell, by rw [hvm.findClass]; exact h1, hi', h3, by rw [he]; exact h4, h5, h6, h7, h8, by rw [he]; exact h9, h10⟩
theorem vx_L.kept {C n d : String} {A : Nat → Prop} {U : State} {H H1 : Heap} (h : vx_L C n d A U H) (hq : ∀ a : Nat, a < H.size → ¬ A a → H1[a]? = H[a]?) : vx_L C n d A U H1 := by
  obtain ⟨c, k, i, f, a, cell, h1, h2, h3, h4, h5, h6, h7, h8, h9, h10⟩ := h
  exact ⟨c, k, i, f, a, cell, h1, h2, h3, h4, by rw [hq a (Array.getElem?_eq_some_iff.mp h5).1 h10]; exact h5, h6, h7, h8, h9, h10⟩
theorem vx_L.narrow {C n d : String} {A B : Nat → Prop} {U : State} {H : Heap} (h : vx_L C n d A U H) (hAB : ∀ q, B q → A q) : vx_L C n d B U H := by
  obtain ⟨c, k, i, f, a, cell, h1, h2, h3, h4, h5, h6, h7, h8, h9, h10⟩ := h
  exact ⟨c, k, i, f, a, cell, h1, h2, h3, h4, h5, h6, h7, h8, h9, fun z => h10 (hAB _ z)⟩
theorem vx_L.word {C n d : String} {A : Nat → Prop} {s : State} {args : Array Value} (h : vx_L C n d A s s.heap) : (Cond.laysStatic C n d).before args s = true := by
  obtain ⟨c, k, i, f, a, cell, h1, h2, h3, h4, h5, h6, h7, h8, h9, -⟩ := h
  show (Cond.laysStatic C n d).holds args s none s [] = true
  exact Cond.laysStatic_of h1 h2 h3 h4 h5 h6 h7 h8 h9
/-- .. and what it holds: null or some reference -/
def vx_Zq (C n d : String) (A : Nat → Prop) (U : State) (H : Heap) : Prop := va_Zq C n d A U H ∧ vx_L C n d A U H
theorem vx_Zq.moved {C n d : String} {A : Nat → Prop} {u U : State} {H : Heap} (hvm : u.vm.Alike U.vm) (h : vx_Zq C n d A u H) : vx_Zq C n d A U H := ⟨va_Zq.moved hvm h.1, vx_L.moved hvm h.2⟩
theorem vx_Zq.kept {C n d : String} {A : Nat → Prop} {U : State} {H H1 : Heap} (h : vx_Zq C n d A U H) (hq : ∀ a : Nat, a < H.size → ¬ A a → H1[a]? = H[a]?) : vx_Zq C n d A U H1 := ⟨va_Zq.kept h.1 hq, vx_L.kept h.2 hq⟩
theorem vx_Zq.narrow {C n d : String} {A B : Nat → Prop} {U : State} {H : Heap} (h : vx_Zq C n d A U H) (hAB : ∀ q, B q → A q) : vx_Zq C n d B U H := ⟨va_Zq.narrow h.1 hAB, vx_L.narrow h.2 hAB⟩
theorem vx_Zqof {args : Array Value} {s : State} {C n d : String} {A : Nat → Prop} (hl : (Cond.laysStatic C n d).before args s = true) (hini : (Cond.initialized C).before args s = true) (h : (Cond.isRef (.static C n d)).before args s = true) (hA : ∀ a : Nat, a < s.heap.size → ¬ A a) : vx_Zq C n d A s s.heap := by
  refine ⟨va_Zqof hl hini h hA, ?_⟩
  obtain ⟨c, k, i, f, a, cell, h1, h2, h3, h4, h5, h6, h7, h8, h9⟩ := Cond.laysStatic_spec hl
  exact ⟨c, k, i, f, a, cell, h1, h2, h3, h4, h5, h6, h7, h8, h9, hA a (Array.getElem?_eq_some_iff.mp h5).1⟩
theorem vx_isRef {C n d : String} {v : Value} {A : Nat → Prop} {s : State} {args : Array Value} (h : va_Z C n d v A s s.heap) (hv : v.isRef = true) : (Cond.isRef (.static C n d)).before args s = true := by
  obtain ⟨cf, kf, fi, f, a, cell, h1, h2, h3, h4, h5, h6, h7, -⟩ := h
  have he : (Term.static C n d).eval args s none [] s = some v := by
    simp [Term.eval, State.fieldNamed?, h1, h2, h4, h5, h6, h7]
  simp only [Cond.before, Cond.holds, Cond.value, he]
  cases v <;> simp_all [Value.isRef]
theorem vx_isRefq {C n d : String} {A : Nat → Prop} {s : State} {args : Array Value} (h : va_Zq C n d A s s.heap) : (Cond.isRef (.static C n d)).before args s = true := by
  rcases h with h | ⟨t, h⟩
  · exact vx_isRef h rfl
  · exact vx_isRef h rfl
/-- the same frame, seen from here: as if the method were called anew in this heap -/
theorem vx_rebase {T : State} (X : Stand p l e R s m args below meth c T locs cells slots) {R' : Room} (hf : R'.frames ≤ R.frames) (hl : R'.locals ≤ R.locals) (hc : cells + R'.cells ≤ R.cells) (hs : slots + R'.slots ≤ R.slots) :
    Stand p l e R' ((T.setVm s.vm).setFrames (.invoking m args :: below)) m args below meth c T [] 0 0 := by
  have htop : (T.setVm s.vm).topJava?.isSome := X.here.top
  have hF : ((T.setVm s.vm).setFrames (.invoking m args :: below)).frames = .invoking m args :: below := State.frames_setFrames _ (State.cur_lt_of_top htop)
  obtain ⟨g₀, hg0⟩ := Option.isSome_iff_exists.mp htop
  obtain ⟨r, hr⟩ := State.topJava?_eq_some.mp hg0
  have hl9 : e.platform.stackLimits (T.setVm s.vm).me = e.platform.stackLimits s.me := X.limits
  have hb9 : (T.setVm s.vm).me.stackBytes = s.me.stackBytes := X.bytes
  refine ⟨X.admits, X.cas, X.clock, hF, ?_, X.hears, X.method, X.code, X.here, X.tail, X.warmed, ?_, ?_, ?_⟩
  · have h := X.room
    have hU : ((T.setVm s.vm).setFrames (.invoking m args :: below)).localsInUse = s.localsInUse := by
      rw [State.localsInUse_invoking hF (meth := meth) (c := c) X.method X.code, State.localsInUse_invoking X.frames X.method X.code]
    simp only [State.hasRoom, Bool.and_eq_true, decide_eq_true_eq] at h ⊢
    obtain ⟨⟨⟨⟨h1, h2, h3, h4, h5, h6⟩, h7⟩, h8⟩, h9⟩ := h
    rw [X.frames, List.length_cons] at h2 h3
    have q1 := X.heapSize
    have q2 := X.used
    simp only [hF, hU, List.length_cons, State.stackLimits_setFrames, State.stackBytes_setFrames, hl9, hb9]
    refine ⟨⟨⟨⟨by omega, by omega, by omega, by omega, by omega, h6⟩, ?_⟩, ?_⟩, X.book⟩
    · show T.heap.size + R'.cells ≤ e.platform.maxCells
      omega
    · show T.slotsUsed + R'.slots ≤ e.platform.maxSlots
      omega
  · rw [State.stackLimits_setFrames]; rfl
  · rw [State.stackBytes_setFrames]; rfl
  · refine ⟨?_, Nat.le_refl _, Nat.le_refl _, ?_, ?_, fun a c9 h9 => ⟨c9, h9, rfl, rfl, fun _ _ => rfl⟩⟩
    · obtain ⟨t, ht, -⟩ := State.frames_cons hr
      show T.setVm s.vm = { ((T.setVm s.vm).setFrames (.invoking m args :: below)).setFrames (T.setVm s.vm).frames with heap := T.heap, slotsUsed := T.slotsUsed }
      rw [State.setFrames_setFrames, State.setFrames_self ht]
      rfl
    · show T.slotsUsed = T.slotsUsed + ((T.heap.toList.drop T.heap.size).map (·.slots.size)).sum
      rw [List.drop_eq_nil_of_le (Nat.le_of_eq Array.length_toList)]
      rfl
    · show ((T.heap.toList.drop T.heap.size).map (·.slots.size)).sum ≤ 0
      rw [List.drop_eq_nil_of_le (Nat.le_of_eq Array.length_toList)]
      exact Nat.le_refl _
/-- 'throw new E()': new; dup; invokespecial; athrow -/
theorem vx_throw0 {cc : ByteArray} {pc : Nat} (hexec : p.tables.exec = Jvm.exec) (hb : c.code = cc) (hl : l.stackTraces = false) {own cls : String} {names : List String} {ik ic mc ms : Nat} {A : Nat → Prop}
    (hown : s.vm.findClass own = some m.cls) (hcls : Bundle.fit cls = true) (hnames : ∀ n ∈ names, Bundle.fit n = true)
    (hk : (Cond.classLink own ik cls).before args s = true) (hini : (Cond.initialized cls).before args s = true) (hat : ∀ w ∈ vx_at0 own ic cls names, w.before args s = true)
    (hgood : ∀ w ∈ Cond.classLink own ik cls :: Cond.initialized cls :: vx_at0 own ic cls names, vx_ot w = true)
    (hU : vx_Zq Bundle.tN "UNASSIGNED_STACK" Bundle.steD A s s.heap) (hN : vx_Zq Bundle.tN "SUPPRESSED_SENTINEL" Bundle.listD A s s.heap) (hS : va_S A s.heap H locs) (hsize : ls.size = c.maxLocals)
    (d0 : decode cc pc = .ok (.new ik, 3)) (d3 : decode cc (pc + 3) = .ok (.dup, 1)) (d4 : decode cc (pc + 4) = .ok (.invokespecial ic, 3)) (d7 : decode cc (pc + 7) = .ok (.athrow, 1))
    (hout : ∀ x ∈ c.exceptionTable.toList, covers x (pc + 7) = false)
    (hRframes : names.length + 3 < R.frames) (hRlocals : (rest.map fun v => v.category).sum + (13 * (names.length + 1) + 42) ≤ R.locals) (hRcells : cells + 1 ≤ R.cells) (hRslots : slots + 6 ≤ R.slots) (hlocks : meth.locks = false)
    (hx : ∀ t : State, s.vm.Alike t.vm → H.size ≤ t.heap.size → (∀ q : Nat, q < H.size → t.heap[q]? = H[q]?) → XC cls s t)
    (hf : ∀ z ∈ locs, free z.base) (hc : cells + 1 ≤ mc) (hs : slots + 6 ≤ ms) :
    W p l e R s m args below meth c H locs cells slots (vx_MQ below Qc XC args s mc ms free) (F0 m pc ls rest) := by
  intro T hT X
  have htr : e.platform.stackTraces = false := (show e.platform.stackTraces = l.stackTraces by rw [X.admits.platform]).trans hl
  have Y := vx_rebase X (R' := { frames := R.frames, locals := R.locals, cells := 1, slots := 6 }) (Nat.le_refl _) (Nat.le_refl _) hRcells hRslots
  obtain ⟨s', hA⟩ : ∃ z, z = (T.setVm s.vm).setFrames (.invoking m args :: below) := ⟨_, rfl⟩
  rw [← hA] at Y
  have hvm : s'.vm = s.vm := by rw [hA]; rfl
  have hhp : s'.heap = H := by rw [hA]; exact hT
  have hW0 : s.WarmedH s'.vm := by rw [hvm]; exact State.WarmedH.refl s
  have hat' : ∀ w ∈ vx_at0 own ic cls names, w.before args s' = true := fun w hw => vx_ot_at hW0 hvm.symm (hgood w (List.mem_cons_of_mem _ (List.mem_cons_of_mem _ hw))) (hat w hw)
  have hk' : (Cond.classLink own ik cls).before args s' = true := vx_ot_at hW0 hvm.symm (hgood _ List.mem_cons_self) hk
  have hini' : (Cond.initialized cls).before args s' = true := vx_ot_at hW0 hvm.symm (hgood _ (List.mem_cons_of_mem _ List.mem_cons_self)) hini
  have hU' : vx_Zq Bundle.tN "UNASSIGNED_STACK" Bundle.steD A s' s'.heap := by rw [hhp]; exact vx_Zq.moved hW0.alike (hU.kept hS.2.1)
  have hN' : vx_Zq Bundle.tN "SUPPRESSED_SENTINEL" Bundle.listD A s' s'.heap := by rw [hhp]; exact vx_Zq.moved hW0.alike (hN.kept hS.2.1)
  have h : ∀ w ∈ Bundle.ownAtoms0 own ic cls names, w.before args s' = true := vx_own hat' (vx_isRefq hU'.1) (vx_isRefq hN'.1) hU'.2.word hN'.2.word
  have hown' : s'.vm.findClass own = some m.cls := by rw [hvm]; exact hown
  have hins : (Cond.instantiable cls 6).before args s' = true := h _ (by simp [Bundle.ownAtoms0])
  obtain ⟨vm₁, cX, kX, hfX, hkX, -, -, X₁, st1⟩ := Y.newCold hexec (own := own) (C := cls) (index := ik) (n := 6) hown' hk' hins hini'
    (g := F0 m pc ls rest) rfl (by rw [hb]; exact d0) (Nat.le_refl _) (Nat.le_refl _)
  generalize hT1 : (T.setVm vm₁).pushCell { cls := cX, slots := kX.instanceTypes.map defaultValue, vm := .none } = T1 at X₁ st1
  have hcat : (Value.ref T.heap.size).category = 1 := rfl
  have hcellA : T1.heap[T.heap.size]? = some (freshCell cX kX) := by rw [← hT1]; exact State.heap_pushCell_size _ _
  have d3' : decode c.code (pc + 3) = .ok (.dup, 1) := by rw [hb]; exact d3
  obtain ⟨U, hsteps, hrun, hend, hW, hsame, ce, hce, hO⟩ := X₁.ctorThrow0 hexec htr (own := own) (cls := cls) (names := names) (ic := ic) hown' hcls hnames h (fun x hx => nomatch hx) hfX hkX hcellA (by rw [hhp, hT]; exact Nat.le_refl _)
    (g := { method := m, pc := pc + 4, locals := ls, stack := .ref T.heap.size :: .ref T.heap.size :: rest, locked := none }) rfl hsize rfl rfl (rest := rest) rfl
    (by rw [hb]; exact d4) (by rw [hb]; exact d7) hout hRframes (by simp only [List.map_cons, List.sum_cons, hcat]; omega) hlocks
  obtain ⟨f1, f2⟩ := vx_frame hsame
  rw [hhp] at f1 f2
  have hWs : s.WarmedH U.vm := State.WarmedH.trans hW0 hW
  have hcl : s.vm.findClass cls = some ce.cls := by
    have h9 := hO.cls
    rw [hvm] at h9
    exact h9
  have hall : s.sameButNew ({ U with vm := s.vm } : State) locs mc ms := by
    subst hA
    obtain ⟨e1, e2⟩ := hsame
    rw [State.setFrames_setFrames] at e1
    have h2 : (T.setVm s.vm).sameButNew ({ U with vm := s.vm } : State) [] (0 + 1) (0 + 6) := ⟨e1, e2⟩
    have h3 := X.same.trans h2
    rw [List.append_nil] at h3
    exact h3.mono hc hs
  refine ⟨U, ?_, .threw T.heap.size, hrun, hend, Or.inr ⟨T.heap.size, rfl, cls, ce, locs, hx U hWs.alike f1 (fun q hq => f2 q hq (fun z hz => nomatch hz)), hce, hO.vm, hcl, hWs, hall, hf⟩⟩
  refine st1 _ ?_
  show Steps p.tables e below (T1.setTop { method := m, pc := pc + 3, locals := ls, stack := .ref T.heap.size :: rest, locked := none }) _
  jvm_step X₁.here [X₁.here.top, hexec, d3', Value.category]
  exact hsteps
/-- 'throw new E("text")': new; dup; ldc; invokespecial; athrow -/
theorem vx_throwS {cc : ByteArray} {pc : Nat} (hexec : p.tables.exec = Jvm.exec) (hb : c.code = cc) (hl : l.stackTraces = false) {own cls text : String} {names : List String} {ik is ic mc ms sa : Nat} {A : Nat → Prop}
    (hown : s.vm.findClass own = some m.cls) (hcls : Bundle.fit cls = true) (hnames : ∀ n ∈ names, Bundle.fit n = true)
    (hk : (Cond.classLink own ik cls).before args s = true) (hini : (Cond.initialized cls).before args s = true) (hstr : vk_R own is text sa s) (hat : ∀ w ∈ vx_atS own ic cls names, w.before args s = true)
    (hgood : ∀ w ∈ Cond.classLink own ik cls :: Cond.initialized cls :: vx_atS own ic cls names, vx_ot w = true)
    (hU : vx_Zq Bundle.tN "UNASSIGNED_STACK" Bundle.steD A s s.heap) (hN : vx_Zq Bundle.tN "SUPPRESSED_SENTINEL" Bundle.listD A s s.heap) (hS : va_S A s.heap H locs) (hsize : ls.size = c.maxLocals)
    (d0 : decode cc pc = .ok (.new ik, 3)) (d3 : decode cc (pc + 3) = .ok (.dup, 1)) (d4 : decode cc (pc + 4) = .ok (.ldc is, 2)) (d6 : decode cc (pc + 6) = .ok (.invokespecial ic, 3)) (d9 : decode cc (pc + 9) = .ok (.athrow, 1))
    (hout : ∀ x ∈ c.exceptionTable.toList, covers x (pc + 9) = false)
    (hRframes : names.length + 3 < R.frames) (hRlocals : (rest.map fun v => v.category).sum + (13 * (names.length + 1) + 43) ≤ R.locals) (hRcells : cells + 1 ≤ R.cells) (hRslots : slots + 6 ≤ R.slots) (hlocks : meth.locks = false)
    (hx : ∀ t : State, s.vm.Alike t.vm → H.size ≤ t.heap.size → (∀ q : Nat, q < H.size → t.heap[q]? = H[q]?) → XC cls s t)
    (hf : ∀ z ∈ locs, free z.base) (hc : cells + 1 ≤ mc) (hs : slots + 6 ≤ ms) :
    W p l e R s m args below meth c H locs cells slots (vx_MQ below Qc XC args s mc ms free) (F0 m pc ls rest) := by
  intro T hT X
  have htr : e.platform.stackTraces = false := (show e.platform.stackTraces = l.stackTraces by rw [X.admits.platform]).trans hl
  have Y := vx_rebase X (R' := { frames := R.frames, locals := R.locals, cells := 1, slots := 6 }) (Nat.le_refl _) (Nat.le_refl _) hRcells hRslots
  obtain ⟨s', hA⟩ : ∃ z, z = (T.setVm s.vm).setFrames (.invoking m args :: below) := ⟨_, rfl⟩
  rw [← hA] at Y
  have hvm : s'.vm = s.vm := by rw [hA]; rfl
  have hhp : s'.heap = H := by rw [hA]; exact hT
  have hW0 : s.WarmedH s'.vm := by rw [hvm]; exact State.WarmedH.refl s
  have hat' : ∀ w ∈ vx_atS own ic cls names, w.before args s' = true := fun w hw => vx_ot_at hW0 hvm.symm (hgood w (List.mem_cons_of_mem _ (List.mem_cons_of_mem _ hw))) (hat w hw)
  have hk' : (Cond.classLink own ik cls).before args s' = true := vx_ot_at hW0 hvm.symm (hgood _ List.mem_cons_self) hk
  have hini' : (Cond.initialized cls).before args s' = true := vx_ot_at hW0 hvm.symm (hgood _ (List.mem_cons_of_mem _ List.mem_cons_self)) hini
  have hU' : vx_Zq Bundle.tN "UNASSIGNED_STACK" Bundle.steD A s' s'.heap := by rw [hhp]; exact vx_Zq.moved hW0.alike (hU.kept hS.2.1)
  have hN' : vx_Zq Bundle.tN "SUPPRESSED_SENTINEL" Bundle.listD A s' s'.heap := by rw [hhp]; exact vx_Zq.moved hW0.alike (hN.kept hS.2.1)
  have h : ∀ w ∈ Bundle.ownAtoms own ic cls names, w.before args s' = true := vx_own hat' (vx_isRefq hU'.1) (vx_isRefq hN'.1) hU'.2.word hN'.2.word
  have hown' : s'.vm.findClass own = some m.cls := by rw [hvm]; exact hown
  have hins : (Cond.instantiable cls 6).before args s' = true := h _ (by simp [Bundle.ownAtoms])
  obtain ⟨vm₁, cX, kX, hfX, hkX, -, -, X₁, st1⟩ := Y.newCold hexec (own := own) (C := cls) (index := ik) (n := 6) hown' hk' hins hini'
    (g := F0 m pc ls rest) rfl (by rw [hb]; exact d0) (Nat.le_refl _) (Nat.le_refl _)
  generalize hT1 : (T.setVm vm₁).pushCell { cls := cX, slots := kX.instanceTypes.map defaultValue, vm := .none } = T1 at X₁ st1
  have hcat : (Value.ref T.heap.size).category = 1 := rfl
  have hcellA : T1.heap[T.heap.size]? = some (freshCell cX kX) := by rw [← hT1]; exact State.heap_pushCell_size _ _
  have d3' : decode c.code (pc + 3) = .ok (.dup, 1) := by rw [hb]; exact d3
  have d4' : decode c.code (pc + 4) = .ok (.ldc is, 2) := by rw [hb]; exact d4
  have hstr' : vk_R own is text sa s' := vk_R.warm hW0 hstr
  obtain ⟨U, hsteps, hrun, hend, hW, hsame, ce, hce, hO⟩ := X₁.ctorThrowS hexec htr (own := own) (cls := cls) (names := names) (ic := ic) hown' hcls hnames h (fun x hx => nomatch hx) hfX hkX hcellA (by rw [hhp, hT]; exact Nat.le_refl _) (msg := .ref sa) rfl
    (g := { method := m, pc := pc + 6, locals := ls, stack := .ref sa :: .ref T.heap.size :: .ref T.heap.size :: rest, locked := none }) rfl hsize rfl rfl (rest := rest) rfl
    (by rw [hb]; exact d6) (by rw [hb]; exact d9) hout hRframes (by simp only [List.map_cons, List.sum_cons, hcat]; omega) hlocks
  obtain ⟨f1, f2⟩ := vx_frame hsame
  rw [hhp] at f1 f2
  have hWs : s.WarmedH U.vm := State.WarmedH.trans hW0 hW
  have hcl : s.vm.findClass cls = some ce.cls := by
    have h9 := hO.cls
    rw [hvm] at h9
    exact h9
  have hall : s.sameButNew ({ U with vm := s.vm } : State) locs mc ms := by
    subst hA
    obtain ⟨e1, e2⟩ := hsame
    rw [State.setFrames_setFrames] at e1
    have h2 : (T.setVm s.vm).sameButNew ({ U with vm := s.vm } : State) [] (0 + 1) (0 + 6) := ⟨e1, e2⟩
    have h3 := X.same.trans h2
    rw [List.append_nil] at h3
    exact h3.mono hc hs
  refine ⟨U, ?_, .threw T.heap.size, hrun, hend, Or.inr ⟨T.heap.size, rfl, cls, ce, locs, hx U hWs.alike f1 (fun q hq => f2 q hq (fun z hz => nomatch hz)), hce, hO.vm, hcl, hWs, hall, hf⟩⟩
  refine st1 _ ?_
  show Steps p.tables e below (T1.setTop { method := m, pc := pc + 3, locals := ls, stack := .ref T.heap.size :: rest, locked := none }) _
  jvm_step X₁.here [X₁.here.top, hexec, d3', Value.category]
  exact X₁.ldcString hexec (own := own) (text := text) (index := is) (a := sa) hown' hstr'.1 hstr'.2
    (g := { method := m, pc := pc + 4, locals := ls, stack := .ref T.heap.size :: .ref T.heap.size :: rest, locked := none }) rfl d4' _ hsteps
/-- 'throw new E("text")', the text by a wide index -/
theorem vx_throwSW {cc : ByteArray} {pc : Nat} (hexec : p.tables.exec = Jvm.exec) (hb : c.code = cc) (hl : l.stackTraces = false) {own cls text : String} {names : List String} {ik is ic mc ms sa : Nat} {A : Nat → Prop}
    (hown : s.vm.findClass own = some m.cls) (hcls : Bundle.fit cls = true) (hnames : ∀ n ∈ names, Bundle.fit n = true)
    (hk : (Cond.classLink own ik cls).before args s = true) (hini : (Cond.initialized cls).before args s = true) (hstr : vk_R own is text sa s) (hat : ∀ w ∈ vx_atS own ic cls names, w.before args s = true)
    (hgood : ∀ w ∈ Cond.classLink own ik cls :: Cond.initialized cls :: vx_atS own ic cls names, vx_ot w = true)
    (hU : vx_Zq Bundle.tN "UNASSIGNED_STACK" Bundle.steD A s s.heap) (hN : vx_Zq Bundle.tN "SUPPRESSED_SENTINEL" Bundle.listD A s s.heap) (hS : va_S A s.heap H locs) (hsize : ls.size = c.maxLocals)
    (d0 : decode cc pc = .ok (.new ik, 3)) (d3 : decode cc (pc + 3) = .ok (.dup, 1)) (d4 : decode cc (pc + 4) = .ok (.ldc_w is, 3)) (d7 : decode cc (pc + 7) = .ok (.invokespecial ic, 3)) (d10 : decode cc (pc + 10) = .ok (.athrow, 1))
    (hout : ∀ x ∈ c.exceptionTable.toList, covers x (pc + 10) = false)
    (hRframes : names.length + 3 < R.frames) (hRlocals : (rest.map fun v => v.category).sum + (13 * (names.length + 1) + 43) ≤ R.locals) (hRcells : cells + 1 ≤ R.cells) (hRslots : slots + 6 ≤ R.slots) (hlocks : meth.locks = false)
    (hx : ∀ t : State, s.vm.Alike t.vm → H.size ≤ t.heap.size → (∀ q : Nat, q < H.size → t.heap[q]? = H[q]?) → XC cls s t)
    (hf : ∀ z ∈ locs, free z.base) (hc : cells + 1 ≤ mc) (hs : slots + 6 ≤ ms) :
    W p l e R s m args below meth c H locs cells slots (vx_MQ below Qc XC args s mc ms free) (F0 m pc ls rest) := by
  intro T hT X
  have htr : e.platform.stackTraces = false := (show e.platform.stackTraces = l.stackTraces by rw [X.admits.platform]).trans hl
  have Y := vx_rebase X (R' := { frames := R.frames, locals := R.locals, cells := 1, slots := 6 }) (Nat.le_refl _) (Nat.le_refl _) hRcells hRslots
  obtain ⟨s', hA⟩ : ∃ z, z = (T.setVm s.vm).setFrames (.invoking m args :: below) := ⟨_, rfl⟩
  rw [← hA] at Y
  have hvm : s'.vm = s.vm := by rw [hA]; rfl
  have hhp : s'.heap = H := by rw [hA]; exact hT
  have hW0 : s.WarmedH s'.vm := by rw [hvm]; exact State.WarmedH.refl s
  have hat' : ∀ w ∈ vx_atS own ic cls names, w.before args s' = true := fun w hw => vx_ot_at hW0 hvm.symm (hgood w (List.mem_cons_of_mem _ (List.mem_cons_of_mem _ hw))) (hat w hw)
  have hk' : (Cond.classLink own ik cls).before args s' = true := vx_ot_at hW0 hvm.symm (hgood _ List.mem_cons_self) hk
  have hini' : (Cond.initialized cls).before args s' = true := vx_ot_at hW0 hvm.symm (hgood _ (List.mem_cons_of_mem _ List.mem_cons_self)) hini
  have hU' : vx_Zq Bundle.tN "UNASSIGNED_STACK" Bundle.steD A s' s'.heap := by rw [hhp]; exact vx_Zq.moved hW0.alike (hU.kept hS.2.1)
  have hN' : vx_Zq Bundle.tN "SUPPRESSED_SENTINEL" Bundle.listD A s' s'.heap := by rw [hhp]; exact vx_Zq.moved hW0.alike (hN.kept hS.2.1)
  have h : ∀ w ∈ Bundle.ownAtoms own ic cls names, w.before args s' = true := vx_own hat' (vx_isRefq hU'.1) (vx_isRefq hN'.1) hU'.2.word hN'.2.word
  have hown' : s'.vm.findClass own = some m.cls := by rw [hvm]; exact hown
  have hins : (Cond.instantiable cls 6).before args s' = true := h _ (by simp [Bundle.ownAtoms])
  obtain ⟨vm₁, cX, kX, hfX, hkX, -, -, X₁, st1⟩ := Y.newCold hexec (own := own) (C := cls) (index := ik) (n := 6) hown' hk' hins hini'
    (g := F0 m pc ls rest) rfl (by rw [hb]; exact d0) (Nat.le_refl _) (Nat.le_refl _)
  generalize hT1 : (T.setVm vm₁).pushCell { cls := cX, slots := kX.instanceTypes.map defaultValue, vm := .none } = T1 at X₁ st1
  have hcat : (Value.ref T.heap.size).category = 1 := rfl
  have hcellA : T1.heap[T.heap.size]? = some (freshCell cX kX) := by rw [← hT1]; exact State.heap_pushCell_size _ _
  have d3' : decode c.code (pc + 3) = .ok (.dup, 1) := by rw [hb]; exact d3
  have d4' : decode c.code (pc + 4) = .ok (.ldc_w is, 3) := by rw [hb]; exact d4
  have hstr' : vk_R own is text sa s' := vk_R.warm hW0 hstr
  obtain ⟨U, hsteps, hrun, hend, hW, hsame, ce, hce, hO⟩ := X₁.ctorThrowS hexec htr (own := own) (cls := cls) (names := names) (ic := ic) hown' hcls hnames h (fun x hx => nomatch hx) hfX hkX hcellA (by rw [hhp, hT]; exact Nat.le_refl _) (msg := .ref sa) rfl
    (g := { method := m, pc := pc + 7, locals := ls, stack := .ref sa :: .ref T.heap.size :: .ref T.heap.size :: rest, locked := none }) rfl hsize rfl rfl (rest := rest) rfl
    (by rw [hb]; exact d7) (by rw [hb]; exact d10) hout hRframes (by simp only [List.map_cons, List.sum_cons, hcat]; omega) hlocks
  obtain ⟨f1, f2⟩ := vx_frame hsame
  rw [hhp] at f1 f2
  have hWs : s.WarmedH U.vm := State.WarmedH.trans hW0 hW
  have hcl : s.vm.findClass cls = some ce.cls := by
    have h9 := hO.cls
    rw [hvm] at h9
    exact h9
  have hall : s.sameButNew ({ U with vm := s.vm } : State) locs mc ms := by
    subst hA
    obtain ⟨e1, e2⟩ := hsame
    rw [State.setFrames_setFrames] at e1
    have h2 : (T.setVm s.vm).sameButNew ({ U with vm := s.vm } : State) [] (0 + 1) (0 + 6) := ⟨e1, e2⟩
    have h3 := X.same.trans h2
    rw [List.append_nil] at h3
    exact h3.mono hc hs
  refine ⟨U, ?_, .threw T.heap.size, hrun, hend, Or.inr ⟨T.heap.size, rfl, cls, ce, locs, hx U hWs.alike f1 (fun q hq => f2 q hq (fun z hz => nomatch hz)), hce, hO.vm, hcl, hWs, hall, hf⟩⟩
  refine st1 _ ?_
  show Steps p.tables e below (T1.setTop { method := m, pc := pc + 3, locals := ls, stack := .ref T.heap.size :: rest, locked := none }) _
  jvm_step X₁.here [X₁.here.top, hexec, d3', Value.category]
  exact X₁.ldcStringW hexec (own := own) (text := text) (index := is) (a := sa) hown' hstr'.1 hstr'.2
    (g := { method := m, pc := pc + 4, locals := ls, stack := .ref T.heap.size :: .ref T.heap.size :: rest, locked := none }) rfl d4' _ hsteps
end Ends
section Bodies
variable {l : Launch}
theorem vx_ofW {y : MethodName} {ws ws' : List Cond} {rm : Room} {Pc : Array Value → State → Prop} {Qc : Array Value → State → Outcome → State → Prop} {XC : String → State → State → Prop} {mc ms : Nat} {free : Addr → Prop} {cc : ByteArray} {maxL : Nat} {ret : Option FieldType}
    (hy : plainName y.cls = true) (hw : ws = Cond.code y cc maxL ret :: ws')
    (body : ∀ p e s m args below meth c s₁, BodyLoose p l y (headSpec ws rm) cc maxL ret e s m args below meth c s₁ → c.maxLocals = maxL → (∀ x ∈ c.exceptionTable.toList, False) → Pc args s →
      W p l e (headSpec ws rm).room s m args below meth c s.heap [] 0 0 (vx_MQ below Qc XC args s mc ms free) (entryFrame m args maxL)) : vx_Met l y ws rm Pc Qc XC mc ms free := by
  refine MetFree.of_bodyS (code := cc) (maxLocals := maxL) (ret := ret) hy ?_ ?_
  · intro args s m h hn
    obtain ⟨meth, c, h1, h2, h3, h4, h5, h6, -, -⟩ := Cond.code_spec hn (atoms_spec (ws := ws) h _ (by rw [hw]; exact List.mem_cons_self))
    exact ⟨meth, c, h1, h2, h3, h4, h5, h6⟩
  · intro p e s m args below meth c s₁ B hml hP _
    have hh0 : s₁.heap = s.heap := by rw [B.state]; rfl
    have ht : ∀ x ∈ c.exceptionTable.toList, False := by
      obtain ⟨meth9, c9, h1, h2, -, -, -, -, h7, -⟩ := Cond.code_spec B.named (atoms_spec (ws := ws) B.pre _ (by rw [hw]; exact List.mem_cons_self))
      cases Option.some.inj (h1.symm.trans B.method)
      cases Option.some.inj (h2.symm.trans (Stand.of_body B).code)
      intro x hx
      rw [Array.isEmpty_iff.mp h7] at hx
      cases hx
    obtain ⟨t, a1, o, b1, b2, b3⟩ := body p e s m args below meth c s₁ B hml ht hP s₁ hh0 (Stand.of_body B)
    exact ⟨t, o, a1, b1, b2, b3⟩
/-- the table of a body with handlers -/
theorem vx_table {p : Program} {x y : MethodName} {S : Spec} {cc bytes : ByteArray} {maxL maxL' : Nat} {ret ret' : Option FieldType} {e : Env} {s s₁ : State} {m : MethodId} {args : Array Value} {below : List Frame} {meth : Method} {c : Code} {hh : List (Nat × Nat × Nat × Nat)}
    (B : BodyLoose p l y S cc maxL ret e s m args below meth c s₁) (h : (Cond.codeWith y bytes maxL' ret' hh).before args s = true) : c.exceptionTable.toList = tableOf hh := by
  obtain ⟨m9, meth9, c9, hn9, h1, h2, -, -, h6, -⟩ := Cond.codeWith_spec h
  cases Option.some.inj (hn9.symm.trans B.named)
  cases Option.some.inj (h1.symm.trans B.method)
  cases Option.some.inj (h2.symm.trans (Stand.of_body B).code)
  rw [← h6, table_eq]
end Bodies
end VXA
/-! ===== END ===== -/
/-! ===== BEGIN a static call of a method with an exception table ===== -/
section VXS
variable {p : Program} {l : Launch} {e : Env} {R : Room} {s : State} {m : MethodId} {args : Array Value} {below : List Frame} {meth : Method} {c : Code} {T : State} {H : Heap} {locs : List Loc} {cells slots : Nat}
abbrev vx_CSW (R : Room) (s : State) (args : Array Value) (own : String) (index : Nat) (y : MethodName) (bytes : ByteArray) (maxL : Nat) (ret : Option FieldType) (hh : List (Nat × Nat × Nat × Nat)) (ws : List Cond) (rm : Room) (mc ms n : Nat) : Prop :=
  (rm.cells = mc ∧ rm.slots = ms ∧ rm.frames + 1 ≤ R.frames ∧ 8 + (maxL + 11) + rm.locals ≤ R.locals ∧ (∀ w ∈ ws, ∀ (a' : Array Value) (U : State), s.WarmedH U.vm → w.before a' U = true) ∧ Cond.codeWith y bytes maxL ret hh ∈ ws) ∧
  (Cond.codeWith y bytes maxL ret hh).before args s = true ∧ (Cond.initialized y.cls).before args s = true ∧ (y.cls ≠ "java/lang/invoke/MethodHandle" ∧ y.cls ≠ "java/lang/invoke/VarHandle") ∧
  (∀ sig, parseMethodDescriptor y.desc = some sig → n = sig.parameters.length) ∧ (Cond.methodLink own index y).before args s = true ∧ (Cond.static y).before args s = true
theorem vx_cwSW {own : String} {index maxL mc ms : Nat} {y : MethodName} {bytes : ByteArray} {ret : Option FieldType} {hh : List (Nat × Nat × Nat × Nat)} {Ts ws ws' : List Cond} {rm : Room} (n : Nat) (ht : ∀ w ∈ Ts, w.before args s = true) (hT : GoodIn Ts (va_wsS own index y ws)) (hw : ws = Cond.codeWith y bytes maxL ret hh :: ws') (hrc : rm.cells = mc) (hrs : rm.slots = ms)
    (hd : y.cls ≠ "java/lang/invoke/MethodHandle" ∧ y.cls ≠ "java/lang/invoke/VarHandle" ∧ (parseMethodDescriptor y.desc).map (fun d => d.parameters.length) = some n) (hR : rm.frames + 1 ≤ R.frames ∧ 8 + (maxL + 11) + rm.locals ≤ R.locals) :
    vx_CSW R s args own index y bytes maxL ret hh ws rm mc ms n := by
  have ok : ∀ w ∈ va_wsS own index y ws, w.before args s = true := fun w h => ht w (hT w h).1
  have hG : GoodIn Ts ws := fun w h => hT w (by unfold va_wsS; exact List.mem_append_right _ h)
  have hc : Cond.codeWith y bytes maxL ret hh ∈ ws := by rw [hw]; exact List.mem_cons_self
  refine ⟨⟨hrc, hrs, hR.1, hR.2, pay_in ht hG, hc⟩, ht _ (hG _ hc).1, ok _ (by simp [va_wsS]), ⟨hd.1, hd.2.1⟩, fun sig h => ?_, ok _ (by simp [va_wsS]), ok _ (by simp [va_wsS])⟩
  have h2 := hd.2.2
  rw [h] at h2
  exact (Option.some.inj h2).symm
theorem vx_callSW (X : Stand p l e R s m args below meth c T locs cells slots) (hexec : p.tables.exec = Jvm.exec) {own : String} {index : Nat} {y : MethodName} {bytes : ByteArray} {maxL : Nat} {ret : Option FieldType} {hh : List (Nat × Nat × Nat × Nat)}
    (hown : s.vm.findClass own = some m.cls) (hlink : (Cond.methodLink own index y).before args s = true) (hstat : (Cond.static y).before args s = true) (hinit : (Cond.initialized y.cls).before args s = true)
    (hcode : (Cond.codeWith y bytes maxL ret hh).before args s = true) (hy : y.cls ≠ "java/lang/invoke/MethodHandle" ∧ y.cls ≠ "java/lang/invoke/VarHandle")
    {W9 : Nat} {Pre : Pt → Array Value → Prop} {Post : Pt → Array Value → Option Value → Pt → Prop} (hK : Back l R p e below s args y 3 W9 Pre Post)
    {g : JFrame} (hg : g.method = m) (hsize : g.locals.size = c.maxLocals) {argsL rest : List Value} (hlen : ∀ sig, parseMethodDescriptor y.desc = some sig → argsL.length = sig.parameters.length)
    (hstack : g.stack = argsL.reverse ++ rest) (hW : 2 * g.monitorRoom + (rest.map fun v => v.category).sum ≤ W9) (hdg : decode c.code g.pc = .ok (.invokestatic index, 3))
    (hpre : ∀ vm₁, s.WarmedH vm₁ → Pre ⟨T.setVm vm₁, locs, cells, slots⟩ argsL.toArray) :
    ∃ (v : Option Value) (vm₁ : Vm) (B : Pt), s.WarmedH vm₁ ∧ Stand p l e R s m args below meth c B.U B.locs B.cells B.slots ∧ Post ⟨T.setVm vm₁, locs, cells, slots⟩ argsL.toArray v B ∧
      ∀ target, Steps p.tables e below (B.U.setTop { g with pc := g.pc + 3, stack := v.toList ++ rest }) target → Steps p.tables e below (T.setTop g) target := by
  obtain ⟨mk, methM, cM, hnamed, hmethM, -, -, -, -, -, -, hsigM⟩ := Cond.codeWith_spec hcode
  have hstatic : methM.isStatic = true := Cond.static_spec hnamed hmethM hstat
  obtain ⟨kP, hkP, -⟩ := className_of_methodNamed hnamed
  have hinitP : kP.init = .initialized := Cond.initialized_spec (findClass_of_methodNamed hnamed) hkP hinit
  obtain ⟨vm₁, X₁, hstep₁⟩ := X.invokestatic hexec hown hlink hnamed hmethM hstatic hkP hinitP hy (g := g) hg (argsL := argsL) (rest := rest) (hlen _ hsigM) hstack hdg
  obtain ⟨v, B, X', hpost, hsteps⟩ := hK m meth c ⟨T.setVm vm₁, locs, cells, slots⟩ { g with stack := rest } (.invokestatic index) mk argsL.toArray X₁ hg hsize hdg hW (X₁.named hnamed) (hpre vm₁ X₁.warmed)
  exact ⟨v, vm₁, B, X₁.warmed, X', hpost, fun target h => hstep₁ _ fun acts => by rw [doInvoke_state]; exact hsteps.trans h⟩
theorem vx_runSW {y : MethodName} {bytes cc : ByteArray} {maxL nL mc ms n index : Nat} {ret : Option FieldType} {hh : List (Nat × Nat × Nat × Nat)} {ws : List Cond} {rm : Room} {Pc : Array Value → State → Prop} {Qc : Array Value → State → Outcome → State → Prop} {free : Addr → Prop} {Ts : List Cond} {own : String} {As rest : List Value} {g : JFrame}
    (S : CallFix p m c cc nL s args Ts own) (hM : Met l y ws rm Pc Qc mc ms free) (cw : vx_CSW R s args own index y bytes maxL ret hh ws rm mc ms n) (hp : PreS s H Pc As)
    (hg : g.method = m) (hn : As.length = n) (hsize : g.locals.size = nL) (hstack : g.stack = As.reverse ++ rest) (hW : 2 * g.monitorRoom + (rest.map fun v => v.category).sum ≤ 8) (hdg : decode cc g.pc = .ok (.invokestatic index, 3)) (hf : cells + mc ≤ R.cells ∧ slots + ms ≤ R.slots) :
    va_Run p l e R s m args below meth c H locs cells slots mc ms g rest (Qc As.toArray) (free) := by
  obtain ⟨⟨hrc, hrs, hfr, hlo, hws, hcw⟩, hcode, hini, hy, hlen, hl, hstt⟩ := cw
  have hK : Back l R p e below s args y 3 8 (PreOf R mc ms Pc) (PostOf Qc mc ms free) := va_backW (hh := hh) (bytes := bytes) (maxL := maxL) (ret := ret) hM hp.1 hrc hrs hfr hlo hws hcw (fun a' U hW => word_at hW (Or.inl (by first | rfl | simp [Cond.onTables, Cond.keeps, Cond.steady])) hini)
  obtain ⟨hx, hb, hml, ho, -⟩ := S
  intro T hT X
  obtain ⟨v, vm₁, ⟨U', l2, c2, s2⟩, hW₁, X', ⟨g', mk, t, L, e1, e2, hq, h1, hL, h2, h3⟩, st⟩ := vx_callSW X hx (hh := hh) (bytes := bytes) (maxL := maxL) (ret := ret) ho hl hstt hini hcode hy hK hg (hsize.trans hml.symm) (argsL := As) (rest := rest) (fun sig h => hn.trans (hlen sig h)) hstack hW (by rw [hb]; exact hdg)
    (fun vm₁ hW₁ => ⟨hf.1, hf.2, hp.2 (T.setVm vm₁) hT hW₁⟩)
  dsimp only [Pt.U, Pt.locs, Pt.cells, Pt.slots] at X' e1 e2 h1 h2 h3 st
  subst h1; subst h2; subst h3
  exact ⟨v, (T.setVm vm₁).calling g' mk As.toArray, t, U', L, hT, X', hL, e1, e2, hq, st⟩
/-- a thing of a world lies in the heap -/
theorem vx_lt {D : va_G} {cl : List vw_C} {ws : va_W} {H1 : Heap} (h : va_P D cl ws H1) {k : Nat} {q : Nat × va_E} (hk : ws[k]? = some q) : q.1 < H1.size := (h k q hk).lt
end VXS
/-! ===== END ===== -/
/-! ===== BEGIN methods with a table of their own: called by a name, returning or throwing ===== -/
section VXH
/-! vx_backW, vx_callVX, vx_callSX, vx_callVW, vx_runVW, vx_runVX, vx_runSX, vx_ofWH follow the same proofs as their sisters above (Free/Laws.lean, Shelf42/LK1.lean); vx_outP calls Shelf42/NT130.lean (outThrough). -/
section
variable {l : Launch} {R : Room} {p : Program} {e : Env} {below : List Frame} {s : State} {sargs : Array Value} {y : MethodName} {len W9 : Nat}
theorem vx_backW {ws : List Cond} {rm : Room} {Pc : Array Value → State → Prop} {Qc : Array Value → State → Outcome → State → Prop} {XC : String → State → State → Prop} {mc ms : Nat} {free : Addr → Prop} {bytes : ByteArray} {maxL : Nat} {ret : Option FieldType} {hh : List (Nat × Nat × Nat × Nat)}
    (hM : vx_Met l y ws rm Pc Qc XC mc ms free) (hblind : FrameBlind Pc) (hrc : rm.cells = mc) (hrs : rm.slots = ms)
    (hframes : rm.frames + 1 ≤ R.frames) (hlocals : W9 + (maxL + 11) + rm.locals ≤ R.locals)
    (hws : ∀ w ∈ ws, ∀ a' U, s.WarmedH U.vm → w.before a' U = true) (hcode : Cond.codeWith y bytes maxL ret hh ∈ ws) (hinit : ∀ a' U, s.WarmedH U.vm → (Cond.initialized y.cls).before a' U = true) :
    vx_Back l R p e below s sargs y len W9 (PreOf R mc ms Pc) (PostOf Qc mc ms free) (vx_Post XC mc ms free) := by
  intro m meth c A g ig mk a X hg hsize hdg hW hn hp
  have h1 : (headSpec ws rm).pre.before a A.U = true := atoms_intro fun w hw => hws w hw _ _ X.warmed
  have h2 : (Cond.codeWith y bytes maxL ret hh).before a A.U = true := hws _ hcode _ _ X.warmed
  have h3 : (Cond.initialized y.cls).before a A.U = true := hinit _ _ X.warmed
  have h4 : A.cells + (headSpec ws rm).room.cells ≤ R.cells := by rw [show (headSpec ws rm).room.cells = mc from hrc]; exact hp.1
  have h5 : A.slots + (headSpec ws rm).room.slots ≤ R.slots := by rw [show (headSpec ws rm).room.slots = ms from hrs]; exact hp.2.1
  have hPc : Pc a (A.U.calling g mk a) := hblind _ _ _ _ hp.2.2
  obtain ⟨U, Ls, c0, s0⟩ := A
  dsimp only [Pt.U, Pt.locs, Pt.cells, Pt.slots] at h1 h2 h3 h4 h5 X hn hPc ⊢
  obtain ⟨m9, methY, cY, hn9, hmY, hcY, -, hlY, -⟩ := Cond.codeWith_spec h2
  cases Option.some.inj (hn9.symm.trans hn)
  obtain ⟨kY, hkY, -⟩ := className_of_methodNamed hn
  have hinitY : kY.init = .initialized := Cond.initialized_spec (findClass_of_methodNamed hn) hkY h3
  have h : At U g.method c below := by rw [hg]; exact X.here
  have hlocals9 : W9 + (maxL + 11) + (headSpec ws rm).room.locals ≤ R.locals := hlocals
  have happ : (headSpec ws rm).appliesLoose y e.platform (U.calling g mk a) = true :=
    Spec.appliesLoose_calling (g := g) h hdg hn hkY hinitY
      (X.room_calling (g := g) (R' := (headSpec ws rm).room) hsize hmY hcY hframes (by rw [hlY]; omega) h4 h5) h1
  obtain ⟨mid, hmid⟩ := h.above
  have hfr : (U.setTop g).frames = (.java g :: mid) ++ below := by rw [State.frames_setTop' g h.top, hmid]; rfl
  obtain ⟨o, s₂, hsteps, -, hend, hq⟩ := Steps.callFree hM p X.admits X.cas X.clock (acts := []) hfr happ hPc trivial
  have hq' : vx_Q Qc XC mc ms free a (U.calling g mk a) o s₂ := hq
  rw [State.frames_setTop' g h.top] at hend
  obtain ⟨g₀, hg0⟩ := Option.isSome_iff_exists.mp h.top
  obtain ⟨r, hr⟩ := State.topJava?_eq_some.mp hg0
  have hr' : (({ U with heap := s₂.heap, slotsUsed := s₂.slotsUsed } : State).setVm s₂.vm).frames = .java g₀ :: r := hr
  rcases hq' with ⟨hqc, L, hfe, hL⟩ | ⟨q, rfl, E, ce, L, hx, hce, hcv, hcl, hW₂, hsm, hL⟩
  · obtain ⟨⟨v, rfl⟩, hW₂, e2, q2, q3, q4, q5, q6⟩ := id hfe
    have e3 : s₂ = ({ (U.calling g mk a).setFrames s₂.frames with heap := s₂.heap, slotsUsed := s₂.slotsUsed } : State).setVm s₂.vm := by
      have : s₂ = ({ s₂ with vm := (U.calling g mk a).vm } : State).setVm s₂.vm := rfl
      rw [e2] at this
      exact this
    obtain ⟨c₂, i₂, len₂, hc₂, hd₂, hf₂⟩ := hend
    have hW' : U.WarmedH s₂.vm := hW₂
    have hcc : c₂ = c := by
      have h1 : s₂.code? g.method = U.code? g.method := by
        rw [State.code?_eq, State.code?_eq, hW'.alike.method?]
      exact Option.some.inj (hc₂.symm.trans (h1.trans h.code))
    subst hcc
    have hlen : len₂ = len := by rw [hdg] at hd₂; cases hd₂; rfl
    subst hlen
    have hs₂ : s₂ = (({ U with heap := s₂.heap, slotsUsed := s₂.slotsUsed } : State).setVm s₂.vm).setTop { g with pc := g.pc + len₂, stack := v.toList ++ g.stack } := by
      refine e3.trans ?_
      rw [hf₂, State.calling_eq h.top, State.setFrames_setFrames, State.setTop_of_frames _ hr', hr]
      rfl
    have hsame : U.sameButNew ({ U with heap := s₂.heap, slotsUsed := s₂.slotsUsed } : State) L mc ms := by
      refine ⟨?_, q2, q3, q4, q5, q6⟩
      obtain ⟨t, ht, -⟩ := State.frames_cons hr
      show ({ U with heap := s₂.heap, slotsUsed := s₂.slotsUsed } : State) = { U.setFrames U.frames with heap := s₂.heap, slotsUsed := s₂.slotsUsed }
      rw [State.setFrames_self ht]
    subst hg
    refine Or.inl ⟨v, ⟨(({ U with heap := s₂.heap, slotsUsed := s₂.slotsUsed } : State).setVm s₂.vm), Ls ++ L, c0 + mc, s0 + ms⟩,
      ⟨X.admits, X.cas, X.clock, X.frames, X.room, X.hears, X.method, X.code, (X.here.setHeapUsed s₂.heap s₂.slotsUsed).setVm hW'.alike, X.tail, State.WarmedH.trans X.warmed hW', X.limits, X.bytes, X.same.trans (hsame.setVm s.vm)⟩,
      ⟨g, mk, s₂, L, rfl, rfl, hqc, rfl, hL, rfl, rfl⟩, ?_⟩
    show Steps p.tables e below _ ((({ U with heap := s₂.heap, slotsUsed := s₂.slotsUsed } : State).setVm s₂.vm).setTop { g with pc := g.pc + len₂, stack := v.toList ++ g.stack })
    rw [← hs₂]
    exact hsteps
  · obtain ⟨e2, q2, q3, q4, q5, q6⟩ := id hsm
    have e3 : s₂ = ({ (U.calling g mk a).setFrames s₂.frames with heap := s₂.heap, slotsUsed := s₂.slotsUsed } : State).setVm s₂.vm := by
      have : s₂ = ({ s₂ with vm := (U.calling g mk a).vm } : State).setVm s₂.vm := rfl
      rw [e2] at this
      exact this
    have hf₂ : s₂.frames = .throwing q :: .java g :: U.frames.tail := hend
    have hW' : U.WarmedH s₂.vm := hW₂
    have hs₂ : s₂ = ((({ U with heap := s₂.heap, slotsUsed := s₂.slotsUsed } : State).setVm s₂.vm).setTop g).pushFrame (.throwing q) := by
      refine e3.trans ?_
      rw [hf₂, State.calling_eq h.top, State.setFrames_setFrames, State.pushFrame, State.frames_setTop _ hr', State.setTop_of_frames _ hr', State.setFrames_setFrames, hr]
      rfl
    have hsame : U.sameButNew ({ U with heap := s₂.heap, slotsUsed := s₂.slotsUsed } : State) L mc ms := by
      refine ⟨?_, q2, q3, q4, q5, q6⟩
      obtain ⟨t, ht, -⟩ := State.frames_cons hr
      show ({ U with heap := s₂.heap, slotsUsed := s₂.slotsUsed } : State) = { U.setFrames U.frames with heap := s₂.heap, slotsUsed := s₂.slotsUsed }
      rw [State.setFrames_self ht]
    subst hg
    refine Or.inr ⟨q, ⟨(({ U with heap := s₂.heap, slotsUsed := s₂.slotsUsed } : State).setVm s₂.vm), Ls ++ L, c0 + mc, s0 + ms⟩,
      ⟨X.admits, X.cas, X.clock, X.frames, X.room, X.hears, X.method, X.code, (X.here.setHeapUsed s₂.heap s₂.slotsUsed).setVm hW'.alike, X.tail, State.WarmedH.trans X.warmed hW', X.limits, X.bytes, X.same.trans (hsame.setVm s.vm)⟩,
      ⟨g, mk, s₂, L, E, ce, rfl, rfl, hx, hce, hcv, hcl, rfl, hL, rfl, rfl⟩, ?_⟩
    show Steps p.tables e below _ (((({ U with heap := s₂.heap, slotsUsed := s₂.slotsUsed } : State).setVm s₂.vm).setTop g).pushFrame (.throwing q))
    rw [← hs₂]
    exact hsteps
end
variable {p : Program} {l : Launch} {e : Env} {R : Room} {s : State} {m : MethodId} {args : Array Value} {below : List Frame} {meth : Method} {c : Code} {T : State} {H : Heap} {locs : List Loc} {cells slots : Nat}
theorem vx_callVX (X : Stand p l e R s m args below meth c T locs cells slots) (hexec : p.tables.exec = Jvm.exec) {own C : String} {index : Nat} {y : MethodName} {bytes : ByteArray} {maxL : Nat} {ret : Option FieldType} {hh : List (Nat × Nat × Nat × Nat)}
    (hown : s.vm.findClass own = some m.cls) (hlink : (Cond.methodLink own index y).before args s = true) (hinst : (Cond.instanceMethod y).before args s = true) (hsel : (Cond.selects C y y).before args s = true)
    (hcode : (Cond.codeWith y bytes maxL ret hh).before args s = true) (hy : y.cls ≠ "java/lang/invoke/MethodHandle" ∧ y.cls ≠ "java/lang/invoke/VarHandle")
    {W9 : Nat} {Pre : Pt → Array Value → Prop} {Post : Pt → Array Value → Option Value → Pt → Prop} {PostX : Pt → Array Value → Addr → Pt → Prop} (hK : vx_Back l R p e below s args y 3 W9 Pre Post PostX)
    {b : Addr} {cellB : Cell} (hcell : T.heap[b]? = some cellB) (hobj : cellB.vm.isStatics = false) (hcls : s.vm.findClass C = some cellB.cls)
    {g : JFrame} (hg : g.method = m) (hsize : g.locals.size = c.maxLocals) {argsL rest : List Value} (hlen : ∀ sig, parseMethodDescriptor y.desc = some sig → argsL.length = sig.parameters.length)
    (hstack : g.stack = argsL.reverse ++ .ref b :: rest) (hW : 2 * g.monitorRoom + (rest.map fun v => v.category).sum ≤ W9) (hdg : decode c.code g.pc = .ok (.invokevirtual index, 3))
    (hpre : ∀ vm₁, s.WarmedH vm₁ → Pre ⟨T.setVm vm₁, locs, cells, slots⟩ (Value.ref b :: argsL).toArray) :
    (∃ (v : Option Value) (vm₁ : Vm) (B : Pt), s.WarmedH vm₁ ∧ Stand p l e R s m args below meth c B.U B.locs B.cells B.slots ∧ Post ⟨T.setVm vm₁, locs, cells, slots⟩ (Value.ref b :: argsL).toArray v B ∧
      ∀ target, Steps p.tables e below (B.U.setTop { g with pc := g.pc + 3, stack := v.toList ++ rest }) target → Steps p.tables e below (T.setTop g) target) ∨
    (∃ (q : Addr) (vm₁ : Vm) (B : Pt), s.WarmedH vm₁ ∧ Stand p l e R s m args below meth c B.U B.locs B.cells B.slots ∧ PostX ⟨T.setVm vm₁, locs, cells, slots⟩ (Value.ref b :: argsL).toArray q B ∧
      Steps p.tables e below (T.setTop g) ((B.U.setTop { g with stack := rest }).pushFrame (.throwing q))) := by
  obtain ⟨mk, methM, hnamed, hmethM, hstM, habM⟩ := Cond.instanceMethod_spec hinst
  obtain ⟨m8, methM', cM, hn8, hmethM', -, -, -, -, -, -, hsigM⟩ := Cond.codeWith_spec hcode
  cases Option.some.inj (hn8.symm.trans hnamed)
  cases hmethM.symm.trans hmethM'
  obtain ⟨c2, r2, m2, q1, q2, q3, q4, kP, hkP, hkPi⟩ := Cond.selects_spec hsel
  cases hcls.symm.trans q1
  cases (State.methodFound?_of_named hnamed hy).symm.trans q2
  cases hnamed.symm.trans q3
  have hselP : selectMethod e.platform s.vm cellB.cls mk = .method mk := by rw [Launch.admits_selectMethod X.admits]; exact q4
  obtain ⟨vm₁, X₁, hstep₁⟩ := X.invokevirtual hexec hown hlink hnamed hmethM hstM hkP hkPi hy (a := b) (cell := cellB) hcell
    (fun z h => by rw [h] at hobj; cases hobj) hselP hmethM habM hkP hkPi (g := g) hg (argsL := argsL) (rest := rest) (hlen _ hsigM) hstack hdg
  rcases hK m meth c ⟨T.setVm vm₁, locs, cells, slots⟩ { g with stack := rest } (.invokevirtual index) mk (Value.ref b :: argsL).toArray X₁ hg hsize hdg hW (X₁.named hnamed) (hpre vm₁ X₁.warmed) with ⟨v, B, X', hpost, hsteps⟩ | ⟨q, B, X', hpost, hsteps⟩
  · exact Or.inl ⟨v, vm₁, B, X₁.warmed, X', hpost, fun target h => hstep₁ _ fun acts => by rw [doInvoke_state]; exact hsteps.trans h⟩
  · exact Or.inr ⟨q, vm₁, B, X₁.warmed, X', hpost, hstep₁ _ fun acts => by rw [doInvoke_state]; exact hsteps⟩
theorem vx_callSX (X : Stand p l e R s m args below meth c T locs cells slots) (hexec : p.tables.exec = Jvm.exec) {own : String} {index : Nat} {y : MethodName} {bytes : ByteArray} {maxL : Nat} {ret : Option FieldType} {hh : List (Nat × Nat × Nat × Nat)}
    (hown : s.vm.findClass own = some m.cls) (hlink : (Cond.methodLink own index y).before args s = true) (hstat : (Cond.static y).before args s = true) (hinit : (Cond.initialized y.cls).before args s = true)
    (hcode : (Cond.codeWith y bytes maxL ret hh).before args s = true) (hy : y.cls ≠ "java/lang/invoke/MethodHandle" ∧ y.cls ≠ "java/lang/invoke/VarHandle")
    {W9 : Nat} {Pre : Pt → Array Value → Prop} {Post : Pt → Array Value → Option Value → Pt → Prop} {PostX : Pt → Array Value → Addr → Pt → Prop} (hK : vx_Back l R p e below s args y 3 W9 Pre Post PostX)
    {g : JFrame} (hg : g.method = m) (hsize : g.locals.size = c.maxLocals) {argsL rest : List Value} (hlen : ∀ sig, parseMethodDescriptor y.desc = some sig → argsL.length = sig.parameters.length)
    (hstack : g.stack = argsL.reverse ++ rest) (hW : 2 * g.monitorRoom + (rest.map fun v => v.category).sum ≤ W9) (hdg : decode c.code g.pc = .ok (.invokestatic index, 3))
    (hpre : ∀ vm₁, s.WarmedH vm₁ → Pre ⟨T.setVm vm₁, locs, cells, slots⟩ argsL.toArray) :
    (∃ (v : Option Value) (vm₁ : Vm) (B : Pt), s.WarmedH vm₁ ∧ Stand p l e R s m args below meth c B.U B.locs B.cells B.slots ∧ Post ⟨T.setVm vm₁, locs, cells, slots⟩ argsL.toArray v B ∧
      ∀ target, Steps p.tables e below (B.U.setTop { g with pc := g.pc + 3, stack := v.toList ++ rest }) target → Steps p.tables e below (T.setTop g) target) ∨
    (∃ (q : Addr) (vm₁ : Vm) (B : Pt), s.WarmedH vm₁ ∧ Stand p l e R s m args below meth c B.U B.locs B.cells B.slots ∧ PostX ⟨T.setVm vm₁, locs, cells, slots⟩ argsL.toArray q B ∧
      Steps p.tables e below (T.setTop g) ((B.U.setTop { g with stack := rest }).pushFrame (.throwing q))) := by
  obtain ⟨mk, methM, cM, hnamed, hmethM, -, -, -, -, -, -, hsigM⟩ := Cond.codeWith_spec hcode
  have hstatic : methM.isStatic = true := Cond.static_spec hnamed hmethM hstat
  obtain ⟨kP, hkP, -⟩ := className_of_methodNamed hnamed
  have hinitP : kP.init = .initialized := Cond.initialized_spec (findClass_of_methodNamed hnamed) hkP hinit
  obtain ⟨vm₁, X₁, hstep₁⟩ := X.invokestatic hexec hown hlink hnamed hmethM hstatic hkP hinitP hy (g := g) hg (argsL := argsL) (rest := rest) (hlen _ hsigM) hstack hdg
  rcases hK m meth c ⟨T.setVm vm₁, locs, cells, slots⟩ { g with stack := rest } (.invokestatic index) mk argsL.toArray X₁ hg hsize hdg hW (X₁.named hnamed) (hpre vm₁ X₁.warmed) with ⟨v, B, X', hpost, hsteps⟩ | ⟨q, B, X', hpost, hsteps⟩
  · exact Or.inl ⟨v, vm₁, B, X₁.warmed, X', hpost, fun target h => hstep₁ _ fun acts => by rw [doInvoke_state]; exact hsteps.trans h⟩
  · exact Or.inr ⟨q, vm₁, B, X₁.warmed, X', hpost, hstep₁ _ fun acts => by rw [doInvoke_state]; exact hsteps⟩
theorem vx_callVW (X : Stand p l e R s m args below meth c T locs cells slots) (hexec : p.tables.exec = Jvm.exec) {own C : String} {index : Nat} {y : MethodName} {bytes : ByteArray} {maxL : Nat} {ret : Option FieldType} {hh : List (Nat × Nat × Nat × Nat)}
    (hown : s.vm.findClass own = some m.cls) (hlink : (Cond.methodLink own index y).before args s = true) (hinst : (Cond.instanceMethod y).before args s = true) (hsel : (Cond.selects C y y).before args s = true)
    (hcode : (Cond.codeWith y bytes maxL ret hh).before args s = true) (hy : y.cls ≠ "java/lang/invoke/MethodHandle" ∧ y.cls ≠ "java/lang/invoke/VarHandle")
    {W9 : Nat} {Pre : Pt → Array Value → Prop} {Post : Pt → Array Value → Option Value → Pt → Prop} (hK : Back l R p e below s args y 3 W9 Pre Post)
    {b : Addr} {cellB : Cell} (hcell : T.heap[b]? = some cellB) (hobj : cellB.vm.isStatics = false) (hcls : s.vm.findClass C = some cellB.cls)
    {g : JFrame} (hg : g.method = m) (hsize : g.locals.size = c.maxLocals) {argsL rest : List Value} (hlen : ∀ sig, parseMethodDescriptor y.desc = some sig → argsL.length = sig.parameters.length)
    (hstack : g.stack = argsL.reverse ++ .ref b :: rest) (hW : 2 * g.monitorRoom + (rest.map fun v => v.category).sum ≤ W9) (hdg : decode c.code g.pc = .ok (.invokevirtual index, 3))
    (hpre : ∀ vm₁, s.WarmedH vm₁ → Pre ⟨T.setVm vm₁, locs, cells, slots⟩ (Value.ref b :: argsL).toArray) :
    ∃ (v : Option Value) (vm₁ : Vm) (B : Pt), s.WarmedH vm₁ ∧ Stand p l e R s m args below meth c B.U B.locs B.cells B.slots ∧ Post ⟨T.setVm vm₁, locs, cells, slots⟩ (Value.ref b :: argsL).toArray v B ∧
      ∀ target, Steps p.tables e below (B.U.setTop { g with pc := g.pc + 3, stack := v.toList ++ rest }) target → Steps p.tables e below (T.setTop g) target := by
  obtain ⟨mk, methM, hnamed, hmethM, hstM, habM⟩ := Cond.instanceMethod_spec hinst
  obtain ⟨m8, methM', cM, hn8, hmethM', -, -, -, -, -, -, hsigM⟩ := Cond.codeWith_spec hcode
  cases Option.some.inj (hn8.symm.trans hnamed)
  cases hmethM.symm.trans hmethM'
  obtain ⟨c2, r2, m2, q1, q2, q3, q4, kP, hkP, hkPi⟩ := Cond.selects_spec hsel
  cases hcls.symm.trans q1
  cases (State.methodFound?_of_named hnamed hy).symm.trans q2
  cases hnamed.symm.trans q3
  have hselP : selectMethod e.platform s.vm cellB.cls mk = .method mk := by rw [Launch.admits_selectMethod X.admits]; exact q4
  obtain ⟨vm₁, X₁, hstep₁⟩ := X.invokevirtual hexec hown hlink hnamed hmethM hstM hkP hkPi hy (a := b) (cell := cellB) hcell
    (fun z h => by rw [h] at hobj; cases hobj) hselP hmethM habM hkP hkPi (g := g) hg (argsL := argsL) (rest := rest) (hlen _ hsigM) hstack hdg
  obtain ⟨v, B, X', hpost, hsteps⟩ := hK m meth c ⟨T.setVm vm₁, locs, cells, slots⟩ { g with stack := rest } (.invokevirtual index) mk (Value.ref b :: argsL).toArray X₁ hg hsize hdg hW (X₁.named hnamed) (hpre vm₁ X₁.warmed)
  exact ⟨v, vm₁, B, X₁.warmed, X', hpost, fun target h => hstep₁ _ fun acts => by rw [doInvoke_state]; exact hsteps.trans h⟩
abbrev vx_CVW (R : Room) (s : State) (args : Array Value) (own C : String) (index : Nat) (y : MethodName) (bytes : ByteArray) (maxL : Nat) (ret : Option FieldType) (hh : List (Nat × Nat × Nat × Nat)) (ws : List Cond) (rm : Room) (mc ms n : Nat) : Prop :=
  (rm.cells = mc ∧ rm.slots = ms ∧ rm.frames + 1 ≤ R.frames ∧ 8 + (maxL + 11) + rm.locals ≤ R.locals ∧ (∀ w ∈ ws, ∀ (a' : Array Value) (U : State), s.WarmedH U.vm → w.before a' U = true) ∧ Cond.codeWith y bytes maxL ret hh ∈ ws) ∧
  (Cond.codeWith y bytes maxL ret hh).before args s = true ∧ (Cond.initialized y.cls).before args s = true ∧ (y.cls ≠ "java/lang/invoke/MethodHandle" ∧ y.cls ≠ "java/lang/invoke/VarHandle") ∧
  (∀ sig, parseMethodDescriptor y.desc = some sig → n = sig.parameters.length) ∧ (Cond.methodLink own index y).before args s = true ∧ (Cond.instanceMethod y).before args s = true ∧ (Cond.selects C y y).before args s = true
theorem vx_cwVW {own C : String} {index maxL mc ms : Nat} {y : MethodName} {bytes : ByteArray} {ret : Option FieldType} {hh : List (Nat × Nat × Nat × Nat)} {Ts ws ws' : List Cond} {rm : Room} (n : Nat) (ht : ∀ w ∈ Ts, w.before args s = true) (hT : GoodIn Ts (wsV own index C y ws)) (hw : ws = Cond.codeWith y bytes maxL ret hh :: ws') (hrc : rm.cells = mc) (hrs : rm.slots = ms)
    (hd : y.cls = C ∧ y.cls ≠ "java/lang/invoke/MethodHandle" ∧ y.cls ≠ "java/lang/invoke/VarHandle" ∧ (parseMethodDescriptor y.desc).map (fun d => d.parameters.length) = some n) (hR : rm.frames + 1 ≤ R.frames ∧ 8 + (maxL + 11) + rm.locals ≤ R.locals) :
    vx_CVW R s args own C index y bytes maxL ret hh ws rm mc ms n := by
  obtain ⟨hC, hd⟩ := hd
  subst hC
  have ok : ∀ w ∈ wsV own index y.cls y ws, w.before args s = true := fun w h => ht w (hT w h).1
  have hG : GoodIn Ts ws := fun w h => hT w (by unfold wsV; exact List.mem_append_right _ h)
  have hc : Cond.codeWith y bytes maxL ret hh ∈ ws := by rw [hw]; exact List.mem_cons_self
  refine ⟨⟨hrc, hrs, hR.1, hR.2, pay_in ht hG, hc⟩, ht _ (hG _ hc).1, ok _ (by simp [wsV]), ⟨hd.1, hd.2.1⟩, fun sig h => ?_, ok _ (by simp [wsV]), ok _ (by simp [wsV]), ok _ (by simp [wsV])⟩
  have h2 := hd.2.2
  rw [h] at h2
  exact (Option.some.inj h2).symm
theorem vx_runVW {y : MethodName} {bytes cc : ByteArray} {maxL nL mc ms n index : Nat} {ret : Option FieldType} {hh : List (Nat × Nat × Nat × Nat)} {ws : List Cond} {rm : Room} {Pc : Array Value → State → Prop} {Qc : Array Value → State → Outcome → State → Prop} {free : Addr → Prop} {Ts : List Cond} {own C : String} {b : Addr} {As rest : List Value} {g : JFrame}
    (S : CallFix p m c cc nL s args Ts own) (hM : Met l y ws rm Pc Qc mc ms free) (cw : vx_CVW R s args own C index y bytes maxL ret hh ws rm mc ms n) (hp : PreV s H C b Pc As)
    (hg : g.method = m) (hn : As.length = n) (hsize : g.locals.size = nL) (hstack : g.stack = As.reverse ++ .ref b :: rest) (hW : 2 * g.monitorRoom + (rest.map fun v => v.category).sum ≤ 8) (hdg : decode cc g.pc = .ok (.invokevirtual index, 3)) (hf : cells + mc ≤ R.cells ∧ slots + ms ≤ R.slots) :
    va_Run p l e R s m args below meth c H locs cells slots mc ms g rest (Qc (Value.ref b :: As).toArray) free := by
  obtain ⟨⟨hrc, hrs, hfr, hlo, hws, hcw⟩, hcode, hini, hy, hlen, hl, hin, hse⟩ := cw
  have hK : Back l R p e below s args y 3 8 (PreOf R mc ms Pc) (PostOf Qc mc ms free) := va_backW (hh := hh) (bytes := bytes) (maxL := maxL) (ret := ret) hM hp.1 hrc hrs hfr hlo hws hcw (fun a' U hW => word_at hW (Or.inl (by first | rfl | simp [Cond.onTables, Cond.keeps, Cond.steady])) hini)
  obtain ⟨hx, hb, hml, ho, -⟩ := S
  obtain ⟨-, ⟨cellB, hcB, hoB, hclB⟩, hPc⟩ := hp
  intro T hT X
  obtain ⟨v, vm₁, ⟨U', l2, c2, s2⟩, hW₁, X', ⟨g', mk, t, L, e1, e2, hq, h1, hL, h2, h3⟩, st⟩ := vx_callVW X hx (C := C) (hh := hh) (bytes := bytes) (maxL := maxL) (ret := ret) ho hl hin hse hcode hy hK (by rw [hT]; exact hcB) hoB hclB hg (hsize.trans hml.symm) (argsL := As) (rest := rest) (fun sig h => hn.trans (hlen sig h)) hstack hW (by rw [hb]; exact hdg)
    (fun vm₁ hW₁ => ⟨hf.1, hf.2, hPc (T.setVm vm₁) hT hW₁⟩)
  dsimp only [Pt.U, Pt.locs, Pt.cells, Pt.slots] at X' e1 e2 h1 h2 h3 st
  subst h1; subst h2; subst h3
  exact ⟨v, (T.setVm vm₁).calling g' mk (Value.ref b :: As).toArray, t, U', L, hT, X', hL, e1, e2, hq, st⟩
section
variable {y : MethodName} {bytes cc : ByteArray} {maxL nL mc ms n index : Nat} {ret : Option FieldType} {ws : List Cond} {rm : Room} {Pc : Array Value → State → Prop} {Qc : Array Value → State → Outcome → State → Prop} {XC : String → State → State → Prop} {free : Addr → Prop} {Ts : List Cond} {own C : String} {b : Addr} {As rest : List Value} {g : JFrame}
theorem vx_runVX {hh : List (Nat × Nat × Nat × Nat)} (S : CallFix p m c cc nL s args Ts own) (hM : vx_Met l y ws rm Pc Qc XC mc ms free) (cw : vx_CVW R s args own C index y bytes maxL ret hh ws rm mc ms n) (hp : PreV s H C b Pc As)
    (hg : g.method = m) (hn : As.length = n) (hsize : g.locals.size = nL) (hstack : g.stack = As.reverse ++ .ref b :: rest) (hW : 2 * g.monitorRoom + (rest.map fun v => v.category).sum ≤ 8) (hdg : decode cc g.pc = .ok (.invokevirtual index, 3)) (hf : cells + mc ≤ R.cells ∧ slots + ms ≤ R.slots) :
    vx_Run p l e R s m args below meth c H locs cells slots mc ms g rest (Qc (Value.ref b :: As).toArray) XC free := by
  obtain ⟨⟨hrc, hrs, hfr, hlo, hws, hcw⟩, hcode, hini, hy, hlen, hl, hin, hse⟩ := cw
  have hK : vx_Back l R p e below s args y 3 8 (PreOf R mc ms Pc) (PostOf Qc mc ms free) (vx_Post XC mc ms free) := vx_backW (hh := hh) (bytes := bytes) (maxL := maxL) (ret := ret) hM hp.1 hrc hrs hfr hlo hws hcw (fun a' U hW => word_at hW (Or.inl (by first | rfl | simp [Cond.onTables, Cond.keeps, Cond.steady])) hini)
  obtain ⟨hx, hb, hml, ho, -⟩ := S
  obtain ⟨-, ⟨cellB, hcB, hoB, hclB⟩, hPc⟩ := hp
  intro T hT X
  rcases vx_callVX X hx (C := C) (hh := hh) (bytes := bytes) (maxL := maxL) (ret := ret) ho hl hin hse hcode hy hK (by rw [hT]; exact hcB) hoB hclB hg (hsize.trans hml.symm) (argsL := As) (rest := rest) (fun sig h => hn.trans (hlen sig h)) hstack hW (by rw [hb]; exact hdg)
    (fun vm₁ hW₁ => ⟨hf.1, hf.2, hPc (T.setVm vm₁) hT hW₁⟩) with ⟨v, vm₁, ⟨U', l2, c2, s2⟩, hW₁, X', ⟨g', mk, t, L, e1, e2, hq, h1, hL, h2, h3⟩, st⟩ | ⟨q, vm₁, ⟨U', l2, c2, s2⟩, hW₁, X', ⟨g', mk, t, L, E, ce, e1, e2, hq, hce, hcv, hcl, h1, hL, h2, h3⟩, st⟩
  · dsimp only [Pt.U, Pt.locs, Pt.cells, Pt.slots] at X' e1 e2 h1 h2 h3 st
    subst h1; subst h2; subst h3
    exact Or.inl ⟨v, (T.setVm vm₁).calling g' mk (Value.ref b :: As).toArray, t, U', L, hT, X', hL, e1, e2, hq, st⟩
  · dsimp only [Pt.U, Pt.locs, Pt.cells, Pt.slots] at X' e1 e2 h1 h2 h3 st hcl
    subst h1; subst h2; subst h3
    exact Or.inr ⟨q, (T.setVm vm₁).calling g' mk (Value.ref b :: As).toArray, t, U', L, E, ce, hT, X', hL, e1, e2, hq, hce, hcv, vx_cls hW₁ hcl, st⟩
theorem vx_runSX {hh : List (Nat × Nat × Nat × Nat)} (S : CallFix p m c cc nL s args Ts own) (hM : vx_Met l y ws rm Pc Qc XC mc ms free) (cw : vx_CSW R s args own index y bytes maxL ret hh ws rm mc ms n) (hp : PreS s H Pc As)
    (hg : g.method = m) (hn : As.length = n) (hsize : g.locals.size = nL) (hstack : g.stack = As.reverse ++ rest) (hW : 2 * g.monitorRoom + (rest.map fun v => v.category).sum ≤ 8) (hdg : decode cc g.pc = .ok (.invokestatic index, 3)) (hf : cells + mc ≤ R.cells ∧ slots + ms ≤ R.slots) :
    vx_Run p l e R s m args below meth c H locs cells slots mc ms g rest (Qc As.toArray) XC free := by
  obtain ⟨⟨hrc, hrs, hfr, hlo, hws, hcw⟩, hcode, hini, hy, hlen, hl, hstt⟩ := cw
  have hK : vx_Back l R p e below s args y 3 8 (PreOf R mc ms Pc) (PostOf Qc mc ms free) (vx_Post XC mc ms free) := vx_backW (hh := hh) (bytes := bytes) (maxL := maxL) (ret := ret) hM hp.1 hrc hrs hfr hlo hws hcw (fun a' U hW => word_at hW (Or.inl (by first | rfl | simp [Cond.onTables, Cond.keeps, Cond.steady])) hini)
  obtain ⟨hx, hb, hml, ho, -⟩ := S
  intro T hT X
  rcases vx_callSX X hx (hh := hh) (bytes := bytes) (maxL := maxL) (ret := ret) ho hl hstt hini hcode hy hK hg (hsize.trans hml.symm) (argsL := As) (rest := rest) (fun sig h => hn.trans (hlen sig h)) hstack hW (by rw [hb]; exact hdg)
    (fun vm₁ hW₁ => ⟨hf.1, hf.2, hp.2 (T.setVm vm₁) hT hW₁⟩) with ⟨v, vm₁, ⟨U', l2, c2, s2⟩, hW₁, X', ⟨g', mk, t, L, e1, e2, hq, h1, hL, h2, h3⟩, st⟩ | ⟨q, vm₁, ⟨U', l2, c2, s2⟩, hW₁, X', ⟨g', mk, t, L, E, ce, e1, e2, hq, hce, hcv, hcl, h1, hL, h2, h3⟩, st⟩
  · dsimp only [Pt.U, Pt.locs, Pt.cells, Pt.slots] at X' e1 e2 h1 h2 h3 st
    subst h1; subst h2; subst h3
    exact Or.inl ⟨v, (T.setVm vm₁).calling g' mk As.toArray, t, U', L, hT, X', hL, e1, e2, hq, st⟩
  · dsimp only [Pt.U, Pt.locs, Pt.cells, Pt.slots] at X' e1 e2 h1 h2 h3 st hcl
    subst h1; subst h2; subst h3
    exact Or.inr ⟨q, (T.setVm vm₁).calling g' mk As.toArray, t, U', L, E, ce, hT, X', hL, e1, e2, hq, hce, hcv, vx_cls hW₁ hcl, st⟩
end
end VXH
theorem vx_ofWH {l : Launch} {y : MethodName} {ws ws' : List Cond} {rm : Room} {Pc : Array Value → State → Prop} {Qc : Array Value → State → Outcome → State → Prop} {XC : String → State → State → Prop} {mc ms : Nat} {free : Addr → Prop} {cc : ByteArray} {maxL : Nat} {ret : Option FieldType} {hh : List (Nat × Nat × Nat × Nat)}
    (hy : plainName y.cls = true) (hw : ws = Cond.codeWith y cc maxL ret hh :: ws')
    (body : ∀ p e s m args below meth c s₁, BodyLoose p l y (headSpec ws rm) cc maxL ret e s m args below meth c s₁ → c.maxLocals = maxL → Pc args s →
      W p l e (headSpec ws rm).room s m args below meth c s.heap [] 0 0 (vx_MQ below Qc XC args s mc ms free) (entryFrame m args maxL)) : vx_Met l y ws rm Pc Qc XC mc ms free := by
  refine MetFree.of_bodyS (code := cc) (maxLocals := maxL) (ret := ret) hy ?_ ?_
  · intro args s m h hn
    obtain ⟨m9, meth, c, hn9, h1, h2, h3, h4, -, h5, h6, -⟩ := Cond.codeWith_spec (atoms_spec (ws := ws) h _ (by rw [hw]; exact List.mem_cons_self))
    cases hn.symm.trans hn9
    exact ⟨meth, c, h1, h2, h3, h4, h5, h6⟩
  · intro p e s m args below meth c s₁ B hml hP _
    have hh0 : s₁.heap = s.heap := by rw [B.state]; rfl
    obtain ⟨t, a1, o, b1, b2, b3⟩ := body p e s m args below meth c s₁ B hml hP s₁ hh0 (Stand.of_body B)
    exact ⟨t, o, a1, b1, b2, b3⟩
/-! ===== END ===== -/
end
section
/-! ===== BEGIN printed: names, fields, word lists, decode rows ===== -/
def RX0 : String := "DotGossip$Holding"
def TX0 : u_T := fun k => match k with
  | 0 => ("DotGossip$Holding", "seen", "[I", true)
  | 1 => ("DotGossip$Holding", "numbers", "[I", true)
  | 2 => ("DotGossip$Holding", "written", "[I", true)
  | 3 => ("DotGossip$Holding", "added", "[J", true)
  | _ => ("DotGossip$Holding", "taken", "[J", true)
def tyX0 : Nat → FieldType := fun k => match k with
  | 0 => .array .int
  | 1 => .array .int
  | 2 => .array .int
  | 3 => .array .long
  | _ => .array .long
abbrev wsX00 : List Cond := u_ws RX0 TX0 5
abbrev cX0_init : ByteArray := prog_2_method_1_code
def yX0_init : MethodName := ⟨RX0, "<init>", "()V"⟩
abbrev cX0_wipe : ByteArray := prog_2_method_2_code
def yX0_wipe : MethodName := ⟨RX0, "wipe", "()V"⟩
abbrev cX0_snapshot : ByteArray := prog_2_method_3_code
def yX0_snapshot : MethodName := ⟨RX0, "snapshot", "()LDotGossip$Holding;"⟩
abbrev cX0_makeDot : ByteArray := prog_2_method_4_code
def yX0_makeDot : MethodName := ⟨RX0, "makeDot", "(II)I"⟩
abbrev cX0_forget : ByteArray := prog_2_method_5_code
def yX0_forget : MethodName := ⟨RX0, "forget", "(I)I"⟩
abbrev cX0_dotsAt : ByteArray := prog_2_method_6_code
def yX0_dotsAt : MethodName := ⟨RX0, "dotsAt", "(I)I"⟩
abbrev cX0_makerOf : ByteArray := prog_2_method_7_code
def yX0_makerOf : MethodName := ⟨RX0, "makerOf", "(II)I"⟩
abbrev cX0_numberBy : ByteArray := prog_2_method_8_code
def yX0_numberBy : MethodName := ⟨RX0, "numberBy", "(II)I"⟩
abbrev cX0_worth : ByteArray := prog_2_method_9_code
def yX0_worth : MethodName := ⟨RX0, "worth", "(I)I"⟩
abbrev cX0_merge : ByteArray := prog_2_method_10_code
def yX0_merge : MethodName := ⟨RX0, "merge", "(LDotGossip$Holding;)I"⟩
abbrev cX0_mergeDot : ByteArray := prog_2_method_11_code
def yX0_mergeDot : MethodName := ⟨RX0, "mergeDot", "(LDotGossip$Holding;II)Z"⟩
abbrev cX0_matches : ByteArray := prog_2_method_12_code
def yX0_matches : MethodName := ⟨RX0, "matches", "(LDotGossip$Holding;)Z"⟩
abbrev cX0_equalInts : ByteArray := prog_2_method_13_code
def yX0_equalInts : MethodName := ⟨RX0, "equalInts", "([I[I)Z"⟩
abbrev cX0_equalLongs : ByteArray := prog_2_method_14_code
def yX0_equalLongs : MethodName := ⟨RX0, "equalLongs", "([J[J)Z"⟩
def RX1 : String := "DotGossip$Message"
def TX1 : u_T := fun k => match k with
  | 0 => ("DotGossip$Message", "from", "I", true)
  | 1 => ("DotGossip$Message", "to", "I", false)
  | _ => ("DotGossip$Message", "sent", "LDotGossip$Holding;", true)
def tyX1 : Nat → FieldType := fun k => match k with
  | 0 => .int
  | 1 => .int
  | _ => .object "DotGossip$Holding"
abbrev wsX10 : List Cond := u_ws RX1 TX1 3
abbrev cX1_init : ByteArray := prog_3_method_1_code
def yX1_init : MethodName := ⟨RX1, "<init>", "(IILDotGossip$Holding;)V"⟩
def RX2 : String := "DotGossip"
def TX2 : u_T := fun k => match k with
  | 0 => ("DotGossip", "holdings", "[LDotGossip$Holding;", true)
  | 1 => ("DotGossip", "wire", "Ljava/util/ArrayList;", true)
  | _ => ("DotGossip", "replicaCount", "I", false)
def tyX2 : Nat → FieldType := fun k => match k with
  | 0 => .array (.object "DotGossip$Holding")
  | 1 => .object "java/util/ArrayList"
  | _ => .int
abbrev wsX20 : List Cond := u_ws RX2 TX2 3
abbrev cX2_init : ByteArray := prog_1_method_1_code
def yX2_init : MethodName := ⟨RX2, "<init>", "()V"⟩
abbrev cX2_open : ByteArray := prog_1_method_2_code
def yX2_open : MethodName := ⟨RX2, site_155.name, "(I)V"⟩
abbrev cX2_add : ByteArray := prog_1_method_3_code
def yX2_add : MethodName := ⟨RX2, "add", "(III)I"⟩
abbrev cX2_remove : ByteArray := prog_1_method_4_code
def yX2_remove : MethodName := ⟨RX2, "remove", "(III)I"⟩
abbrev cX2_clear : ByteArray := prog_1_method_5_code
def yX2_clear : MethodName := ⟨RX2, "clear", "(II)I"⟩
abbrev cX2_write : ByteArray := prog_1_method_6_code
def yX2_write : MethodName := ⟨RX2, "write", "(III)I"⟩
abbrev cX2_count : ByteArray := prog_1_method_7_code
def yX2_count : MethodName := ⟨RX2, "count", "(III)I"⟩
abbrev cX2_gossip : ByteArray := prog_1_method_8_code
def yX2_gossip : MethodName := ⟨RX2, "gossip", "(II)I"⟩
abbrev cX2_deliver : ByteArray := prog_1_method_9_code
def yX2_deliver : MethodName := ⟨RX2, "deliver", "(I)I"⟩
abbrev cX2_drop : ByteArray := prog_1_method_10_code
def yX2_drop : MethodName := ⟨RX2, "drop", "(I)I"⟩
abbrev cX2_copy : ByteArray := prog_1_method_11_code
def yX2_copy : MethodName := ⟨RX2, "copy", "(I)Z"⟩
abbrev cX2_turn : ByteArray := prog_1_method_12_code
def yX2_turn : MethodName := ⟨RX2, "turn", "(II)V"⟩
abbrev cX2_contains : ByteArray := prog_1_method_13_code
def yX2_contains : MethodName := ⟨RX2, "contains", "(III)Z"⟩
abbrev cX2_size : ByteArray := prog_1_method_14_code
def yX2_size : MethodName := ⟨RX2, "size", "(II)I"⟩
abbrev cX2_dot : ByteArray := prog_1_method_15_code
def yX2_dot : MethodName := ⟨RX2, "dot", "(IIIII)I"⟩
abbrev cX2_value : ByteArray := prog_1_method_16_code
def yX2_value : MethodName := ⟨RX2, "value", "(IIII)I"⟩
abbrev cX2_values : ByteArray := prog_1_method_17_code
def yX2_values : MethodName := ⟨RX2, "values", "(II)I"⟩
abbrev cX2_total : ByteArray := prog_1_method_18_code
def yX2_total : MethodName := ⟨RX2, "total", "(II)I"⟩
abbrev cX2_vector : ByteArray := prog_1_method_19_code
def yX2_vector : MethodName := ⟨RX2, "vector", "(II)I"⟩
abbrev cX2_same : ByteArray := prog_1_method_20_code
def yX2_same : MethodName := ⟨RX2, "same", "(II)Z"⟩
abbrev cX2_message : ByteArray := prog_1_method_21_code
def yX2_message : MethodName := ⟨RX2, "message", "(II)I"⟩
abbrev cX2_placeOfElement : ByteArray := prog_1_method_22_code
def yX2_placeOfElement : MethodName := ⟨RX2, "placeOfElement", "(II)I"⟩
abbrev cX2_requireElement : ByteArray := prog_1_method_23_code
def yX2_requireElement : MethodName := ⟨RX2, "requireElement", "(III)V"⟩
abbrev cX2_requireReplica : ByteArray := prog_1_method_24_code
def yX2_requireReplica : MethodName := ⟨RX2, "requireReplica", "(I)V"⟩
abbrev cX2_requireIndex : ByteArray := prog_1_method_25_code
def yX2_requireIndex : MethodName := ⟨RX2, "requireIndex", "(II)V"⟩
abbrev cX2_require : ByteArray := prog_1_method_26_code
def yX2_require : MethodName := ⟨RX2, "require", "(Z)V"⟩
def RX3 : String := "DotGossipModel"
def TX3 : u_T := fun k => match k with
  | 0 => ("DotGossipModel", "code", "I", false)
  | 1 => ("DotGossipModel", "replicas", "I", false)
  | 2 => ("DotGossipModel", "messages", "I", false)
  | 3 => ("DotGossipModel", "table", "[I", true)
  | 4 => ("DotGossipModel", "values", "[I", true)
  | 5 => ("DotGossipModel", "sums", "[J", true)
  | 6 => ("DotGossipModel", "from", "[I", true)
  | _ => ("DotGossipModel", "to", "[I", true)
def tyX3 : Nat → FieldType := fun k => match k with
  | 0 => .int
  | 1 => .int
  | 2 => .int
  | 3 => .array .int
  | 4 => .array .int
  | 5 => .array .long
  | 6 => .array .int
  | _ => .array .int
abbrev wsX30 : List Cond := u_ws RX3 TX3 8
abbrev cX3_init : ByteArray := prog_5_method_1_code
def yX3_init : MethodName := ⟨RX3, "<init>", "()V"⟩
abbrev cX3_thrown : ByteArray := prog_5_method_2_code
def yX3_thrown : MethodName := ⟨RX3, "thrown", "()I"⟩
abbrev cX3_refuses : ByteArray := prog_5_method_3_code
def yX3_refuses : MethodName := ⟨RX3, "refuses", "(I)Z"⟩
abbrev cX3_isReplica : ByteArray := prog_5_method_4_code
def yX3_isReplica : MethodName := ⟨RX3, "isReplica", "(I)Z"⟩
abbrev cX3_isElement : ByteArray := prog_5_method_5_code
def yX3_isElement : MethodName := ⟨RX3, "isElement", "(III)Z"⟩
abbrev cX3_isRegister : ByteArray := prog_5_method_6_code
def yX3_isRegister : MethodName := ⟨RX3, "isRegister", "(II)Z"⟩
abbrev cX3_dots : ByteArray := prog_5_method_7_code
def yX3_dots : MethodName := ⟨RX3, "dots", "(II)I"⟩
abbrev cX3_vectorAt : ByteArray := prog_5_method_8_code
def yX3_vectorAt : MethodName := ⟨RX3, "vectorAt", "(II)I"⟩
abbrev cX3_open : ByteArray := prog_5_method_9_code
def yX3_open : MethodName := ⟨RX3, site_155.name, "(I)V"⟩
abbrev cX3_many : ByteArray := prog_5_method_10_code
def yX3_many : MethodName := ⟨RX3, "many", "(II)I"⟩
abbrev cX3_empties : ByteArray := prog_5_method_11_code
def yX3_empties : MethodName := ⟨RX3, "empties", "(II)V"⟩
abbrev cX3_news : ByteArray := prog_5_method_12_code
def yX3_news : MethodName := ⟨RX3, "news", "(II)I"⟩
abbrev cX3_add : ByteArray := prog_5_method_13_code
def yX3_add : MethodName := ⟨RX3, "add", "(III)I"⟩
abbrev cX3_remove : ByteArray := prog_5_method_14_code
def yX3_remove : MethodName := ⟨RX3, "remove", "(III)I"⟩
abbrev cX3_clear : ByteArray := prog_5_method_15_code
def yX3_clear : MethodName := ⟨RX3, "clear", "(II)I"⟩
abbrev cX3_write : ByteArray := prog_5_method_16_code
def yX3_write : MethodName := ⟨RX3, "write", "(III)I"⟩
abbrev cX3_count : ByteArray := prog_5_method_17_code
def yX3_count : MethodName := ⟨RX3, "count", "(III)I"⟩
abbrev cX3_sum : ByteArray := prog_5_method_18_code
def yX3_sum : MethodName := ⟨RX3, "sum", "(II)I"⟩
abbrev cX3_copies : ByteArray := prog_5_method_19_code
def yX3_copies : MethodName := ⟨RX3, "copies", "(II)V"⟩
abbrev cX3_gossip : ByteArray := prog_5_method_20_code
def yX3_gossip : MethodName := ⟨RX3, "gossip", "(II)I"⟩
abbrev cX3_isMessage : ByteArray := prog_5_method_21_code
def yX3_isMessage : MethodName := ⟨RX3, "isMessage", "(I)Z"⟩
abbrev cX3_gone : ByteArray := prog_5_method_22_code
def yX3_gone : MethodName := ⟨RX3, "gone", "(I)V"⟩
abbrev cX3_merges : ByteArray := prog_5_method_23_code
def yX3_merges : MethodName := ⟨RX3, "merges", "(II)I"⟩
abbrev cX3_deliver : ByteArray := prog_5_method_24_code
def yX3_deliver : MethodName := ⟨RX3, "deliver", "(I)I"⟩
abbrev cX3_drop : ByteArray := prog_5_method_25_code
def yX3_drop : MethodName := ⟨RX3, "drop", "(I)I"⟩
abbrev cX3_copy : ByteArray := prog_5_method_26_code
def yX3_copy : MethodName := ⟨RX3, "copy", "(I)Z"⟩
abbrev cX3_turn : ByteArray := prog_5_method_27_code
def yX3_turn : MethodName := ⟨RX3, "turn", "(II)V"⟩
abbrev cX3_contains : ByteArray := prog_5_method_28_code
def yX3_contains : MethodName := ⟨RX3, "contains", "(III)Z"⟩
abbrev cX3_size : ByteArray := prog_5_method_29_code
def yX3_size : MethodName := ⟨RX3, "size", "(II)I"⟩
abbrev cX3_origin : ByteArray := prog_5_method_30_code
def yX3_origin : MethodName := ⟨RX3, "origin", "(III)I"⟩
abbrev cX3_dot : ByteArray := prog_5_method_31_code
def yX3_dot : MethodName := ⟨RX3, "dot", "(IIIII)I"⟩
abbrev cX3_value : ByteArray := prog_5_method_32_code
def yX3_value : MethodName := ⟨RX3, "value", "(IIII)I"⟩
abbrev cX3_values : ByteArray := prog_5_method_33_code
def yX3_values : MethodName := ⟨RX3, "values", "(II)I"⟩
abbrev cX3_total : ByteArray := prog_5_method_34_code
def yX3_total : MethodName := ⟨RX3, "total", "(II)I"⟩
abbrev cX3_vector : ByteArray := prog_5_method_35_code
def yX3_vector : MethodName := ⟨RX3, "vector", "(II)I"⟩
abbrev cX3_same : ByteArray := prog_5_method_36_code
def yX3_same : MethodName := ⟨RX3, "same", "(II)Z"⟩
abbrev cX3_message : ByteArray := prog_5_method_37_code
def yX3_message : MethodName := ⟨RX3, "message", "(II)I"⟩
def RJx145de : String := "java/io/Serializable"
def TJx145de : u_T := fun k => match k with
  | _ => ("", "", "", false)
def tyJx145de : Nat → FieldType := fun k => match k with
  | _ => .int
abbrev wsJx145de0 : List Cond := u_ws RJx145de TJx145de 0
def RJx8e188 : String := "java/lang/Cloneable"
def TJx8e188 : u_T := fun k => match k with
  | _ => ("", "", "", false)
def tyJx8e188 : Nat → FieldType := fun k => match k with
  | _ => .int
abbrev wsJx8e1880 : List Cond := u_ws RJx8e188 TJx8e188 0
def RJxab1ab : String := "java/lang/Iterable"
def TJxab1ab : u_T := fun k => match k with
  | _ => ("", "", "", false)
def tyJxab1ab : Nat → FieldType := fun k => match k with
  | _ => .int
abbrev wsJxab1ab0 : List Cond := u_ws RJxab1ab TJxab1ab 0
def RJ9 : String := "java/lang/Math"
def TJ9 : u_T := fun k => match k with
  | _ => ("", "", "", false)
def tyJ9 : Nat → FieldType := fun k => match k with
  | _ => .int
abbrev wsJ90 : List Cond := u_ws RJ9 TJ9 0
abbrev cJ9_max_7cf53 : ByteArray := prog_12_method_65_code
def yJ9_max_7cf53 : MethodName := ⟨RJ9, "max", "(II)I"⟩
abbrev cJ9_max_f86c9 : ByteArray := prog_12_method_66_code
def yJ9_max_f86c9 : MethodName := ⟨RJ9, "max", "(JJ)J"⟩
abbrev cJ9_min_7cf53 : ByteArray := prog_12_method_69_code
def yJ9_min_7cf53 : MethodName := ⟨RJ9, "min", "(II)I"⟩
def RJ10 : String := "java/lang/System"
def TJ10 : u_T := fun k => match k with
  | _ => ("", "", "", false)
def tyJ10 : Nat → FieldType := fun k => match k with
  | _ => .int
abbrev wsJ100 : List Cond := u_ws RJ10 TJ10 0
def RJxa1e45 : String := "java/util/AbstractCollection"
def TJxa1e45 : u_T := fun k => match k with
  | _ => ("", "", "", false)
def tyJxa1e45 : Nat → FieldType := fun k => match k with
  | _ => .int
abbrev wsJxa1e450 : List Cond := u_ws RJxa1e45 TJxa1e45 0
abbrev cJxa1e45_init_da8c8 : ByteArray := prog_16_method_1_code
def yJxa1e45_init_da8c8 : MethodName := ⟨RJxa1e45, "<init>", "()V"⟩
def RJxc12de : String := "java/util/AbstractList"
def TJxc12de : u_T := fun k => match k with
  | _ => ("", "", "", false)
def tyJxc12de : Nat → FieldType := fun k => match k with
  | _ => .int
abbrev wsJxc12de0 : List Cond := u_ws RJxc12de TJxc12de 0
abbrev cJxc12de_init_da8c8 : ByteArray := prog_17_method_1_code
def yJxc12de_init_da8c8 : MethodName := ⟨RJxc12de, "<init>", "()V"⟩
def RJx4a65c : String := "java/util/ArrayList"
def TJx4a65c : u_T := fun k => match k with
  | 0 => ("java/util/AbstractList", "modCount", "I", false)
  | 1 => ("java/util/ArrayList", "elementData", "[Ljava/lang/Object;", false)
  | _ => ("java/util/ArrayList", "size", "I", false)
def tyJx4a65c : Nat → FieldType := fun k => match k with
  | 0 => .int
  | 1 => .array (.object "java/lang/Object")
  | _ => .int
abbrev wsJx4a65c0 : List Cond := u_ws RJx4a65c TJx4a65c 3
abbrev cJx4a65c_init_da8c8 : ByteArray := prog_18_method_2_code
def yJx4a65c_init_da8c8 : MethodName := ⟨RJx4a65c, "<init>", "()V"⟩
abbrev cJx4a65c_grow_92f84 : ByteArray := prog_18_method_6_code
def yJx4a65c_grow_92f84 : MethodName := ⟨RJx4a65c, "grow", "(I)[Ljava/lang/Object;"⟩
abbrev cJx4a65c_grow_d5877 : ByteArray := prog_18_method_7_code
def yJx4a65c_grow_d5877 : MethodName := ⟨RJx4a65c, "grow", "()[Ljava/lang/Object;"⟩
abbrev cJx4a65c_size_8abf5 : ByteArray := prog_18_method_8_code
def yJx4a65c_size_8abf5 : MethodName := ⟨RJx4a65c, "size", "()I"⟩
abbrev cJx4a65c_elementData_915e3 : ByteArray := prog_18_method_18_code
def yJx4a65c_elementData_915e3 : MethodName := ⟨RJx4a65c, "elementData", "(I)Ljava/lang/Object;"⟩
abbrev cJx4a65c_get_915e3 : ByteArray := prog_18_method_20_code
def yJx4a65c_get_915e3 : MethodName := ⟨RJx4a65c, "get", "(I)Ljava/lang/Object;"⟩
abbrev cJx4a65c_add_72be8 : ByteArray := prog_18_method_24_code
def yJx4a65c_add_72be8 : MethodName := ⟨RJx4a65c, "add", "(Ljava/lang/Object;[Ljava/lang/Object;I)V"⟩
abbrev cJx4a65c_add_9ea2d : ByteArray := prog_18_method_25_code
def yJx4a65c_add_9ea2d : MethodName := ⟨RJx4a65c, "add", "(Ljava/lang/Object;)Z"⟩
abbrev cJx4a65c_remove_915e3 : ByteArray := prog_18_method_29_code
def yJx4a65c_remove_915e3 : MethodName := ⟨RJx4a65c, "remove", "(I)Ljava/lang/Object;"⟩
abbrev cJx4a65c_fastRemove_b59b0 : ByteArray := prog_18_method_39_code
def yJx4a65c_fastRemove_b59b0 : MethodName := ⟨RJx4a65c, "fastRemove", "([Ljava/lang/Object;I)V"⟩
abbrev cJx4a65c_clear_da8c8 : ByteArray := prog_18_method_40_code
def yJx4a65c_clear_da8c8 : MethodName := ⟨RJx4a65c, "clear", "()V"⟩
def RJ7 : String := "java/util/Arrays"
def TJ7 : u_T := fun k => match k with
  | _ => ("", "", "", false)
def tyJ7 : Nat → FieldType := fun k => match k with
  | _ => .int
abbrev wsJ70 : List Cond := u_ws RJ7 TJ7 0
abbrev cJ7_fill_d0a16 : ByteArray := prog_19_method_101_code
def yJ7_fill_d0a16 : MethodName := ⟨RJ7, "fill", "([JJ)V"⟩
abbrev cJ7_fill_53178 : ByteArray := prog_19_method_103_code
def yJ7_fill_53178 : MethodName := ⟨RJ7, "fill", "([II)V"⟩
abbrev cJ7_copyOf_1904c : ByteArray := prog_19_method_119_code
def yJ7_copyOf_1904c : MethodName := ⟨RJ7, "copyOf", "([Ljava/lang/Object;I)[Ljava/lang/Object;"⟩
abbrev cJ7_copyOf_6403c : ByteArray := prog_19_method_120_code
def yJ7_copyOf_6403c : MethodName := ⟨RJ7, "copyOf", "([Ljava/lang/Object;ILjava/lang/Class;)[Ljava/lang/Object;"⟩
def RJx5ef63 : String := "java/util/Collection"
def TJx5ef63 : u_T := fun k => match k with
  | _ => ("", "", "", false)
def tyJx5ef63 : Nat → FieldType := fun k => match k with
  | _ => .int
abbrev wsJx5ef630 : List Cond := u_ws RJx5ef63 TJx5ef63 0
def RJxbd725 : String := "java/util/List"
def TJxbd725 : u_T := fun k => match k with
  | _ => ("", "", "", false)
def tyJxbd725 : Nat → FieldType := fun k => match k with
  | _ => .int
abbrev wsJxbd7250 : List Cond := u_ws RJxbd725 TJxbd725 0
def RJ15 : String := "java/util/Objects"
def TJ15 : u_T := fun k => match k with
  | _ => ("", "", "", false)
def tyJ15 : Nat → FieldType := fun k => match k with
  | _ => .int
abbrev wsJ150 : List Cond := u_ws RJ15 TJ15 0
abbrev cJ15_checkIndex_7cf53 : ByteArray := prog_22_method_17_code
def yJ15_checkIndex_7cf53 : MethodName := ⟨RJ15, "checkIndex", "(II)I"⟩
def RJxf0a74 : String := "java/util/RandomAccess"
def TJxf0a74 : u_T := fun k => match k with
  | _ => ("", "", "", false)
def tyJxf0a74 : Nat → FieldType := fun k => match k with
  | _ => .int
abbrev wsJxf0a740 : List Cond := u_ws RJxf0a74 TJxf0a74 0
def RJxa66e6 : String := "java/util/SequencedCollection"
def TJxa66e6 : u_T := fun k => match k with
  | _ => ("", "", "", false)
def tyJxa66e6 : Nat → FieldType := fun k => match k with
  | _ => .int
abbrev wsJxa66e60 : List Cond := u_ws RJxa66e6 TJxa66e6 0
def RJ8 : String := "jdk/internal/util/ArraysSupport"
def TJ8 : u_T := fun k => match k with
  | _ => ("", "", "", false)
def tyJ8 : Nat → FieldType := fun k => match k with
  | _ => .int
abbrev wsJ80 : List Cond := u_ws RJ8 TJ8 0
abbrev cJ8_newLength_cabcc : ByteArray := prog_25_method_27_code
def yJ8_newLength_cabcc : MethodName := ⟨RJ8, "newLength", "(III)I"⟩
abbrev cJ8_hugeLength_7cf53 : ByteArray := prog_25_method_28_code
def yJ8_hugeLength_7cf53 : MethodName := ⟨RJ8, "hugeLength", "(II)I"⟩
def RJ3 : String := "jdk/internal/util/Preconditions"
def TJ3 : u_T := fun k => match k with
  | _ => ("", "", "", false)
def tyJ3 : Nat → FieldType := fun k => match k with
  | _ => .int
abbrev wsJ30 : List Cond := u_ws RJ3 TJ3 0
abbrev cJ3_checkIndex_8e157 : ByteArray := prog_26_method_11_code
def yJ3_checkIndex_8e157 : MethodName := ⟨RJ3, "checkIndex", "(IILjava/util/function/BiFunction;)I"⟩
def RL : String := "DotGossipLaw"
abbrev cL_open : ByteArray := method_3_code
def yL_open : MethodName := ⟨RL, site_155.name, "(LDotGossip;I)I"⟩
abbrev cL_add : ByteArray := method_4_code
def yL_add : MethodName := ⟨RL, "add", "(LDotGossip;III[J)I"⟩
abbrev cL_remove : ByteArray := method_5_code
def yL_remove : MethodName := ⟨RL, "remove", "(LDotGossip;III[J)I"⟩
abbrev cL_clear : ByteArray := method_6_code
def yL_clear : MethodName := ⟨RL, "clear", "(LDotGossip;II[J)I"⟩
abbrev cL_write : ByteArray := method_7_code
def yL_write : MethodName := ⟨RL, "write", "(LDotGossip;III[J)I"⟩
abbrev cL_count : ByteArray := method_8_code
def yL_count : MethodName := ⟨RL, "count", "(LDotGossip;III[J)I"⟩
abbrev cL_gossip : ByteArray := method_9_code
def yL_gossip : MethodName := ⟨RL, "gossip", "(LDotGossip;II[J)I"⟩
abbrev cL_deliver : ByteArray := method_10_code
def yL_deliver : MethodName := ⟨RL, "deliver", "(LDotGossip;I[J)I"⟩
abbrev cL_drop : ByteArray := method_11_code
def yL_drop : MethodName := ⟨RL, "drop", "(LDotGossip;I[J)I"⟩
abbrev cL_copy : ByteArray := method_12_code
def yL_copy : MethodName := ⟨RL, "copy", "(LDotGossip;I[J)I"⟩
abbrev cL_turn : ByteArray := method_13_code
def yL_turn : MethodName := ⟨RL, "turn", "(LDotGossip;II)I"⟩
abbrev cL_contains : ByteArray := method_14_code
def yL_contains : MethodName := ⟨RL, "contains", "(LDotGossip;III[J)I"⟩
abbrev cL_size : ByteArray := method_15_code
def yL_size : MethodName := ⟨RL, "size", "(LDotGossip;II[J)I"⟩
abbrev cL_dot : ByteArray := method_16_code
def yL_dot : MethodName := ⟨RL, "dot", "(LDotGossip;IIIII[J)I"⟩
abbrev cL_value : ByteArray := method_17_code
def yL_value : MethodName := ⟨RL, "value", "(LDotGossip;IIII[J)I"⟩
abbrev cL_values : ByteArray := method_18_code
def yL_values : MethodName := ⟨RL, "values", "(LDotGossip;II[J)I"⟩
abbrev cL_total : ByteArray := method_19_code
def yL_total : MethodName := ⟨RL, "total", "(LDotGossip;II[J)I"⟩
abbrev cL_vector : ByteArray := method_20_code
def yL_vector : MethodName := ⟨RL, "vector", "(LDotGossip;II[J)I"⟩
abbrev cL_same : ByteArray := method_21_code
def yL_same : MethodName := ⟨RL, "same", "(LDotGossip;II[J)I"⟩
abbrev cL_message : ByteArray := method_22_code
def yL_message : MethodName := ⟨RL, "message", "(LDotGossip;II[J)I"⟩
abbrev cL_law : ByteArray := code
def yL_law : MethodName := ⟨RL, "law", "([I)Z"⟩
def wsX0_init : List Cond := .code yX0_init cX0_init 1 none :: ([.methodLink RX0 3 objectInit, .instanceMethod objectInit, .code objectInit ⟨#[0xb1]⟩ 1 none, .arrayClass .int, .fieldLink RX0 9 "DotGossip$Holding" "seen" "[I", .fieldLink RX0 15 "DotGossip$Holding" "numbers" "[I", .fieldLink RX0 18 "DotGossip$Holding" "written" "[I", .arrayClass .long, .fieldLink RX0 21 "DotGossip$Holding" "added" "[J", .fieldLink RX0 25 "DotGossip$Holding" "taken" "[J"] ++ wsX00)
def wsJ7_fill_53178 : List Cond := .code yJ7_fill_53178 cJ7_fill_53178 4 none :: ([])
def wsJ7_fill_d0a16 : List Cond := .code yJ7_fill_d0a16 cJ7_fill_d0a16 5 none :: ([])
def wsX0_wipe : List Cond := .code yX0_wipe cX0_wipe 1 none :: ([.fieldLink RX0 9 "DotGossip$Holding" "seen" "[I", .fieldLink RX0 15 "DotGossip$Holding" "numbers" "[I", .fieldLink RX0 18 "DotGossip$Holding" "written" "[I", .fieldLink RX0 21 "DotGossip$Holding" "added" "[J", .fieldLink RX0 25 "DotGossip$Holding" "taken" "[J", .methodLink RX0 28 yJ7_fill_53178, .static yJ7_fill_53178, .initialized RJ7, .code yJ7_fill_53178 cJ7_fill_53178 4 none, .methodLink RX0 34 yJ7_fill_d0a16, .static yJ7_fill_d0a16, .code yJ7_fill_d0a16 cJ7_fill_d0a16 5 none] ++ wsX00)
def wsX0_snapshot : List Cond := .code yX0_snapshot cX0_snapshot 2 (some (.object "DotGossip$Holding")) :: ([.classLink RX0 10 RX0, .instantiable RX0 5, .initialized RX0, .fieldLink RX0 9 "DotGossip$Holding" "seen" "[I", .methodLink RX0 38 arraycopyName, .native arraycopyName, .static arraycopyName, .initialized "java/lang/System", .fieldLink RX0 15 "DotGossip$Holding" "numbers" "[I", .fieldLink RX0 18 "DotGossip$Holding" "written" "[I", .fieldLink RX0 21 "DotGossip$Holding" "added" "[J", .fieldLink RX0 25 "DotGossip$Holding" "taken" "[J", .methodLink RX0 37 yX0_init, .instanceMethod yX0_init, .code yX0_init cX0_init 1 none, .methodLink RX0 3 objectInit, .instanceMethod objectInit, .code objectInit ⟨#[0xb1]⟩ 1 none, .arrayClass .int, .arrayClass .long] ++ wsX00)
def wsX0_makeDot : List Cond := .code yX0_makeDot cX0_makeDot 3 (some .int) :: ([.fieldLink RX0 9 "DotGossip$Holding" "seen" "[I", .fieldLink RX0 15 "DotGossip$Holding" "numbers" "[I"] ++ wsX00)
def wsX0_dotsAt : List Cond := .code yX0_dotsAt cX0_dotsAt 4 (some .int) :: ([.fieldLink RX0 15 "DotGossip$Holding" "numbers" "[I"] ++ wsX00)
def wsX0_forget : List Cond := .code yX0_forget cX0_forget 4 (some .int) :: ([.fieldLink RX0 15 "DotGossip$Holding" "numbers" "[I", .methodLink RX0 44 yX0_dotsAt, .instanceMethod yX0_dotsAt, .selects RX0 yX0_dotsAt yX0_dotsAt, .initialized RX0, .code yX0_dotsAt cX0_dotsAt 4 (some .int)] ++ wsX00)
def wsX0_makerOf : List Cond := .code yX0_makerOf cX0_makerOf 5 (some .int) :: ([.fieldLink RX0 15 "DotGossip$Holding" "numbers" "[I"] ++ wsX00)
def wsX0_numberBy : List Cond := .code yX0_numberBy cX0_numberBy 3 (some .int) :: ([.fieldLink RX0 15 "DotGossip$Holding" "numbers" "[I"] ++ wsX00)
def wsX0_worth : List Cond := .code yX0_worth cX0_worth 6 (some .int) :: ([.fieldLink RX0 21 "DotGossip$Holding" "added" "[J", .fieldLink RX0 25 "DotGossip$Holding" "taken" "[J"] ++ wsX00)
def wsX0_mergeDot : List Cond := .code yX0_mergeDot cX0_mergeDot 7 (some .boolean) :: ([.fieldLink RX0 15 "DotGossip$Holding" "numbers" "[I", .fieldLink RX0 9 "DotGossip$Holding" "seen" "[I", .fieldLink RX0 18 "DotGossip$Holding" "written" "[I"] ++ wsX00)
def wsX0_merge : List Cond := .code yX0_merge cX0_merge 5 (some .int) :: ([.fieldLink RX0 9 "DotGossip$Holding" "seen" "[I", .methodLink RX0 52 Lib.Math.max.name, .static Lib.Math.max.name, .initialized "java/lang/Math", .code Lib.Math.max.name Lib.Math.max.code 2 (some .int), .fieldLink RX0 21 "DotGossip$Holding" "added" "[J", .methodLink RX0 58 Lib.MathLoose.max_long.x, .static Lib.MathLoose.max_long.x, .code Lib.MathLoose.max_long.x Lib.MathLoose.max_long.code 4 (some .long), .fieldLink RX0 25 "DotGossip$Holding" "taken" "[J", .methodLink RX0 48 yX0_mergeDot, .instanceMethod yX0_mergeDot, .selects RX0 yX0_mergeDot yX0_mergeDot, .initialized RX0, .code yX0_mergeDot cX0_mergeDot 7 (some .boolean), .fieldLink RX0 15 "DotGossip$Holding" "numbers" "[I", .fieldLink RX0 18 "DotGossip$Holding" "written" "[I"] ++ wsX00)
def wsX0_equalInts : List Cond := .code yX0_equalInts cX0_equalInts 3 (some .boolean) :: ([])
def wsX0_equalLongs : List Cond := .code yX0_equalLongs cX0_equalLongs 3 (some .boolean) :: ([])
def wsX0_matches : List Cond := .code yX0_matches cX0_matches 2 (some .boolean) :: ([.fieldLink RX0 9 "DotGossip$Holding" "seen" "[I", .fieldLink RX0 15 "DotGossip$Holding" "numbers" "[I", .fieldLink RX0 21 "DotGossip$Holding" "added" "[J", .fieldLink RX0 25 "DotGossip$Holding" "taken" "[J", .methodLink RX0 61 yX0_equalInts, .static yX0_equalInts, .initialized RX0, .code yX0_equalInts cX0_equalInts 3 (some .boolean), .methodLink RX0 65 yX0_equalLongs, .static yX0_equalLongs, .code yX0_equalLongs cX0_equalLongs 3 (some .boolean)] ++ wsX00)
def wsX1_init : List Cond := .code yX1_init cX1_init 4 none :: ([.methodLink RX1 1 objectInit, .instanceMethod objectInit, .code objectInit ⟨#[0xb1]⟩ 1 none, .fieldLink RX1 7 "DotGossip$Message" "from" "I", .fieldLink RX1 13 "DotGossip$Message" "to" "I", .fieldLink RX1 16 "DotGossip$Message" "sent" "LDotGossip$Holding;"] ++ wsX10)
def wsJxa1e45_init_da8c8 : List Cond := .code yJxa1e45_init_da8c8 cJxa1e45_init_da8c8 1 none :: ([.methodLink RJxa1e45 1 objectInit, .instanceMethod objectInit, .code objectInit ⟨#[0xb1]⟩ 1 none])
def wsJxc12de_init_da8c8 : List Cond := .code yJxc12de_init_da8c8 cJxc12de_init_da8c8 1 none :: ([.fieldLink RJxc12de 7 "java/util/AbstractList" "modCount" "I", .methodLink RJxc12de 1 yJxa1e45_init_da8c8, .instanceMethod yJxa1e45_init_da8c8, .initialized RJxa1e45, .code yJxa1e45_init_da8c8 cJxa1e45_init_da8c8 1 none, .methodLink RJxa1e45 1 objectInit, .instanceMethod objectInit, .code objectInit ⟨#[0xb1]⟩ 1 none] ++ wsJx4a65c0)
def wsJx4a65c_init_da8c8 : List Cond := .code yJx4a65c_init_da8c8 cJx4a65c_init_da8c8 1 none :: ([.fieldLink RJx4a65c 39 "java/util/ArrayList" "DEFAULTCAPACITY_EMPTY_ELEMENTDATA" "[Ljava/lang/Object;", .fieldLink RJx4a65c 9 "java/util/ArrayList" "elementData" "[Ljava/lang/Object;", .methodLink RJx4a65c 1 yJxc12de_init_da8c8, .instanceMethod yJxc12de_init_da8c8, .initialized RJxc12de, .code yJxc12de_init_da8c8 cJxc12de_init_da8c8 1 none, .fieldLink RJxc12de 7 "java/util/AbstractList" "modCount" "I", .methodLink RJxc12de 1 yJxa1e45_init_da8c8, .instanceMethod yJxa1e45_init_da8c8, .initialized RJxa1e45, .code yJxa1e45_init_da8c8 cJxa1e45_init_da8c8 1 none, .methodLink RJxa1e45 1 objectInit, .instanceMethod objectInit, .code objectInit ⟨#[0xb1]⟩ 1 none] ++ wsJx4a65c0)
def wsX2_init_r1 : List Cond := [Cond.methodLink RX2 3 objectInit, Cond.instanceMethod objectInit, Cond.code objectInit ⟨#[0xb1]⟩ 1 none, Cond.classLink RX2 9 RX0, Cond.fieldLink RX2 11 "DotGossip" "holdings" "[LDotGossip$Holding;", Cond.instantiable RX0 5, Cond.initialized RX0, Cond.classLink RX2 16 RJx4a65c, Cond.instantiable RJx4a65c 3, Cond.initialized RJx4a65c, Cond.fieldLink RX2 19 "DotGossip" "wire" "Ljava/util/ArrayList;", Cond.fieldLink RX2 23 "DotGossip" "replicaCount" "I", Cond.methodLink RX2 15 yX0_init, Cond.instanceMethod yX0_init, Cond.code yX0_init cX0_init 1 none, Cond.methodLink RX0 3 objectInit, Cond.arrayClass .int, Cond.fieldLink RX0 9 "DotGossip$Holding" "seen" "[I", Cond.fieldLink RX0 15 "DotGossip$Holding" "numbers" "[I", Cond.fieldLink RX0 18 "DotGossip$Holding" "written" "[I", Cond.arrayClass .long, Cond.fieldLink RX0 21 "DotGossip$Holding" "added" "[J", Cond.fieldLink RX0 25 "DotGossip$Holding" "taken" "[J", Cond.methodLink RX2 18 yJx4a65c_init_da8c8]
def wsX2_init_r2 : List Cond := [Cond.instanceMethod yJx4a65c_init_da8c8, Cond.code yJx4a65c_init_da8c8 cJx4a65c_init_da8c8 1 none, Cond.fieldLink RJx4a65c 39 "java/util/ArrayList" "DEFAULTCAPACITY_EMPTY_ELEMENTDATA" "[Ljava/lang/Object;", Cond.fieldLink RJx4a65c 9 "java/util/ArrayList" "elementData" "[Ljava/lang/Object;", Cond.methodLink RJx4a65c 1 yJxc12de_init_da8c8, Cond.instanceMethod yJxc12de_init_da8c8, Cond.initialized RJxc12de, Cond.code yJxc12de_init_da8c8 cJxc12de_init_da8c8 1 none, Cond.fieldLink RJxc12de 7 "java/util/AbstractList" "modCount" "I", Cond.methodLink RJxc12de 1 yJxa1e45_init_da8c8, Cond.instanceMethod yJxa1e45_init_da8c8, Cond.initialized RJxa1e45, Cond.code yJxa1e45_init_da8c8 cJxa1e45_init_da8c8 1 none, Cond.methodLink RJxa1e45 1 objectInit]
def wsX2_init : List Cond := .code yX2_init cX2_init 2 none :: ((wsX2_init_r1 ++ wsX2_init_r2) ++ wsX20 ++ wsX00 ++ wsJx4a65c0)
def wsX2_require : List Cond := .code yX2_require cX2_require 1 none :: ([.classLink RX2 131 "java/lang/IllegalArgumentException", .initialized "java/lang/IllegalArgumentException"] ++ (vx_at0 RX2 133 "java/lang/IllegalArgumentException" ["java/lang/RuntimeException", "java/lang/Exception"]).filter goodWord)
def wsJx4a65c_clear_da8c8 : List Cond := .code yJx4a65c_clear_da8c8 cJx4a65c_clear_da8c8 4 none :: ([.fieldLink RJx4a65c 63 "java/util/ArrayList" "modCount" "I", .sameField "java/util/ArrayList" "java/util/AbstractList" "modCount" "I", .fieldLink RJx4a65c 9 "java/util/ArrayList" "elementData" "[Ljava/lang/Object;", .fieldLink RJx4a65c 48 "java/util/ArrayList" "size" "I"] ++ wsJx4a65c0)
def wsX2_open_r1 : List Cond := [Cond.fieldLink RX2 11 "DotGossip" "holdings" "[LDotGossip$Holding;", Cond.fieldLink RX2 19 "DotGossip" "wire" "Ljava/util/ArrayList;", Cond.fieldLink RX2 23 "DotGossip" "replicaCount" "I", Cond.methodLink RX2 27 yX2_require, Cond.static yX2_require, Cond.initialized RX2, Cond.code yX2_require cX2_require 1 none, Cond.classLink RX2 131 "java/lang/IllegalArgumentException", Cond.initialized "java/lang/IllegalArgumentException", Cond.methodLink RX2 31 yX0_wipe, Cond.instanceMethod yX0_wipe, Cond.selects RX0 yX0_wipe yX0_wipe, Cond.initialized RX0, Cond.code yX0_wipe cX0_wipe 1 none, Cond.fieldLink RX0 9 "DotGossip$Holding" "seen" "[I", Cond.fieldLink RX0 15 "DotGossip$Holding" "numbers" "[I", Cond.fieldLink RX0 18 "DotGossip$Holding" "written" "[I", Cond.fieldLink RX0 21 "DotGossip$Holding" "added" "[J", Cond.fieldLink RX0 25 "DotGossip$Holding" "taken" "[J", Cond.methodLink RX0 28 yJ7_fill_53178, Cond.static yJ7_fill_53178, Cond.initialized RJ7, Cond.code yJ7_fill_53178 cJ7_fill_53178 4 none, Cond.methodLink RX0 34 yJ7_fill_d0a16]
def wsX2_open_r2 : List Cond := [Cond.static yJ7_fill_d0a16, Cond.code yJ7_fill_d0a16 cJ7_fill_d0a16 5 none, Cond.methodLink RX2 34 yJx4a65c_clear_da8c8, Cond.instanceMethod yJx4a65c_clear_da8c8, Cond.selects RJx4a65c yJx4a65c_clear_da8c8 yJx4a65c_clear_da8c8, Cond.initialized RJx4a65c, Cond.code yJx4a65c_clear_da8c8 cJx4a65c_clear_da8c8 4 none, Cond.fieldLink RJx4a65c 63 "java/util/ArrayList" "modCount" "I", Cond.sameField "java/util/ArrayList" "java/util/AbstractList" "modCount" "I", Cond.fieldLink RJx4a65c 9 "java/util/ArrayList" "elementData" "[Ljava/lang/Object;", Cond.fieldLink RJx4a65c 48 "java/util/ArrayList" "size" "I"]
def wsX2_open : List Cond := .code yX2_open cX2_open 3 none :: ((wsX2_open_r1 ++ wsX2_open_r2) ++ wsX20 ++ wsX00 ++ wsJx4a65c0 ++ (vx_at0 RX2 133 "java/lang/IllegalArgumentException" ["java/lang/RuntimeException", "java/lang/Exception"]).filter goodWord)
def wsX2_requireIndex : List Cond := .code yX2_requireIndex cX2_requireIndex 2 none :: ([.methodLink RX2 27 yX2_require, .static yX2_require, .initialized RX2, .code yX2_require cX2_require 1 none, .classLink RX2 131 "java/lang/IllegalArgumentException", .initialized "java/lang/IllegalArgumentException"] ++ (vx_at0 RX2 133 "java/lang/IllegalArgumentException" ["java/lang/RuntimeException", "java/lang/Exception"]).filter goodWord)
def wsX2_requireReplica : List Cond := .code yX2_requireReplica cX2_requireReplica 2 none :: ([.fieldLink RX2 23 "DotGossip" "replicaCount" "I", .methodLink RX2 56 yX2_requireIndex, .static yX2_requireIndex, .initialized RX2, .code yX2_requireIndex cX2_requireIndex 2 none, .methodLink RX2 27 yX2_require, .static yX2_require, .code yX2_require cX2_require 1 none, .classLink RX2 131 "java/lang/IllegalArgumentException", .initialized "java/lang/IllegalArgumentException"] ++ wsX20 ++ (vx_at0 RX2 133 "java/lang/IllegalArgumentException" ["java/lang/RuntimeException", "java/lang/Exception"]).filter goodWord)
def wsX2_requireElement : List Cond := .code yX2_requireElement cX2_requireElement 4 none :: ([.methodLink RX2 52 yX2_requireReplica, .instanceMethod yX2_requireReplica, .selects RX2 yX2_requireReplica yX2_requireReplica, .initialized RX2, .code yX2_requireReplica cX2_requireReplica 2 none, .fieldLink RX2 23 "DotGossip" "replicaCount" "I", .methodLink RX2 56 yX2_requireIndex, .static yX2_requireIndex, .code yX2_requireIndex cX2_requireIndex 2 none, .methodLink RX2 27 yX2_require, .static yX2_require, .code yX2_require cX2_require 1 none, .classLink RX2 131 "java/lang/IllegalArgumentException", .initialized "java/lang/IllegalArgumentException"] ++ wsX20 ++ (vx_at0 RX2 133 "java/lang/IllegalArgumentException" ["java/lang/RuntimeException", "java/lang/Exception"]).filter goodWord)
def wsX2_placeOfElement : List Cond := .code yX2_placeOfElement cX2_placeOfElement 2 (some .int) :: ([])
def wsX2_add_r1 : List Cond := [Cond.fieldLink RX2 11 "DotGossip" "holdings" "[LDotGossip$Holding;", Cond.methodLink RX2 37 yX2_requireElement, Cond.instanceMethod yX2_requireElement, Cond.selects RX2 yX2_requireElement yX2_requireElement, Cond.initialized RX2, Cond.code yX2_requireElement cX2_requireElement 4 none, Cond.methodLink RX2 52 yX2_requireReplica, Cond.instanceMethod yX2_requireReplica, Cond.selects RX2 yX2_requireReplica yX2_requireReplica, Cond.code yX2_requireReplica cX2_requireReplica 2 none, Cond.fieldLink RX2 23 "DotGossip" "replicaCount" "I", Cond.methodLink RX2 56 yX2_requireIndex, Cond.static yX2_requireIndex, Cond.code yX2_requireIndex cX2_requireIndex 2 none, Cond.methodLink RX2 27 yX2_require, Cond.static yX2_require, Cond.code yX2_require cX2_require 1 none, Cond.classLink RX2 131 "java/lang/IllegalArgumentException", Cond.initialized "java/lang/IllegalArgumentException", Cond.methodLink RX2 41 yX2_placeOfElement, Cond.static yX2_placeOfElement, Cond.code yX2_placeOfElement cX2_placeOfElement 2 (some .int), Cond.methodLink RX2 45 yX0_forget, Cond.instanceMethod yX0_forget]
def wsX2_add_r2 : List Cond := [Cond.selects RX0 yX0_forget yX0_forget, Cond.initialized RX0, Cond.code yX0_forget cX0_forget 4 (some .int), Cond.fieldLink RX0 15 "DotGossip$Holding" "numbers" "[I", Cond.methodLink RX0 44 yX0_dotsAt, Cond.instanceMethod yX0_dotsAt, Cond.selects RX0 yX0_dotsAt yX0_dotsAt, Cond.code yX0_dotsAt cX0_dotsAt 4 (some .int), Cond.methodLink RX2 49 yX0_makeDot, Cond.instanceMethod yX0_makeDot, Cond.selects RX0 yX0_makeDot yX0_makeDot, Cond.code yX0_makeDot cX0_makeDot 3 (some .int), Cond.fieldLink RX0 9 "DotGossip$Holding" "seen" "[I"]
def wsX2_add : List Cond := .code yX2_add cX2_add 6 (some .int) :: ((wsX2_add_r1 ++ wsX2_add_r2) ++ wsX20 ++ wsX00 ++ (vx_at0 RX2 133 "java/lang/IllegalArgumentException" ["java/lang/RuntimeException", "java/lang/Exception"]).filter goodWord)
def wsX2_remove_r1 : List Cond := [Cond.fieldLink RX2 11 "DotGossip" "holdings" "[LDotGossip$Holding;", Cond.methodLink RX2 37 yX2_requireElement, Cond.instanceMethod yX2_requireElement, Cond.selects RX2 yX2_requireElement yX2_requireElement, Cond.initialized RX2, Cond.code yX2_requireElement cX2_requireElement 4 none, Cond.methodLink RX2 52 yX2_requireReplica, Cond.instanceMethod yX2_requireReplica, Cond.selects RX2 yX2_requireReplica yX2_requireReplica, Cond.code yX2_requireReplica cX2_requireReplica 2 none, Cond.fieldLink RX2 23 "DotGossip" "replicaCount" "I", Cond.methodLink RX2 56 yX2_requireIndex, Cond.static yX2_requireIndex, Cond.code yX2_requireIndex cX2_requireIndex 2 none, Cond.methodLink RX2 27 yX2_require, Cond.static yX2_require, Cond.code yX2_require cX2_require 1 none, Cond.classLink RX2 131 "java/lang/IllegalArgumentException", Cond.initialized "java/lang/IllegalArgumentException", Cond.methodLink RX2 41 yX2_placeOfElement, Cond.static yX2_placeOfElement, Cond.code yX2_placeOfElement cX2_placeOfElement 2 (some .int), Cond.methodLink RX2 45 yX0_forget, Cond.instanceMethod yX0_forget]
def wsX2_remove_r2 : List Cond := [Cond.selects RX0 yX0_forget yX0_forget, Cond.initialized RX0, Cond.code yX0_forget cX0_forget 4 (some .int), Cond.fieldLink RX0 15 "DotGossip$Holding" "numbers" "[I", Cond.methodLink RX0 44 yX0_dotsAt, Cond.instanceMethod yX0_dotsAt, Cond.selects RX0 yX0_dotsAt yX0_dotsAt, Cond.code yX0_dotsAt cX0_dotsAt 4 (some .int)]
def wsX2_remove : List Cond := .code yX2_remove cX2_remove 4 (some .int) :: ((wsX2_remove_r1 ++ wsX2_remove_r2) ++ wsX20 ++ wsX00 ++ (vx_at0 RX2 133 "java/lang/IllegalArgumentException" ["java/lang/RuntimeException", "java/lang/Exception"]).filter goodWord)
def wsX2_clear_r1 : List Cond := [Cond.fieldLink RX2 11 "DotGossip" "holdings" "[LDotGossip$Holding;", Cond.methodLink RX2 52 yX2_requireReplica, Cond.instanceMethod yX2_requireReplica, Cond.selects RX2 yX2_requireReplica yX2_requireReplica, Cond.initialized RX2, Cond.code yX2_requireReplica cX2_requireReplica 2 none, Cond.fieldLink RX2 23 "DotGossip" "replicaCount" "I", Cond.methodLink RX2 56 yX2_requireIndex, Cond.static yX2_requireIndex, Cond.code yX2_requireIndex cX2_requireIndex 2 none, Cond.methodLink RX2 27 yX2_require, Cond.static yX2_require, Cond.code yX2_require cX2_require 1 none, Cond.classLink RX2 131 "java/lang/IllegalArgumentException", Cond.initialized "java/lang/IllegalArgumentException", Cond.methodLink RX2 41 yX2_placeOfElement, Cond.static yX2_placeOfElement, Cond.code yX2_placeOfElement cX2_placeOfElement 2 (some .int), Cond.methodLink RX2 45 yX0_forget, Cond.instanceMethod yX0_forget, Cond.selects RX0 yX0_forget yX0_forget, Cond.initialized RX0, Cond.code yX0_forget cX0_forget 4 (some .int), Cond.fieldLink RX0 15 "DotGossip$Holding" "numbers" "[I"]
def wsX2_clear_r2 : List Cond := [Cond.methodLink RX0 44 yX0_dotsAt, Cond.instanceMethod yX0_dotsAt, Cond.selects RX0 yX0_dotsAt yX0_dotsAt, Cond.code yX0_dotsAt cX0_dotsAt 4 (some .int)]
def wsX2_clear : List Cond := .code yX2_clear cX2_clear 5 (some .int) :: ((wsX2_clear_r1 ++ wsX2_clear_r2) ++ wsX20 ++ wsX00 ++ (vx_at0 RX2 133 "java/lang/IllegalArgumentException" ["java/lang/RuntimeException", "java/lang/Exception"]).filter goodWord)
def wsX2_write_r1 : List Cond := [Cond.fieldLink RX2 11 "DotGossip" "holdings" "[LDotGossip$Holding;", Cond.fieldLink RX2 60 "DotGossip$Holding" "written" "[I", Cond.methodLink RX2 52 yX2_requireReplica, Cond.instanceMethod yX2_requireReplica, Cond.selects RX2 yX2_requireReplica yX2_requireReplica, Cond.initialized RX2, Cond.code yX2_requireReplica cX2_requireReplica 2 none, Cond.fieldLink RX2 23 "DotGossip" "replicaCount" "I", Cond.methodLink RX2 56 yX2_requireIndex, Cond.static yX2_requireIndex, Cond.code yX2_requireIndex cX2_requireIndex 2 none, Cond.methodLink RX2 27 yX2_require, Cond.static yX2_require, Cond.code yX2_require cX2_require 1 none, Cond.classLink RX2 131 "java/lang/IllegalArgumentException", Cond.initialized "java/lang/IllegalArgumentException", Cond.methodLink RX2 45 yX0_forget, Cond.instanceMethod yX0_forget, Cond.selects RX0 yX0_forget yX0_forget, Cond.initialized RX0, Cond.code yX0_forget cX0_forget 4 (some .int), Cond.fieldLink RX0 15 "DotGossip$Holding" "numbers" "[I", Cond.methodLink RX0 44 yX0_dotsAt, Cond.instanceMethod yX0_dotsAt]
def wsX2_write_r2 : List Cond := [Cond.selects RX0 yX0_dotsAt yX0_dotsAt, Cond.code yX0_dotsAt cX0_dotsAt 4 (some .int), Cond.methodLink RX2 49 yX0_makeDot, Cond.instanceMethod yX0_makeDot, Cond.selects RX0 yX0_makeDot yX0_makeDot, Cond.code yX0_makeDot cX0_makeDot 3 (some .int), Cond.fieldLink RX0 9 "DotGossip$Holding" "seen" "[I"]
def wsX2_write : List Cond := .code yX2_write cX2_write 7 (some .int) :: ((wsX2_write_r1 ++ wsX2_write_r2) ++ wsX20 ++ wsX00 ++ (vx_at0 RX2 133 "java/lang/IllegalArgumentException" ["java/lang/RuntimeException", "java/lang/Exception"]).filter goodWord)
def wsX2_count : List Cond := .code yX2_count cX2_count 6 (some .int) :: ([.fieldLink RX2 11 "DotGossip" "holdings" "[LDotGossip$Holding;", .fieldLink RX2 64 "DotGossip$Holding" "added" "[J", .fieldLink RX2 68 "DotGossip$Holding" "taken" "[J", .methodLink RX2 52 yX2_requireReplica, .instanceMethod yX2_requireReplica, .selects RX2 yX2_requireReplica yX2_requireReplica, .initialized RX2, .code yX2_requireReplica cX2_requireReplica 2 none, .fieldLink RX2 23 "DotGossip" "replicaCount" "I", .methodLink RX2 56 yX2_requireIndex, .static yX2_requireIndex, .code yX2_requireIndex cX2_requireIndex 2 none, .methodLink RX2 27 yX2_require, .static yX2_require, .code yX2_require cX2_require 1 none, .classLink RX2 131 "java/lang/IllegalArgumentException", .initialized "java/lang/IllegalArgumentException", .methodLink RX2 71 yX0_worth, .instanceMethod yX0_worth, .selects RX0 yX0_worth yX0_worth, .initialized RX0, .code yX0_worth cX0_worth 6 (some .int), .fieldLink RX0 21 "DotGossip$Holding" "added" "[J", .fieldLink RX0 25 "DotGossip$Holding" "taken" "[J"] ++ wsX20 ++ wsX00 ++ (vx_at0 RX2 133 "java/lang/IllegalArgumentException" ["java/lang/RuntimeException", "java/lang/Exception"]).filter goodWord)
def wsJx4a65c_size_8abf5 : List Cond := .code yJx4a65c_size_8abf5 cJx4a65c_size_8abf5 1 (some .int) :: ([.fieldLink RJx4a65c 48 "java/util/ArrayList" "size" "I"] ++ wsJx4a65c0)
def wsJ8_hugeLength_7cf53 : List Cond := .code yJ8_hugeLength_7cf53 cJ8_hugeLength_7cf53 3 (some .int) :: ([.constant RJ8 200 (2147483639)])
def wsJ8_newLength_cabcc : List Cond := .code yJ8_newLength_cabcc cJ8_newLength_cabcc 4 (some .int) :: ([.methodLink RJ8 194 Lib.Math.max.name, .static Lib.Math.max.name, .initialized "java/lang/Math", .code Lib.Math.max.name Lib.Math.max.code 2 (some .int), .constant RJ8 200 (2147483639), .methodLink RJ8 201 yJ8_hugeLength_7cf53, .static yJ8_hugeLength_7cf53, .initialized RJ8, .code yJ8_hugeLength_7cf53 cJ8_hugeLength_7cf53 3 (some .int)])
def wsJ7_copyOf_6403c : List Cond := .code yJ7_copyOf_6403c cJ7_copyOf_6403c 4 (some (.array (.object "java/lang/Object"))) :: ([.classLink RJ7 110 "[Ljava/lang/Object;", .classLink RJ7 2 "java/lang/Object", .methodLink RJ7 304 Lib.Math.min.name, .static Lib.Math.min.name, .initialized "java/lang/Math", .code Lib.Math.min.name Lib.Math.min.code 2 (some .int), .methodLink RJ7 150 arraycopyName, .native arraycopyName, .static arraycopyName, .initialized "java/lang/System"])
def wsJ7_copyOf_1904c : List Cond := .code yJ7_copyOf_1904c cJ7_copyOf_1904c 2 (some (.array (.object "java/lang/Object"))) :: ([.methodLink RJ7 86 ⟨"java/lang/Object", "getClass", "()Ljava/lang/Class;"⟩, .selects "[Ljava/lang/Object;" ⟨"java/lang/Object", "getClass", "()Ljava/lang/Class;"⟩ ⟨"java/lang/Object", "getClass", "()Ljava/lang/Class;"⟩, .instanceMethod ⟨"java/lang/Object", "getClass", "()Ljava/lang/Class;"⟩, .native ⟨"java/lang/Object", "getClass", "()Ljava/lang/Class;"⟩, .methodLink RJ7 300 yJ7_copyOf_6403c, .static yJ7_copyOf_6403c, .initialized RJ7, .code yJ7_copyOf_6403c cJ7_copyOf_6403c 4 (some (.array (.object "java/lang/Object"))), .classLink RJ7 110 "[Ljava/lang/Object;", .classLink RJ7 2 "java/lang/Object", .methodLink RJ7 304 Lib.Math.min.name, .static Lib.Math.min.name, .initialized "java/lang/Math", .code Lib.Math.min.name Lib.Math.min.code 2 (some .int), .methodLink RJ7 150 arraycopyName, .native arraycopyName, .static arraycopyName, .initialized "java/lang/System"])
def wsJx4a65c_grow_92f84_r1 : List Cond := [Cond.fieldLink RJx4a65c 9 "java/util/ArrayList" "elementData" "[Ljava/lang/Object;", Cond.fieldLink RJx4a65c 39 "java/util/ArrayList" "DEFAULTCAPACITY_EMPTY_ELEMENTDATA" "[Ljava/lang/Object;", Cond.methodLink RJx4a65c 79 Lib.Math.max.name, Cond.static Lib.Math.max.name, Cond.initialized "java/lang/Math", Cond.code Lib.Math.max.name Lib.Math.max.code 2 (some .int), Cond.classLink RJx4a65c 7 "java/lang/Object", Cond.methodLink RJx4a65c 73 yJ8_newLength_cabcc, Cond.static yJ8_newLength_cabcc, Cond.initialized RJ8, Cond.code yJ8_newLength_cabcc cJ8_newLength_cabcc 4 (some .int), Cond.methodLink RJ8 194 Lib.Math.max.name, Cond.constant RJ8 200 (2147483639), Cond.methodLink RJ8 201 yJ8_hugeLength_7cf53, Cond.static yJ8_hugeLength_7cf53, Cond.code yJ8_hugeLength_7cf53 cJ8_hugeLength_7cf53 3 (some .int), Cond.methodLink RJx4a65c 66 yJ7_copyOf_1904c, Cond.static yJ7_copyOf_1904c, Cond.initialized RJ7, Cond.code yJ7_copyOf_1904c cJ7_copyOf_1904c 2 (some (.array (.object "java/lang/Object"))), Cond.methodLink RJ7 86 ⟨"java/lang/Object", "getClass", "()Ljava/lang/Class;"⟩, Cond.selects "[Ljava/lang/Object;" ⟨"java/lang/Object", "getClass", "()Ljava/lang/Class;"⟩ ⟨"java/lang/Object", "getClass", "()Ljava/lang/Class;"⟩, Cond.instanceMethod ⟨"java/lang/Object", "getClass", "()Ljava/lang/Class;"⟩, Cond.native ⟨"java/lang/Object", "getClass", "()Ljava/lang/Class;"⟩]
def wsJx4a65c_grow_92f84_r2 : List Cond := [Cond.methodLink RJ7 300 yJ7_copyOf_6403c, Cond.static yJ7_copyOf_6403c, Cond.code yJ7_copyOf_6403c cJ7_copyOf_6403c 4 (some (.array (.object "java/lang/Object"))), Cond.classLink RJ7 110 "[Ljava/lang/Object;", Cond.classLink RJ7 2 "java/lang/Object", Cond.methodLink RJ7 304 Lib.Math.min.name, Cond.static Lib.Math.min.name, Cond.code Lib.Math.min.name Lib.Math.min.code 2 (some .int), Cond.methodLink RJ7 150 arraycopyName, Cond.native arraycopyName, Cond.static arraycopyName, Cond.initialized "java/lang/System"]
def wsJx4a65c_grow_92f84 : List Cond := .code yJx4a65c_grow_92f84 cJx4a65c_grow_92f84 4 (some (.array (.object "java/lang/Object"))) :: ((wsJx4a65c_grow_92f84_r1 ++ wsJx4a65c_grow_92f84_r2) ++ wsJx4a65c0)
def wsJx4a65c_grow_d5877_r1 : List Cond := [Cond.fieldLink RJx4a65c 48 "java/util/ArrayList" "size" "I", Cond.methodLink RJx4a65c 69 yJx4a65c_grow_92f84, Cond.instanceMethod yJx4a65c_grow_92f84, Cond.selects RJx4a65c yJx4a65c_grow_92f84 yJx4a65c_grow_92f84, Cond.initialized RJx4a65c, Cond.code yJx4a65c_grow_92f84 cJx4a65c_grow_92f84 4 (some (.array (.object "java/lang/Object"))), Cond.fieldLink RJx4a65c 9 "java/util/ArrayList" "elementData" "[Ljava/lang/Object;", Cond.fieldLink RJx4a65c 39 "java/util/ArrayList" "DEFAULTCAPACITY_EMPTY_ELEMENTDATA" "[Ljava/lang/Object;", Cond.methodLink RJx4a65c 79 Lib.Math.max.name, Cond.static Lib.Math.max.name, Cond.initialized "java/lang/Math", Cond.code Lib.Math.max.name Lib.Math.max.code 2 (some .int), Cond.classLink RJx4a65c 7 "java/lang/Object", Cond.methodLink RJx4a65c 73 yJ8_newLength_cabcc, Cond.static yJ8_newLength_cabcc, Cond.initialized RJ8, Cond.code yJ8_newLength_cabcc cJ8_newLength_cabcc 4 (some .int), Cond.methodLink RJ8 194 Lib.Math.max.name, Cond.constant RJ8 200 (2147483639), Cond.methodLink RJ8 201 yJ8_hugeLength_7cf53, Cond.static yJ8_hugeLength_7cf53, Cond.code yJ8_hugeLength_7cf53 cJ8_hugeLength_7cf53 3 (some .int), Cond.methodLink RJx4a65c 66 yJ7_copyOf_1904c, Cond.static yJ7_copyOf_1904c]
def wsJx4a65c_grow_d5877_r2 : List Cond := [Cond.initialized RJ7, Cond.code yJ7_copyOf_1904c cJ7_copyOf_1904c 2 (some (.array (.object "java/lang/Object"))), Cond.methodLink RJ7 86 ⟨"java/lang/Object", "getClass", "()Ljava/lang/Class;"⟩, Cond.selects "[Ljava/lang/Object;" ⟨"java/lang/Object", "getClass", "()Ljava/lang/Class;"⟩ ⟨"java/lang/Object", "getClass", "()Ljava/lang/Class;"⟩, Cond.instanceMethod ⟨"java/lang/Object", "getClass", "()Ljava/lang/Class;"⟩, Cond.native ⟨"java/lang/Object", "getClass", "()Ljava/lang/Class;"⟩, Cond.methodLink RJ7 300 yJ7_copyOf_6403c, Cond.static yJ7_copyOf_6403c, Cond.code yJ7_copyOf_6403c cJ7_copyOf_6403c 4 (some (.array (.object "java/lang/Object"))), Cond.classLink RJ7 110 "[Ljava/lang/Object;", Cond.classLink RJ7 2 "java/lang/Object", Cond.methodLink RJ7 304 Lib.Math.min.name, Cond.static Lib.Math.min.name, Cond.code Lib.Math.min.name Lib.Math.min.code 2 (some .int), Cond.methodLink RJ7 150 arraycopyName, Cond.native arraycopyName, Cond.static arraycopyName, Cond.initialized "java/lang/System"]
def wsJx4a65c_grow_d5877 : List Cond := .code yJx4a65c_grow_d5877 cJx4a65c_grow_d5877 1 (some (.array (.object "java/lang/Object"))) :: ((wsJx4a65c_grow_d5877_r1 ++ wsJx4a65c_grow_d5877_r2) ++ wsJx4a65c0)
def wsJx4a65c_add_72be8_r1 : List Cond := [Cond.fieldLink RJx4a65c 48 "java/util/ArrayList" "size" "I", Cond.methodLink RJx4a65c 129 yJx4a65c_grow_d5877, Cond.instanceMethod yJx4a65c_grow_d5877, Cond.selects RJx4a65c yJx4a65c_grow_d5877 yJx4a65c_grow_d5877, Cond.initialized RJx4a65c, Cond.code yJx4a65c_grow_d5877 cJx4a65c_grow_d5877 1 (some (.array (.object "java/lang/Object"))), Cond.methodLink RJx4a65c 69 yJx4a65c_grow_92f84, Cond.instanceMethod yJx4a65c_grow_92f84, Cond.selects RJx4a65c yJx4a65c_grow_92f84 yJx4a65c_grow_92f84, Cond.code yJx4a65c_grow_92f84 cJx4a65c_grow_92f84 4 (some (.array (.object "java/lang/Object"))), Cond.fieldLink RJx4a65c 9 "java/util/ArrayList" "elementData" "[Ljava/lang/Object;", Cond.fieldLink RJx4a65c 39 "java/util/ArrayList" "DEFAULTCAPACITY_EMPTY_ELEMENTDATA" "[Ljava/lang/Object;", Cond.methodLink RJx4a65c 79 Lib.Math.max.name, Cond.static Lib.Math.max.name, Cond.initialized "java/lang/Math", Cond.code Lib.Math.max.name Lib.Math.max.code 2 (some .int), Cond.classLink RJx4a65c 7 "java/lang/Object", Cond.methodLink RJx4a65c 73 yJ8_newLength_cabcc, Cond.static yJ8_newLength_cabcc, Cond.initialized RJ8, Cond.code yJ8_newLength_cabcc cJ8_newLength_cabcc 4 (some .int), Cond.methodLink RJ8 194 Lib.Math.max.name, Cond.constant RJ8 200 (2147483639), Cond.methodLink RJ8 201 yJ8_hugeLength_7cf53]
def wsJx4a65c_add_72be8_r2 : List Cond := [Cond.static yJ8_hugeLength_7cf53, Cond.code yJ8_hugeLength_7cf53 cJ8_hugeLength_7cf53 3 (some .int), Cond.methodLink RJx4a65c 66 yJ7_copyOf_1904c, Cond.static yJ7_copyOf_1904c, Cond.initialized RJ7, Cond.code yJ7_copyOf_1904c cJ7_copyOf_1904c 2 (some (.array (.object "java/lang/Object"))), Cond.methodLink RJ7 86 ⟨"java/lang/Object", "getClass", "()Ljava/lang/Class;"⟩, Cond.selects "[Ljava/lang/Object;" ⟨"java/lang/Object", "getClass", "()Ljava/lang/Class;"⟩ ⟨"java/lang/Object", "getClass", "()Ljava/lang/Class;"⟩, Cond.instanceMethod ⟨"java/lang/Object", "getClass", "()Ljava/lang/Class;"⟩, Cond.native ⟨"java/lang/Object", "getClass", "()Ljava/lang/Class;"⟩, Cond.methodLink RJ7 300 yJ7_copyOf_6403c, Cond.static yJ7_copyOf_6403c, Cond.code yJ7_copyOf_6403c cJ7_copyOf_6403c 4 (some (.array (.object "java/lang/Object"))), Cond.classLink RJ7 110 "[Ljava/lang/Object;", Cond.classLink RJ7 2 "java/lang/Object", Cond.methodLink RJ7 304 Lib.Math.min.name, Cond.static Lib.Math.min.name, Cond.code Lib.Math.min.name Lib.Math.min.code 2 (some .int), Cond.methodLink RJ7 150 arraycopyName, Cond.native arraycopyName, Cond.static arraycopyName, Cond.initialized "java/lang/System"]
def wsJx4a65c_add_72be8 : List Cond := .code yJx4a65c_add_72be8 cJx4a65c_add_72be8 4 none :: ((wsJx4a65c_add_72be8_r1 ++ wsJx4a65c_add_72be8_r2) ++ wsJx4a65c0)
def wsJx4a65c_add_9ea2d_r1 : List Cond := [Cond.fieldLink RJx4a65c 63 "java/util/ArrayList" "modCount" "I", Cond.sameField "java/util/ArrayList" "java/util/AbstractList" "modCount" "I", Cond.fieldLink RJx4a65c 9 "java/util/ArrayList" "elementData" "[Ljava/lang/Object;", Cond.fieldLink RJx4a65c 48 "java/util/ArrayList" "size" "I", Cond.methodLink RJx4a65c 131 yJx4a65c_add_72be8, Cond.instanceMethod yJx4a65c_add_72be8, Cond.selects RJx4a65c yJx4a65c_add_72be8 yJx4a65c_add_72be8, Cond.initialized RJx4a65c, Cond.code yJx4a65c_add_72be8 cJx4a65c_add_72be8 4 none, Cond.methodLink RJx4a65c 129 yJx4a65c_grow_d5877, Cond.instanceMethod yJx4a65c_grow_d5877, Cond.selects RJx4a65c yJx4a65c_grow_d5877 yJx4a65c_grow_d5877, Cond.code yJx4a65c_grow_d5877 cJx4a65c_grow_d5877 1 (some (.array (.object "java/lang/Object"))), Cond.methodLink RJx4a65c 69 yJx4a65c_grow_92f84, Cond.instanceMethod yJx4a65c_grow_92f84, Cond.selects RJx4a65c yJx4a65c_grow_92f84 yJx4a65c_grow_92f84, Cond.code yJx4a65c_grow_92f84 cJx4a65c_grow_92f84 4 (some (.array (.object "java/lang/Object"))), Cond.fieldLink RJx4a65c 39 "java/util/ArrayList" "DEFAULTCAPACITY_EMPTY_ELEMENTDATA" "[Ljava/lang/Object;", Cond.methodLink RJx4a65c 79 Lib.Math.max.name, Cond.static Lib.Math.max.name, Cond.initialized "java/lang/Math", Cond.code Lib.Math.max.name Lib.Math.max.code 2 (some .int), Cond.classLink RJx4a65c 7 "java/lang/Object", Cond.methodLink RJx4a65c 73 yJ8_newLength_cabcc]
def wsJx4a65c_add_9ea2d_r2 : List Cond := [Cond.static yJ8_newLength_cabcc, Cond.initialized RJ8, Cond.code yJ8_newLength_cabcc cJ8_newLength_cabcc 4 (some .int), Cond.methodLink RJ8 194 Lib.Math.max.name, Cond.constant RJ8 200 (2147483639), Cond.methodLink RJ8 201 yJ8_hugeLength_7cf53, Cond.static yJ8_hugeLength_7cf53, Cond.code yJ8_hugeLength_7cf53 cJ8_hugeLength_7cf53 3 (some .int), Cond.methodLink RJx4a65c 66 yJ7_copyOf_1904c, Cond.static yJ7_copyOf_1904c, Cond.initialized RJ7, Cond.code yJ7_copyOf_1904c cJ7_copyOf_1904c 2 (some (.array (.object "java/lang/Object"))), Cond.methodLink RJ7 86 ⟨"java/lang/Object", "getClass", "()Ljava/lang/Class;"⟩, Cond.selects "[Ljava/lang/Object;" ⟨"java/lang/Object", "getClass", "()Ljava/lang/Class;"⟩ ⟨"java/lang/Object", "getClass", "()Ljava/lang/Class;"⟩, Cond.instanceMethod ⟨"java/lang/Object", "getClass", "()Ljava/lang/Class;"⟩, Cond.native ⟨"java/lang/Object", "getClass", "()Ljava/lang/Class;"⟩, Cond.methodLink RJ7 300 yJ7_copyOf_6403c, Cond.static yJ7_copyOf_6403c, Cond.code yJ7_copyOf_6403c cJ7_copyOf_6403c 4 (some (.array (.object "java/lang/Object"))), Cond.classLink RJ7 110 "[Ljava/lang/Object;", Cond.classLink RJ7 2 "java/lang/Object", Cond.methodLink RJ7 304 Lib.Math.min.name, Cond.static Lib.Math.min.name, Cond.code Lib.Math.min.name Lib.Math.min.code 2 (some .int)]
def wsJx4a65c_add_9ea2d_r3 : List Cond := [Cond.methodLink RJ7 150 arraycopyName, Cond.native arraycopyName, Cond.static arraycopyName, Cond.initialized "java/lang/System"]
def wsJx4a65c_add_9ea2d : List Cond := .code yJx4a65c_add_9ea2d cJx4a65c_add_9ea2d 2 (some .boolean) :: ((wsJx4a65c_add_9ea2d_r1 ++ (wsJx4a65c_add_9ea2d_r2 ++ wsJx4a65c_add_9ea2d_r3)) ++ wsJx4a65c0)
def wsX2_gossip_r1 : List Cond := [Cond.classLink RX2 78 "java/lang/IllegalStateException", Cond.initialized "java/lang/IllegalStateException", Cond.fieldLink RX2 19 "DotGossip" "wire" "Ljava/util/ArrayList;", Cond.classLink RX2 81 RX1, Cond.instantiable RX1 3, Cond.initialized RX1, Cond.fieldLink RX2 11 "DotGossip" "holdings" "[LDotGossip$Holding;", Cond.methodLink RX2 52 yX2_requireReplica, Cond.instanceMethod yX2_requireReplica, Cond.selects RX2 yX2_requireReplica yX2_requireReplica, Cond.initialized RX2, Cond.code yX2_requireReplica cX2_requireReplica 2 none, Cond.fieldLink RX2 23 "DotGossip" "replicaCount" "I", Cond.methodLink RX2 56 yX2_requireIndex, Cond.static yX2_requireIndex, Cond.code yX2_requireIndex cX2_requireIndex 2 none, Cond.methodLink RX2 27 yX2_require, Cond.static yX2_require, Cond.code yX2_require cX2_require 1 none, Cond.classLink RX2 131 "java/lang/IllegalArgumentException", Cond.initialized "java/lang/IllegalArgumentException", Cond.methodLink RX2 74 yJx4a65c_size_8abf5, Cond.instanceMethod yJx4a65c_size_8abf5, Cond.selects RJx4a65c yJx4a65c_size_8abf5 yJx4a65c_size_8abf5]
def wsX2_gossip_r2 : List Cond := [Cond.initialized RJx4a65c, Cond.code yJx4a65c_size_8abf5 cJx4a65c_size_8abf5 1 (some .int), Cond.fieldLink RJx4a65c 48 "java/util/ArrayList" "size" "I", Cond.methodLink RX2 83 yX0_snapshot, Cond.instanceMethod yX0_snapshot, Cond.selects RX0 yX0_snapshot yX0_snapshot, Cond.initialized RX0, Cond.code yX0_snapshot cX0_snapshot 2 (some (.object "DotGossip$Holding")), Cond.classLink RX0 10 RX0, Cond.instantiable RX0 5, Cond.fieldLink RX0 9 "DotGossip$Holding" "seen" "[I", Cond.methodLink RX0 38 arraycopyName, Cond.native arraycopyName, Cond.static arraycopyName, Cond.initialized "java/lang/System", Cond.fieldLink RX0 15 "DotGossip$Holding" "numbers" "[I", Cond.fieldLink RX0 18 "DotGossip$Holding" "written" "[I", Cond.fieldLink RX0 21 "DotGossip$Holding" "added" "[J", Cond.fieldLink RX0 25 "DotGossip$Holding" "taken" "[J", Cond.methodLink RX0 37 yX0_init, Cond.instanceMethod yX0_init, Cond.code yX0_init cX0_init 1 none, Cond.methodLink RX0 3 objectInit, Cond.instanceMethod objectInit]
def wsX2_gossip_r3 : List Cond := [Cond.code objectInit ⟨#[0xb1]⟩ 1 none, Cond.arrayClass .int, Cond.arrayClass .long, Cond.methodLink RX2 87 yX1_init, Cond.instanceMethod yX1_init, Cond.code yX1_init cX1_init 4 none, Cond.methodLink RX1 1 objectInit, Cond.fieldLink RX1 7 "DotGossip$Message" "from" "I", Cond.fieldLink RX1 13 "DotGossip$Message" "to" "I", Cond.fieldLink RX1 16 "DotGossip$Message" "sent" "LDotGossip$Holding;", Cond.methodLink RX2 90 yJx4a65c_add_9ea2d, Cond.instanceMethod yJx4a65c_add_9ea2d, Cond.selects RJx4a65c yJx4a65c_add_9ea2d yJx4a65c_add_9ea2d, Cond.code yJx4a65c_add_9ea2d cJx4a65c_add_9ea2d 2 (some .boolean), Cond.fieldLink RJx4a65c 63 "java/util/ArrayList" "modCount" "I", Cond.sameField "java/util/ArrayList" "java/util/AbstractList" "modCount" "I", Cond.fieldLink RJx4a65c 9 "java/util/ArrayList" "elementData" "[Ljava/lang/Object;", Cond.methodLink RJx4a65c 131 yJx4a65c_add_72be8, Cond.instanceMethod yJx4a65c_add_72be8, Cond.selects RJx4a65c yJx4a65c_add_72be8 yJx4a65c_add_72be8, Cond.code yJx4a65c_add_72be8 cJx4a65c_add_72be8 4 none, Cond.methodLink RJx4a65c 129 yJx4a65c_grow_d5877, Cond.instanceMethod yJx4a65c_grow_d5877, Cond.selects RJx4a65c yJx4a65c_grow_d5877 yJx4a65c_grow_d5877]
def wsX2_gossip_r4 : List Cond := [Cond.code yJx4a65c_grow_d5877 cJx4a65c_grow_d5877 1 (some (.array (.object "java/lang/Object"))), Cond.methodLink RJx4a65c 69 yJx4a65c_grow_92f84, Cond.instanceMethod yJx4a65c_grow_92f84, Cond.selects RJx4a65c yJx4a65c_grow_92f84 yJx4a65c_grow_92f84, Cond.code yJx4a65c_grow_92f84 cJx4a65c_grow_92f84 4 (some (.array (.object "java/lang/Object"))), Cond.fieldLink RJx4a65c 39 "java/util/ArrayList" "DEFAULTCAPACITY_EMPTY_ELEMENTDATA" "[Ljava/lang/Object;", Cond.methodLink RJx4a65c 79 Lib.Math.max.name, Cond.static Lib.Math.max.name, Cond.initialized "java/lang/Math", Cond.code Lib.Math.max.name Lib.Math.max.code 2 (some .int), Cond.classLink RJx4a65c 7 "java/lang/Object", Cond.methodLink RJx4a65c 73 yJ8_newLength_cabcc, Cond.static yJ8_newLength_cabcc, Cond.initialized RJ8, Cond.code yJ8_newLength_cabcc cJ8_newLength_cabcc 4 (some .int), Cond.methodLink RJ8 194 Lib.Math.max.name, Cond.constant RJ8 200 (2147483639), Cond.methodLink RJ8 201 yJ8_hugeLength_7cf53, Cond.static yJ8_hugeLength_7cf53, Cond.code yJ8_hugeLength_7cf53 cJ8_hugeLength_7cf53 3 (some .int), Cond.methodLink RJx4a65c 66 yJ7_copyOf_1904c, Cond.static yJ7_copyOf_1904c, Cond.initialized RJ7, Cond.code yJ7_copyOf_1904c cJ7_copyOf_1904c 2 (some (.array (.object "java/lang/Object")))]
def wsX2_gossip_r5 : List Cond := [Cond.methodLink RJ7 86 ⟨"java/lang/Object", "getClass", "()Ljava/lang/Class;"⟩, Cond.selects "[Ljava/lang/Object;" ⟨"java/lang/Object", "getClass", "()Ljava/lang/Class;"⟩ ⟨"java/lang/Object", "getClass", "()Ljava/lang/Class;"⟩, Cond.instanceMethod ⟨"java/lang/Object", "getClass", "()Ljava/lang/Class;"⟩, Cond.native ⟨"java/lang/Object", "getClass", "()Ljava/lang/Class;"⟩, Cond.methodLink RJ7 300 yJ7_copyOf_6403c, Cond.static yJ7_copyOf_6403c, Cond.code yJ7_copyOf_6403c cJ7_copyOf_6403c 4 (some (.array (.object "java/lang/Object"))), Cond.classLink RJ7 110 "[Ljava/lang/Object;", Cond.classLink RJ7 2 "java/lang/Object", Cond.methodLink RJ7 304 Lib.Math.min.name, Cond.static Lib.Math.min.name, Cond.code Lib.Math.min.name Lib.Math.min.code 2 (some .int), Cond.methodLink RJ7 150 arraycopyName]
def wsX2_gossip : List Cond := .code yX2_gossip cX2_gossip 3 (some .int) :: ((wsX2_gossip_r1 ++ (wsX2_gossip_r2 ++ (wsX2_gossip_r3 ++ (wsX2_gossip_r4 ++ wsX2_gossip_r5)))) ++ wsX20 ++ wsX10 ++ wsJx4a65c0 ++ wsX00 ++ (vx_at0 RX2 80 "java/lang/IllegalStateException" ["java/lang/RuntimeException", "java/lang/Exception"]).filter goodWord ++ (vx_at0 RX2 133 "java/lang/IllegalArgumentException" ["java/lang/RuntimeException", "java/lang/Exception"]).filter goodWord)
def wsJ3_checkIndex_8e157 : List Cond := .code yJ3_checkIndex_8e157 cJ3_checkIndex_8e157 3 (some .int) :: ([])
def wsJ15_checkIndex_7cf53 : List Cond := .code yJ15_checkIndex_7cf53 cJ15_checkIndex_7cf53 2 (some .int) :: ([.methodLink RJ15 105 yJ3_checkIndex_8e157, .static yJ3_checkIndex_8e157, .initialized RJ3, .code yJ3_checkIndex_8e157 cJ3_checkIndex_8e157 3 (some .int)])
def wsJx4a65c_fastRemove_b59b0 : List Cond := .code yJx4a65c_fastRemove_b59b0 cJx4a65c_fastRemove_b59b0 4 none :: ([.fieldLink RJx4a65c 63 "java/util/ArrayList" "modCount" "I", .sameField "java/util/ArrayList" "java/util/AbstractList" "modCount" "I", .fieldLink RJx4a65c 48 "java/util/ArrayList" "size" "I", .methodLink RJx4a65c 112 arraycopyName, .native arraycopyName, .static arraycopyName, .initialized "java/lang/System"] ++ wsJx4a65c0)
def wsJx4a65c_remove_915e3 : List Cond := .code yJx4a65c_remove_915e3 cJx4a65c_remove_915e3 4 (some (.object "java/lang/Object")) :: ([.fieldLink RJx4a65c 48 "java/util/ArrayList" "size" "I", .fieldLink RJx4a65c 9 "java/util/ArrayList" "elementData" "[Ljava/lang/Object;", .methodLink RJx4a65c 118 yJ15_checkIndex_7cf53, .static yJ15_checkIndex_7cf53, .initialized RJ15, .code yJ15_checkIndex_7cf53 cJ15_checkIndex_7cf53 2 (some .int), .methodLink RJ15 105 yJ3_checkIndex_8e157, .static yJ3_checkIndex_8e157, .initialized RJ3, .code yJ3_checkIndex_8e157 cJ3_checkIndex_8e157 3 (some .int), .methodLink RJx4a65c 144 yJx4a65c_fastRemove_b59b0, .instanceMethod yJx4a65c_fastRemove_b59b0, .selects RJx4a65c yJx4a65c_fastRemove_b59b0 yJx4a65c_fastRemove_b59b0, .initialized RJx4a65c, .code yJx4a65c_fastRemove_b59b0 cJx4a65c_fastRemove_b59b0 4 none, .fieldLink RJx4a65c 63 "java/util/ArrayList" "modCount" "I", .sameField "java/util/ArrayList" "java/util/AbstractList" "modCount" "I", .methodLink RJx4a65c 112 arraycopyName, .native arraycopyName, .static arraycopyName, .initialized "java/lang/System"] ++ wsJx4a65c0)
def wsX2_deliver_r1 : List Cond := [Cond.fieldLink RX2 19 "DotGossip" "wire" "Ljava/util/ArrayList;", Cond.classLink RX2 81 "DotGossip$Message", Cond.fieldLink RX2 11 "DotGossip" "holdings" "[LDotGossip$Holding;", Cond.fieldLink RX2 98 "DotGossip$Message" "to" "I", Cond.fieldLink RX2 101 "DotGossip$Message" "sent" "LDotGossip$Holding;", Cond.methodLink RX2 74 yJx4a65c_size_8abf5, Cond.instanceMethod yJx4a65c_size_8abf5, Cond.selects RJx4a65c yJx4a65c_size_8abf5 yJx4a65c_size_8abf5, Cond.initialized RJx4a65c, Cond.code yJx4a65c_size_8abf5 cJx4a65c_size_8abf5 1 (some .int), Cond.fieldLink RJx4a65c 48 "java/util/ArrayList" "size" "I", Cond.methodLink RX2 56 yX2_requireIndex, Cond.static yX2_requireIndex, Cond.initialized RX2, Cond.code yX2_requireIndex cX2_requireIndex 2 none, Cond.methodLink RX2 27 yX2_require, Cond.static yX2_require, Cond.code yX2_require cX2_require 1 none, Cond.classLink RX2 131 "java/lang/IllegalArgumentException", Cond.initialized "java/lang/IllegalArgumentException", Cond.methodLink RX2 94 yJx4a65c_remove_915e3, Cond.instanceMethod yJx4a65c_remove_915e3, Cond.selects RJx4a65c yJx4a65c_remove_915e3 yJx4a65c_remove_915e3, Cond.code yJx4a65c_remove_915e3 cJx4a65c_remove_915e3 4 (some (.object "java/lang/Object"))]
def wsX2_deliver_r2 : List Cond := [Cond.fieldLink RJx4a65c 9 "java/util/ArrayList" "elementData" "[Ljava/lang/Object;", Cond.methodLink RJx4a65c 118 yJ15_checkIndex_7cf53, Cond.static yJ15_checkIndex_7cf53, Cond.initialized RJ15, Cond.code yJ15_checkIndex_7cf53 cJ15_checkIndex_7cf53 2 (some .int), Cond.methodLink RJ15 105 yJ3_checkIndex_8e157, Cond.static yJ3_checkIndex_8e157, Cond.initialized RJ3, Cond.code yJ3_checkIndex_8e157 cJ3_checkIndex_8e157 3 (some .int), Cond.methodLink RJx4a65c 144 yJx4a65c_fastRemove_b59b0, Cond.instanceMethod yJx4a65c_fastRemove_b59b0, Cond.selects RJx4a65c yJx4a65c_fastRemove_b59b0 yJx4a65c_fastRemove_b59b0, Cond.code yJx4a65c_fastRemove_b59b0 cJx4a65c_fastRemove_b59b0 4 none, Cond.fieldLink RJx4a65c 63 "java/util/ArrayList" "modCount" "I", Cond.sameField "java/util/ArrayList" "java/util/AbstractList" "modCount" "I", Cond.methodLink RJx4a65c 112 arraycopyName, Cond.native arraycopyName, Cond.static arraycopyName, Cond.initialized "java/lang/System", Cond.methodLink RX2 105 yX0_merge, Cond.instanceMethod yX0_merge, Cond.selects RX0 yX0_merge yX0_merge, Cond.initialized RX0, Cond.code yX0_merge cX0_merge 5 (some .int)]
def wsX2_deliver_r3 : List Cond := [Cond.fieldLink RX0 9 "DotGossip$Holding" "seen" "[I", Cond.methodLink RX0 52 Lib.Math.max.name, Cond.static Lib.Math.max.name, Cond.initialized "java/lang/Math", Cond.code Lib.Math.max.name Lib.Math.max.code 2 (some .int), Cond.fieldLink RX0 21 "DotGossip$Holding" "added" "[J", Cond.methodLink RX0 58 Lib.MathLoose.max_long.x, Cond.static Lib.MathLoose.max_long.x, Cond.code Lib.MathLoose.max_long.x Lib.MathLoose.max_long.code 4 (some .long), Cond.fieldLink RX0 25 "DotGossip$Holding" "taken" "[J", Cond.methodLink RX0 48 yX0_mergeDot, Cond.instanceMethod yX0_mergeDot, Cond.selects RX0 yX0_mergeDot yX0_mergeDot, Cond.code yX0_mergeDot cX0_mergeDot 7 (some .boolean), Cond.fieldLink RX0 15 "DotGossip$Holding" "numbers" "[I", Cond.fieldLink RX0 18 "DotGossip$Holding" "written" "[I"]
def wsX2_deliver : List Cond := .code yX2_deliver cX2_deliver 3 (some .int) :: ((wsX2_deliver_r1 ++ (wsX2_deliver_r2 ++ wsX2_deliver_r3)) ++ wsX20 ++ wsX10 ++ wsJx4a65c0 ++ wsX00 ++ (vx_at0 RX2 133 "java/lang/IllegalArgumentException" ["java/lang/RuntimeException", "java/lang/Exception"]).filter goodWord)
def wsX2_drop_r1 : List Cond := [Cond.fieldLink RX2 19 "DotGossip" "wire" "Ljava/util/ArrayList;", Cond.classLink RX2 81 "DotGossip$Message", Cond.fieldLink RX2 98 "DotGossip$Message" "to" "I", Cond.methodLink RX2 74 yJx4a65c_size_8abf5, Cond.instanceMethod yJx4a65c_size_8abf5, Cond.selects RJx4a65c yJx4a65c_size_8abf5 yJx4a65c_size_8abf5, Cond.initialized RJx4a65c, Cond.code yJx4a65c_size_8abf5 cJx4a65c_size_8abf5 1 (some .int), Cond.fieldLink RJx4a65c 48 "java/util/ArrayList" "size" "I", Cond.methodLink RX2 56 yX2_requireIndex, Cond.static yX2_requireIndex, Cond.initialized RX2, Cond.code yX2_requireIndex cX2_requireIndex 2 none, Cond.methodLink RX2 27 yX2_require, Cond.static yX2_require, Cond.code yX2_require cX2_require 1 none, Cond.classLink RX2 131 "java/lang/IllegalArgumentException", Cond.initialized "java/lang/IllegalArgumentException", Cond.methodLink RX2 94 yJx4a65c_remove_915e3, Cond.instanceMethod yJx4a65c_remove_915e3, Cond.selects RJx4a65c yJx4a65c_remove_915e3 yJx4a65c_remove_915e3, Cond.code yJx4a65c_remove_915e3 cJx4a65c_remove_915e3 4 (some (.object "java/lang/Object")), Cond.fieldLink RJx4a65c 9 "java/util/ArrayList" "elementData" "[Ljava/lang/Object;", Cond.methodLink RJx4a65c 118 yJ15_checkIndex_7cf53]
def wsX2_drop_r2 : List Cond := [Cond.static yJ15_checkIndex_7cf53, Cond.initialized RJ15, Cond.code yJ15_checkIndex_7cf53 cJ15_checkIndex_7cf53 2 (some .int), Cond.methodLink RJ15 105 yJ3_checkIndex_8e157, Cond.static yJ3_checkIndex_8e157, Cond.initialized RJ3, Cond.code yJ3_checkIndex_8e157 cJ3_checkIndex_8e157 3 (some .int), Cond.methodLink RJx4a65c 144 yJx4a65c_fastRemove_b59b0, Cond.instanceMethod yJx4a65c_fastRemove_b59b0, Cond.selects RJx4a65c yJx4a65c_fastRemove_b59b0 yJx4a65c_fastRemove_b59b0, Cond.code yJx4a65c_fastRemove_b59b0 cJx4a65c_fastRemove_b59b0 4 none, Cond.fieldLink RJx4a65c 63 "java/util/ArrayList" "modCount" "I", Cond.sameField "java/util/ArrayList" "java/util/AbstractList" "modCount" "I", Cond.methodLink RJx4a65c 112 arraycopyName, Cond.native arraycopyName, Cond.static arraycopyName, Cond.initialized "java/lang/System"]
def wsX2_drop : List Cond := .code yX2_drop cX2_drop 2 (some .int) :: ((wsX2_drop_r1 ++ wsX2_drop_r2) ++ wsX20 ++ wsX10 ++ wsJx4a65c0 ++ (vx_at0 RX2 133 "java/lang/IllegalArgumentException" ["java/lang/RuntimeException", "java/lang/Exception"]).filter goodWord)
def wsJx4a65c_elementData_915e3 : List Cond := .code yJx4a65c_elementData_915e3 cJx4a65c_elementData_915e3 2 (some (.object "java/lang/Object")) :: ([.fieldLink RJx4a65c 9 "java/util/ArrayList" "elementData" "[Ljava/lang/Object;"] ++ wsJx4a65c0)
def wsJx4a65c_get_915e3 : List Cond := .code yJx4a65c_get_915e3 cJx4a65c_get_915e3 2 (some (.object "java/lang/Object")) :: ([.fieldLink RJx4a65c 48 "java/util/ArrayList" "size" "I", .methodLink RJx4a65c 118 yJ15_checkIndex_7cf53, .static yJ15_checkIndex_7cf53, .initialized RJ15, .code yJ15_checkIndex_7cf53 cJ15_checkIndex_7cf53 2 (some .int), .methodLink RJ15 105 yJ3_checkIndex_8e157, .static yJ3_checkIndex_8e157, .initialized RJ3, .code yJ3_checkIndex_8e157 cJ3_checkIndex_8e157 3 (some .int), .methodLink RJx4a65c 123 yJx4a65c_elementData_915e3, .instanceMethod yJx4a65c_elementData_915e3, .selects RJx4a65c yJx4a65c_elementData_915e3 yJx4a65c_elementData_915e3, .initialized RJx4a65c, .code yJx4a65c_elementData_915e3 cJx4a65c_elementData_915e3 2 (some (.object "java/lang/Object")), .fieldLink RJx4a65c 9 "java/util/ArrayList" "elementData" "[Ljava/lang/Object;"] ++ wsJx4a65c0)
def wsX2_copy_r1 : List Cond := [Cond.fieldLink RX2 19 "DotGossip" "wire" "Ljava/util/ArrayList;", Cond.classLink RX2 81 "DotGossip$Message", Cond.classLink RX2 81 RX1, Cond.instantiable RX1 3, Cond.initialized RX1, Cond.fieldLink RX2 112 "DotGossip$Message" "from" "I", Cond.fieldLink RX2 98 "DotGossip$Message" "to" "I", Cond.fieldLink RX2 101 "DotGossip$Message" "sent" "LDotGossip$Holding;", Cond.methodLink RX2 74 yJx4a65c_size_8abf5, Cond.instanceMethod yJx4a65c_size_8abf5, Cond.selects RJx4a65c yJx4a65c_size_8abf5 yJx4a65c_size_8abf5, Cond.initialized RJx4a65c, Cond.code yJx4a65c_size_8abf5 cJx4a65c_size_8abf5 1 (some .int), Cond.fieldLink RJx4a65c 48 "java/util/ArrayList" "size" "I", Cond.methodLink RX2 56 yX2_requireIndex, Cond.static yX2_requireIndex, Cond.initialized RX2, Cond.code yX2_requireIndex cX2_requireIndex 2 none, Cond.methodLink RX2 27 yX2_require, Cond.static yX2_require, Cond.code yX2_require cX2_require 1 none, Cond.classLink RX2 131 "java/lang/IllegalArgumentException", Cond.initialized "java/lang/IllegalArgumentException", Cond.methodLink RX2 109 yJx4a65c_get_915e3]
def wsX2_copy_r2 : List Cond := [Cond.instanceMethod yJx4a65c_get_915e3, Cond.selects RJx4a65c yJx4a65c_get_915e3 yJx4a65c_get_915e3, Cond.code yJx4a65c_get_915e3 cJx4a65c_get_915e3 2 (some (.object "java/lang/Object")), Cond.methodLink RJx4a65c 118 yJ15_checkIndex_7cf53, Cond.static yJ15_checkIndex_7cf53, Cond.initialized RJ15, Cond.code yJ15_checkIndex_7cf53 cJ15_checkIndex_7cf53 2 (some .int), Cond.methodLink RJ15 105 yJ3_checkIndex_8e157, Cond.static yJ3_checkIndex_8e157, Cond.initialized RJ3, Cond.code yJ3_checkIndex_8e157 cJ3_checkIndex_8e157 3 (some .int), Cond.methodLink RJx4a65c 123 yJx4a65c_elementData_915e3, Cond.instanceMethod yJx4a65c_elementData_915e3, Cond.selects RJx4a65c yJx4a65c_elementData_915e3 yJx4a65c_elementData_915e3, Cond.code yJx4a65c_elementData_915e3 cJx4a65c_elementData_915e3 2 (some (.object "java/lang/Object")), Cond.fieldLink RJx4a65c 9 "java/util/ArrayList" "elementData" "[Ljava/lang/Object;", Cond.methodLink RX2 87 yX1_init, Cond.instanceMethod yX1_init, Cond.code yX1_init cX1_init 4 none, Cond.methodLink RX1 1 objectInit, Cond.instanceMethod objectInit, Cond.code objectInit ⟨#[0xb1]⟩ 1 none, Cond.fieldLink RX1 7 "DotGossip$Message" "from" "I", Cond.fieldLink RX1 13 "DotGossip$Message" "to" "I"]
def wsX2_copy_r3 : List Cond := [Cond.fieldLink RX1 16 "DotGossip$Message" "sent" "LDotGossip$Holding;", Cond.methodLink RX2 90 yJx4a65c_add_9ea2d, Cond.instanceMethod yJx4a65c_add_9ea2d, Cond.selects RJx4a65c yJx4a65c_add_9ea2d yJx4a65c_add_9ea2d, Cond.code yJx4a65c_add_9ea2d cJx4a65c_add_9ea2d 2 (some .boolean), Cond.fieldLink RJx4a65c 63 "java/util/ArrayList" "modCount" "I", Cond.sameField "java/util/ArrayList" "java/util/AbstractList" "modCount" "I", Cond.methodLink RJx4a65c 131 yJx4a65c_add_72be8, Cond.instanceMethod yJx4a65c_add_72be8, Cond.selects RJx4a65c yJx4a65c_add_72be8 yJx4a65c_add_72be8, Cond.code yJx4a65c_add_72be8 cJx4a65c_add_72be8 4 none, Cond.methodLink RJx4a65c 129 yJx4a65c_grow_d5877, Cond.instanceMethod yJx4a65c_grow_d5877, Cond.selects RJx4a65c yJx4a65c_grow_d5877 yJx4a65c_grow_d5877, Cond.code yJx4a65c_grow_d5877 cJx4a65c_grow_d5877 1 (some (.array (.object "java/lang/Object"))), Cond.methodLink RJx4a65c 69 yJx4a65c_grow_92f84, Cond.instanceMethod yJx4a65c_grow_92f84, Cond.selects RJx4a65c yJx4a65c_grow_92f84 yJx4a65c_grow_92f84, Cond.code yJx4a65c_grow_92f84 cJx4a65c_grow_92f84 4 (some (.array (.object "java/lang/Object"))), Cond.fieldLink RJx4a65c 39 "java/util/ArrayList" "DEFAULTCAPACITY_EMPTY_ELEMENTDATA" "[Ljava/lang/Object;", Cond.methodLink RJx4a65c 79 Lib.Math.max.name, Cond.static Lib.Math.max.name, Cond.initialized "java/lang/Math", Cond.code Lib.Math.max.name Lib.Math.max.code 2 (some .int)]
def wsX2_copy_r4 : List Cond := [Cond.classLink RJx4a65c 7 "java/lang/Object", Cond.methodLink RJx4a65c 73 yJ8_newLength_cabcc, Cond.static yJ8_newLength_cabcc, Cond.initialized RJ8, Cond.code yJ8_newLength_cabcc cJ8_newLength_cabcc 4 (some .int), Cond.methodLink RJ8 194 Lib.Math.max.name, Cond.constant RJ8 200 (2147483639), Cond.methodLink RJ8 201 yJ8_hugeLength_7cf53, Cond.static yJ8_hugeLength_7cf53, Cond.code yJ8_hugeLength_7cf53 cJ8_hugeLength_7cf53 3 (some .int), Cond.methodLink RJx4a65c 66 yJ7_copyOf_1904c, Cond.static yJ7_copyOf_1904c, Cond.initialized RJ7, Cond.code yJ7_copyOf_1904c cJ7_copyOf_1904c 2 (some (.array (.object "java/lang/Object"))), Cond.methodLink RJ7 86 ⟨"java/lang/Object", "getClass", "()Ljava/lang/Class;"⟩, Cond.selects "[Ljava/lang/Object;" ⟨"java/lang/Object", "getClass", "()Ljava/lang/Class;"⟩ ⟨"java/lang/Object", "getClass", "()Ljava/lang/Class;"⟩, Cond.instanceMethod ⟨"java/lang/Object", "getClass", "()Ljava/lang/Class;"⟩, Cond.native ⟨"java/lang/Object", "getClass", "()Ljava/lang/Class;"⟩, Cond.methodLink RJ7 300 yJ7_copyOf_6403c, Cond.static yJ7_copyOf_6403c, Cond.code yJ7_copyOf_6403c cJ7_copyOf_6403c 4 (some (.array (.object "java/lang/Object"))), Cond.classLink RJ7 110 "[Ljava/lang/Object;", Cond.classLink RJ7 2 "java/lang/Object", Cond.methodLink RJ7 304 Lib.Math.min.name]
def wsX2_copy_r5 : List Cond := [Cond.static Lib.Math.min.name, Cond.code Lib.Math.min.name Lib.Math.min.code 2 (some .int), Cond.methodLink RJ7 150 arraycopyName, Cond.native arraycopyName, Cond.static arraycopyName, Cond.initialized "java/lang/System"]
def wsX2_copy : List Cond := .code yX2_copy cX2_copy 3 (some .boolean) :: ((wsX2_copy_r1 ++ (wsX2_copy_r2 ++ (wsX2_copy_r3 ++ (wsX2_copy_r4 ++ wsX2_copy_r5)))) ++ wsX20 ++ wsX10 ++ wsJx4a65c0 ++ (vx_at0 RX2 133 "java/lang/IllegalArgumentException" ["java/lang/RuntimeException", "java/lang/Exception"]).filter goodWord)
def wsX2_turn_r1 : List Cond := [Cond.fieldLink RX2 19 "DotGossip" "wire" "Ljava/util/ArrayList;", Cond.classLink RX2 81 "DotGossip$Message", Cond.fieldLink RX2 98 "DotGossip$Message" "to" "I", Cond.methodLink RX2 74 yJx4a65c_size_8abf5, Cond.instanceMethod yJx4a65c_size_8abf5, Cond.selects RJx4a65c yJx4a65c_size_8abf5 yJx4a65c_size_8abf5, Cond.initialized RJx4a65c, Cond.code yJx4a65c_size_8abf5 cJx4a65c_size_8abf5 1 (some .int), Cond.fieldLink RJx4a65c 48 "java/util/ArrayList" "size" "I", Cond.methodLink RX2 56 yX2_requireIndex, Cond.static yX2_requireIndex, Cond.initialized RX2, Cond.code yX2_requireIndex cX2_requireIndex 2 none, Cond.methodLink RX2 27 yX2_require, Cond.static yX2_require, Cond.code yX2_require cX2_require 1 none, Cond.classLink RX2 131 "java/lang/IllegalArgumentException", Cond.initialized "java/lang/IllegalArgumentException", Cond.methodLink RX2 52 yX2_requireReplica, Cond.instanceMethod yX2_requireReplica, Cond.selects RX2 yX2_requireReplica yX2_requireReplica, Cond.code yX2_requireReplica cX2_requireReplica 2 none, Cond.fieldLink RX2 23 "DotGossip" "replicaCount" "I", Cond.methodLink RX2 109 yJx4a65c_get_915e3]
def wsX2_turn_r2 : List Cond := [Cond.instanceMethod yJx4a65c_get_915e3, Cond.selects RJx4a65c yJx4a65c_get_915e3 yJx4a65c_get_915e3, Cond.code yJx4a65c_get_915e3 cJx4a65c_get_915e3 2 (some (.object "java/lang/Object")), Cond.methodLink RJx4a65c 118 yJ15_checkIndex_7cf53, Cond.static yJ15_checkIndex_7cf53, Cond.initialized RJ15, Cond.code yJ15_checkIndex_7cf53 cJ15_checkIndex_7cf53 2 (some .int), Cond.methodLink RJ15 105 yJ3_checkIndex_8e157, Cond.static yJ3_checkIndex_8e157, Cond.initialized RJ3, Cond.code yJ3_checkIndex_8e157 cJ3_checkIndex_8e157 3 (some .int), Cond.methodLink RJx4a65c 123 yJx4a65c_elementData_915e3, Cond.instanceMethod yJx4a65c_elementData_915e3, Cond.selects RJx4a65c yJx4a65c_elementData_915e3 yJx4a65c_elementData_915e3, Cond.code yJx4a65c_elementData_915e3 cJx4a65c_elementData_915e3 2 (some (.object "java/lang/Object")), Cond.fieldLink RJx4a65c 9 "java/util/ArrayList" "elementData" "[Ljava/lang/Object;"]
def wsX2_turn : List Cond := .code yX2_turn cX2_turn 3 none :: ((wsX2_turn_r1 ++ wsX2_turn_r2) ++ wsX20 ++ wsX10 ++ wsJx4a65c0 ++ (vx_at0 RX2 133 "java/lang/IllegalArgumentException" ["java/lang/RuntimeException", "java/lang/Exception"]).filter goodWord)
def wsX2_contains_r1 : List Cond := [Cond.fieldLink RX2 11 "DotGossip" "holdings" "[LDotGossip$Holding;", Cond.methodLink RX2 37 yX2_requireElement, Cond.instanceMethod yX2_requireElement, Cond.selects RX2 yX2_requireElement yX2_requireElement, Cond.initialized RX2, Cond.code yX2_requireElement cX2_requireElement 4 none, Cond.methodLink RX2 52 yX2_requireReplica, Cond.instanceMethod yX2_requireReplica, Cond.selects RX2 yX2_requireReplica yX2_requireReplica, Cond.code yX2_requireReplica cX2_requireReplica 2 none, Cond.fieldLink RX2 23 "DotGossip" "replicaCount" "I", Cond.methodLink RX2 56 yX2_requireIndex, Cond.static yX2_requireIndex, Cond.code yX2_requireIndex cX2_requireIndex 2 none, Cond.methodLink RX2 27 yX2_require, Cond.static yX2_require, Cond.code yX2_require cX2_require 1 none, Cond.classLink RX2 131 "java/lang/IllegalArgumentException", Cond.initialized "java/lang/IllegalArgumentException", Cond.methodLink RX2 41 yX2_placeOfElement, Cond.static yX2_placeOfElement, Cond.code yX2_placeOfElement cX2_placeOfElement 2 (some .int), Cond.methodLink RX2 115 yX0_dotsAt, Cond.instanceMethod yX0_dotsAt]
def wsX2_contains_r2 : List Cond := [Cond.selects RX0 yX0_dotsAt yX0_dotsAt, Cond.initialized RX0, Cond.code yX0_dotsAt cX0_dotsAt 4 (some .int), Cond.fieldLink RX0 15 "DotGossip$Holding" "numbers" "[I"]
def wsX2_contains : List Cond := .code yX2_contains cX2_contains 4 (some .boolean) :: ((wsX2_contains_r1 ++ wsX2_contains_r2) ++ wsX20 ++ wsX00 ++ (vx_at0 RX2 133 "java/lang/IllegalArgumentException" ["java/lang/RuntimeException", "java/lang/Exception"]).filter goodWord)
def wsX2_size : List Cond := .code yX2_size cX2_size 5 (some .int) :: ([.fieldLink RX2 11 "DotGossip" "holdings" "[LDotGossip$Holding;", .methodLink RX2 52 yX2_requireReplica, .instanceMethod yX2_requireReplica, .selects RX2 yX2_requireReplica yX2_requireReplica, .initialized RX2, .code yX2_requireReplica cX2_requireReplica 2 none, .fieldLink RX2 23 "DotGossip" "replicaCount" "I", .methodLink RX2 56 yX2_requireIndex, .static yX2_requireIndex, .code yX2_requireIndex cX2_requireIndex 2 none, .methodLink RX2 27 yX2_require, .static yX2_require, .code yX2_require cX2_require 1 none, .classLink RX2 131 "java/lang/IllegalArgumentException", .initialized "java/lang/IllegalArgumentException", .methodLink RX2 41 yX2_placeOfElement, .static yX2_placeOfElement, .code yX2_placeOfElement cX2_placeOfElement 2 (some .int), .methodLink RX2 115 yX0_dotsAt, .instanceMethod yX0_dotsAt, .selects RX0 yX0_dotsAt yX0_dotsAt, .initialized RX0, .code yX0_dotsAt cX0_dotsAt 4 (some .int), .fieldLink RX0 15 "DotGossip$Holding" "numbers" "[I"] ++ wsX20 ++ wsX00 ++ (vx_at0 RX2 133 "java/lang/IllegalArgumentException" ["java/lang/RuntimeException", "java/lang/Exception"]).filter goodWord)
def wsX2_dot_r1 : List Cond := [Cond.fieldLink RX2 11 "DotGossip" "holdings" "[LDotGossip$Holding;", Cond.methodLink RX2 37 yX2_requireElement, Cond.instanceMethod yX2_requireElement, Cond.selects RX2 yX2_requireElement yX2_requireElement, Cond.initialized RX2, Cond.code yX2_requireElement cX2_requireElement 4 none, Cond.methodLink RX2 52 yX2_requireReplica, Cond.instanceMethod yX2_requireReplica, Cond.selects RX2 yX2_requireReplica yX2_requireReplica, Cond.code yX2_requireReplica cX2_requireReplica 2 none, Cond.fieldLink RX2 23 "DotGossip" "replicaCount" "I", Cond.methodLink RX2 56 yX2_requireIndex, Cond.static yX2_requireIndex, Cond.code yX2_requireIndex cX2_requireIndex 2 none, Cond.methodLink RX2 27 yX2_require, Cond.static yX2_require, Cond.code yX2_require cX2_require 1 none, Cond.classLink RX2 131 "java/lang/IllegalArgumentException", Cond.initialized "java/lang/IllegalArgumentException", Cond.methodLink RX2 41 yX2_placeOfElement, Cond.static yX2_placeOfElement, Cond.code yX2_placeOfElement cX2_placeOfElement 2 (some .int), Cond.methodLink RX2 118 yX0_makerOf, Cond.instanceMethod yX0_makerOf]
def wsX2_dot_r2 : List Cond := [Cond.selects RX0 yX0_makerOf yX0_makerOf, Cond.initialized RX0, Cond.code yX0_makerOf cX0_makerOf 5 (some .int), Cond.fieldLink RX0 15 "DotGossip$Holding" "numbers" "[I", Cond.methodLink RX2 121 yX0_numberBy, Cond.instanceMethod yX0_numberBy, Cond.selects RX0 yX0_numberBy yX0_numberBy, Cond.code yX0_numberBy cX0_numberBy 3 (some .int)]
def wsX2_dot : List Cond := .code yX2_dot cX2_dot 9 (some .int) :: ((wsX2_dot_r1 ++ wsX2_dot_r2) ++ wsX20 ++ wsX00 ++ (vx_at0 RX2 133 "java/lang/IllegalArgumentException" ["java/lang/RuntimeException", "java/lang/Exception"]).filter goodWord)
def wsX2_value_r1 : List Cond := [Cond.fieldLink RX2 11 "DotGossip" "holdings" "[LDotGossip$Holding;", Cond.fieldLink RX2 60 "DotGossip$Holding" "written" "[I", Cond.methodLink RX2 52 yX2_requireReplica, Cond.instanceMethod yX2_requireReplica, Cond.selects RX2 yX2_requireReplica yX2_requireReplica, Cond.initialized RX2, Cond.code yX2_requireReplica cX2_requireReplica 2 none, Cond.fieldLink RX2 23 "DotGossip" "replicaCount" "I", Cond.methodLink RX2 56 yX2_requireIndex, Cond.static yX2_requireIndex, Cond.code yX2_requireIndex cX2_requireIndex 2 none, Cond.methodLink RX2 27 yX2_require, Cond.static yX2_require, Cond.code yX2_require cX2_require 1 none, Cond.classLink RX2 131 "java/lang/IllegalArgumentException", Cond.initialized "java/lang/IllegalArgumentException", Cond.methodLink RX2 118 yX0_makerOf, Cond.instanceMethod yX0_makerOf, Cond.selects RX0 yX0_makerOf yX0_makerOf, Cond.initialized RX0, Cond.code yX0_makerOf cX0_makerOf 5 (some .int), Cond.fieldLink RX0 15 "DotGossip$Holding" "numbers" "[I", Cond.methodLink RX2 121 yX0_numberBy, Cond.instanceMethod yX0_numberBy]
def wsX2_value_r2 : List Cond := [Cond.selects RX0 yX0_numberBy yX0_numberBy, Cond.code yX0_numberBy cX0_numberBy 3 (some .int)]
def wsX2_value : List Cond := .code yX2_value cX2_value 8 (some .int) :: ((wsX2_value_r1 ++ wsX2_value_r2) ++ wsX20 ++ wsX00 ++ (vx_at0 RX2 133 "java/lang/IllegalArgumentException" ["java/lang/RuntimeException", "java/lang/Exception"]).filter goodWord)
def wsX2_values : List Cond := .code yX2_values cX2_values 3 (some .int) :: ([.fieldLink RX2 11 "DotGossip" "holdings" "[LDotGossip$Holding;", .methodLink RX2 52 yX2_requireReplica, .instanceMethod yX2_requireReplica, .selects RX2 yX2_requireReplica yX2_requireReplica, .initialized RX2, .code yX2_requireReplica cX2_requireReplica 2 none, .fieldLink RX2 23 "DotGossip" "replicaCount" "I", .methodLink RX2 56 yX2_requireIndex, .static yX2_requireIndex, .code yX2_requireIndex cX2_requireIndex 2 none, .methodLink RX2 27 yX2_require, .static yX2_require, .code yX2_require cX2_require 1 none, .classLink RX2 131 "java/lang/IllegalArgumentException", .initialized "java/lang/IllegalArgumentException", .methodLink RX2 115 yX0_dotsAt, .instanceMethod yX0_dotsAt, .selects RX0 yX0_dotsAt yX0_dotsAt, .initialized RX0, .code yX0_dotsAt cX0_dotsAt 4 (some .int), .fieldLink RX0 15 "DotGossip$Holding" "numbers" "[I"] ++ wsX20 ++ wsX00 ++ (vx_at0 RX2 133 "java/lang/IllegalArgumentException" ["java/lang/RuntimeException", "java/lang/Exception"]).filter goodWord)
def wsX2_total : List Cond := .code yX2_total cX2_total 3 (some .int) :: ([.fieldLink RX2 11 "DotGossip" "holdings" "[LDotGossip$Holding;", .methodLink RX2 52 yX2_requireReplica, .instanceMethod yX2_requireReplica, .selects RX2 yX2_requireReplica yX2_requireReplica, .initialized RX2, .code yX2_requireReplica cX2_requireReplica 2 none, .fieldLink RX2 23 "DotGossip" "replicaCount" "I", .methodLink RX2 56 yX2_requireIndex, .static yX2_requireIndex, .code yX2_requireIndex cX2_requireIndex 2 none, .methodLink RX2 27 yX2_require, .static yX2_require, .code yX2_require cX2_require 1 none, .classLink RX2 131 "java/lang/IllegalArgumentException", .initialized "java/lang/IllegalArgumentException", .methodLink RX2 71 yX0_worth, .instanceMethod yX0_worth, .selects RX0 yX0_worth yX0_worth, .initialized RX0, .code yX0_worth cX0_worth 6 (some .int), .fieldLink RX0 21 "DotGossip$Holding" "added" "[J", .fieldLink RX0 25 "DotGossip$Holding" "taken" "[J"] ++ wsX20 ++ wsX00 ++ (vx_at0 RX2 133 "java/lang/IllegalArgumentException" ["java/lang/RuntimeException", "java/lang/Exception"]).filter goodWord)
def wsX2_vector : List Cond := .code yX2_vector cX2_vector 3 (some .int) :: ([.fieldLink RX2 11 "DotGossip" "holdings" "[LDotGossip$Holding;", .fieldLink RX2 124 "DotGossip$Holding" "seen" "[I", .methodLink RX2 52 yX2_requireReplica, .instanceMethod yX2_requireReplica, .selects RX2 yX2_requireReplica yX2_requireReplica, .initialized RX2, .code yX2_requireReplica cX2_requireReplica 2 none, .fieldLink RX2 23 "DotGossip" "replicaCount" "I", .methodLink RX2 56 yX2_requireIndex, .static yX2_requireIndex, .code yX2_requireIndex cX2_requireIndex 2 none, .methodLink RX2 27 yX2_require, .static yX2_require, .code yX2_require cX2_require 1 none, .classLink RX2 131 "java/lang/IllegalArgumentException", .initialized "java/lang/IllegalArgumentException"] ++ wsX20 ++ wsX00 ++ (vx_at0 RX2 133 "java/lang/IllegalArgumentException" ["java/lang/RuntimeException", "java/lang/Exception"]).filter goodWord)
def wsX2_same_r1 : List Cond := [Cond.fieldLink RX2 11 "DotGossip" "holdings" "[LDotGossip$Holding;", Cond.methodLink RX2 52 yX2_requireReplica, Cond.instanceMethod yX2_requireReplica, Cond.selects RX2 yX2_requireReplica yX2_requireReplica, Cond.initialized RX2, Cond.code yX2_requireReplica cX2_requireReplica 2 none, Cond.fieldLink RX2 23 "DotGossip" "replicaCount" "I", Cond.methodLink RX2 56 yX2_requireIndex, Cond.static yX2_requireIndex, Cond.code yX2_requireIndex cX2_requireIndex 2 none, Cond.methodLink RX2 27 yX2_require, Cond.static yX2_require, Cond.code yX2_require cX2_require 1 none, Cond.classLink RX2 131 "java/lang/IllegalArgumentException", Cond.initialized "java/lang/IllegalArgumentException", Cond.methodLink RX2 127 yX0_matches, Cond.instanceMethod yX0_matches, Cond.selects RX0 yX0_matches yX0_matches, Cond.initialized RX0, Cond.code yX0_matches cX0_matches 2 (some .boolean), Cond.fieldLink RX0 9 "DotGossip$Holding" "seen" "[I", Cond.fieldLink RX0 15 "DotGossip$Holding" "numbers" "[I", Cond.fieldLink RX0 21 "DotGossip$Holding" "added" "[J", Cond.fieldLink RX0 25 "DotGossip$Holding" "taken" "[J"]
def wsX2_same_r2 : List Cond := [Cond.methodLink RX0 61 yX0_equalInts, Cond.static yX0_equalInts, Cond.code yX0_equalInts cX0_equalInts 3 (some .boolean), Cond.methodLink RX0 65 yX0_equalLongs, Cond.static yX0_equalLongs, Cond.code yX0_equalLongs cX0_equalLongs 3 (some .boolean)]
def wsX2_same : List Cond := .code yX2_same cX2_same 3 (some .boolean) :: ((wsX2_same_r1 ++ wsX2_same_r2) ++ wsX20 ++ wsX00 ++ (vx_at0 RX2 133 "java/lang/IllegalArgumentException" ["java/lang/RuntimeException", "java/lang/Exception"]).filter goodWord)
def wsX2_message_r1 : List Cond := [Cond.fieldLink RX2 23 "DotGossip" "replicaCount" "I", Cond.fieldLink RX2 19 "DotGossip" "wire" "Ljava/util/ArrayList;", Cond.classLink RX2 81 "DotGossip$Message", Cond.fieldLink RX2 112 "DotGossip$Message" "from" "I", Cond.fieldLink RX2 98 "DotGossip$Message" "to" "I", Cond.fieldLink RX2 101 "DotGossip$Message" "sent" "LDotGossip$Holding;", Cond.fieldLink RX2 124 "DotGossip$Holding" "seen" "[I", Cond.methodLink RX2 74 yJx4a65c_size_8abf5, Cond.instanceMethod yJx4a65c_size_8abf5, Cond.selects RJx4a65c yJx4a65c_size_8abf5 yJx4a65c_size_8abf5, Cond.initialized RJx4a65c, Cond.code yJx4a65c_size_8abf5 cJx4a65c_size_8abf5 1 (some .int), Cond.fieldLink RJx4a65c 48 "java/util/ArrayList" "size" "I", Cond.methodLink RX2 56 yX2_requireIndex, Cond.static yX2_requireIndex, Cond.initialized RX2, Cond.code yX2_requireIndex cX2_requireIndex 2 none, Cond.methodLink RX2 27 yX2_require, Cond.static yX2_require, Cond.code yX2_require cX2_require 1 none, Cond.classLink RX2 131 "java/lang/IllegalArgumentException", Cond.initialized "java/lang/IllegalArgumentException", Cond.methodLink RX2 109 yJx4a65c_get_915e3, Cond.instanceMethod yJx4a65c_get_915e3]
def wsX2_message_r2 : List Cond := [Cond.selects RJx4a65c yJx4a65c_get_915e3 yJx4a65c_get_915e3, Cond.code yJx4a65c_get_915e3 cJx4a65c_get_915e3 2 (some (.object "java/lang/Object")), Cond.methodLink RJx4a65c 118 yJ15_checkIndex_7cf53, Cond.static yJ15_checkIndex_7cf53, Cond.initialized RJ15, Cond.code yJ15_checkIndex_7cf53 cJ15_checkIndex_7cf53 2 (some .int), Cond.methodLink RJ15 105 yJ3_checkIndex_8e157, Cond.static yJ3_checkIndex_8e157, Cond.initialized RJ3, Cond.code yJ3_checkIndex_8e157 cJ3_checkIndex_8e157 3 (some .int), Cond.methodLink RJx4a65c 123 yJx4a65c_elementData_915e3, Cond.instanceMethod yJx4a65c_elementData_915e3, Cond.selects RJx4a65c yJx4a65c_elementData_915e3 yJx4a65c_elementData_915e3, Cond.code yJx4a65c_elementData_915e3 cJx4a65c_elementData_915e3 2 (some (.object "java/lang/Object")), Cond.fieldLink RJx4a65c 9 "java/util/ArrayList" "elementData" "[Ljava/lang/Object;"]
def wsX2_message : List Cond := .code yX2_message cX2_message 4 (some .int) :: ((wsX2_message_r1 ++ wsX2_message_r2) ++ wsX20 ++ wsX10 ++ wsX00 ++ wsJx4a65c0 ++ (vx_at0 RX2 133 "java/lang/IllegalArgumentException" ["java/lang/RuntimeException", "java/lang/Exception"]).filter goodWord)
def wsX3_init : List Cond := .code yX3_init cX3_init 1 none :: ([.methodLink RX3 1 objectInit, .instanceMethod objectInit, .code objectInit ⟨#[0xb1]⟩ 1 none, .fieldLink RX3 7 "DotGossipModel" "replicas" "I", .constant RX3 13 (43884), .arrayClass .int, .fieldLink RX3 14 "DotGossipModel" "table" "[I", .fieldLink RX3 18 "DotGossipModel" "values" "[I", .arrayClass .long, .fieldLink RX3 21 "DotGossipModel" "sums" "[J", .fieldLink RX3 25 "DotGossipModel" "from" "[I", .fieldLink RX3 28 "DotGossipModel" "to" "[I"] ++ wsX30)
def wsX3_thrown : List Cond := .code yX3_thrown cX3_thrown 1 (some .int) :: ([.fieldLink RX3 31 "DotGossipModel" "code" "I"] ++ wsX30)
def wsX3_refuses : List Cond := .code yX3_refuses cX3_refuses 2 (some .boolean) :: ([.fieldLink RX3 31 "DotGossipModel" "code" "I"] ++ wsX30)
def wsX3_isReplica : List Cond := .code yX3_isReplica cX3_isReplica 2 (some .boolean) :: ([.fieldLink RX3 7 "DotGossipModel" "replicas" "I"] ++ wsX30)
def wsX3_isElement : List Cond := .code yX3_isElement cX3_isElement 4 (some .boolean) :: ([.methodLink RX3 34 yX3_isReplica, .instanceMethod yX3_isReplica, .selects RX3 yX3_isReplica yX3_isReplica, .initialized RX3, .code yX3_isReplica cX3_isReplica 2 (some .boolean), .fieldLink RX3 7 "DotGossipModel" "replicas" "I"] ++ wsX30)
def wsX3_isRegister : List Cond := .code yX3_isRegister cX3_isRegister 3 (some .boolean) :: ([.methodLink RX3 34 yX3_isReplica, .instanceMethod yX3_isReplica, .selects RX3 yX3_isReplica yX3_isReplica, .initialized RX3, .code yX3_isReplica cX3_isReplica 2 (some .boolean), .fieldLink RX3 7 "DotGossipModel" "replicas" "I"] ++ wsX30)
def wsX3_dots : List Cond := .code yX3_dots cX3_dots 2 (some .int) :: ([])
def wsX3_vectorAt : List Cond := .code yX3_vectorAt cX3_vectorAt 2 (some .int) :: ([])
def wsX3_open : List Cond := .code yX3_open cX3_open 3 none :: ([.fieldLink RX3 7 "DotGossipModel" "replicas" "I", .fieldLink RX3 41 "DotGossipModel" "messages" "I", .fieldLink RX3 14 "DotGossipModel" "table" "[I", .fieldLink RX3 18 "DotGossipModel" "values" "[I", .fieldLink RX3 21 "DotGossipModel" "sums" "[J", .methodLink RX3 38 yX3_refuses, .instanceMethod yX3_refuses, .selects RX3 yX3_refuses yX3_refuses, .initialized RX3, .code yX3_refuses cX3_refuses 2 (some .boolean), .fieldLink RX3 31 "DotGossipModel" "code" "I"] ++ wsX30)
def wsX3_many : List Cond := .code yX3_many cX3_many 5 (some .int) :: ([.fieldLink RX3 14 "DotGossipModel" "table" "[I", .methodLink RX3 44 yX3_dots, .static yX3_dots, .initialized RX3, .code yX3_dots cX3_dots 2 (some .int)] ++ wsX30)
def wsX3_empties : List Cond := .code yX3_empties cX3_empties 4 none :: ([.fieldLink RX3 14 "DotGossipModel" "table" "[I", .methodLink RX3 44 yX3_dots, .static yX3_dots, .initialized RX3, .code yX3_dots cX3_dots 2 (some .int)] ++ wsX30)
def wsX3_news : List Cond := .code yX3_news cX3_news 4 (some .int) :: ([.fieldLink RX3 14 "DotGossipModel" "table" "[I", .methodLink RX3 48 yX3_vectorAt, .static yX3_vectorAt, .initialized RX3, .code yX3_vectorAt cX3_vectorAt 2 (some .int), .methodLink RX3 51 yX3_empties, .instanceMethod yX3_empties, .selects RX3 yX3_empties yX3_empties, .code yX3_empties cX3_empties 4 none, .methodLink RX3 44 yX3_dots, .static yX3_dots, .code yX3_dots cX3_dots 2 (some .int)] ++ wsX30)
def wsX3_add_r1 : List Cond := [Cond.methodLink RX3 55 yX3_isElement, Cond.instanceMethod yX3_isElement, Cond.selects RX3 yX3_isElement yX3_isElement, Cond.initialized RX3, Cond.code yX3_isElement cX3_isElement 4 (some .boolean), Cond.methodLink RX3 34 yX3_isReplica, Cond.instanceMethod yX3_isReplica, Cond.selects RX3 yX3_isReplica yX3_isReplica, Cond.code yX3_isReplica cX3_isReplica 2 (some .boolean), Cond.fieldLink RX3 7 "DotGossipModel" "replicas" "I", Cond.methodLink RX3 38 yX3_refuses, Cond.instanceMethod yX3_refuses, Cond.selects RX3 yX3_refuses yX3_refuses, Cond.code yX3_refuses cX3_refuses 2 (some .boolean), Cond.fieldLink RX3 31 "DotGossipModel" "code" "I", Cond.methodLink RX3 59 yX3_news, Cond.instanceMethod yX3_news, Cond.selects RX3 yX3_news yX3_news, Cond.code yX3_news cX3_news 4 (some .int), Cond.fieldLink RX3 14 "DotGossipModel" "table" "[I", Cond.methodLink RX3 48 yX3_vectorAt, Cond.static yX3_vectorAt, Cond.code yX3_vectorAt cX3_vectorAt 2 (some .int), Cond.methodLink RX3 51 yX3_empties]
def wsX3_add_r2 : List Cond := [Cond.instanceMethod yX3_empties, Cond.selects RX3 yX3_empties yX3_empties, Cond.code yX3_empties cX3_empties 4 none, Cond.methodLink RX3 44 yX3_dots, Cond.static yX3_dots, Cond.code yX3_dots cX3_dots 2 (some .int)]
def wsX3_add : List Cond := .code yX3_add cX3_add 4 (some .int) :: ((wsX3_add_r1 ++ wsX3_add_r2) ++ wsX30)
def wsX3_remove_r1 : List Cond := [Cond.methodLink RX3 55 yX3_isElement, Cond.instanceMethod yX3_isElement, Cond.selects RX3 yX3_isElement yX3_isElement, Cond.initialized RX3, Cond.code yX3_isElement cX3_isElement 4 (some .boolean), Cond.methodLink RX3 34 yX3_isReplica, Cond.instanceMethod yX3_isReplica, Cond.selects RX3 yX3_isReplica yX3_isReplica, Cond.code yX3_isReplica cX3_isReplica 2 (some .boolean), Cond.fieldLink RX3 7 "DotGossipModel" "replicas" "I", Cond.methodLink RX3 38 yX3_refuses, Cond.instanceMethod yX3_refuses, Cond.selects RX3 yX3_refuses yX3_refuses, Cond.code yX3_refuses cX3_refuses 2 (some .boolean), Cond.fieldLink RX3 31 "DotGossipModel" "code" "I", Cond.methodLink RX3 62 yX3_many, Cond.instanceMethod yX3_many, Cond.selects RX3 yX3_many yX3_many, Cond.code yX3_many cX3_many 5 (some .int), Cond.fieldLink RX3 14 "DotGossipModel" "table" "[I", Cond.methodLink RX3 44 yX3_dots, Cond.static yX3_dots, Cond.code yX3_dots cX3_dots 2 (some .int), Cond.methodLink RX3 51 yX3_empties]
def wsX3_remove_r2 : List Cond := [Cond.instanceMethod yX3_empties, Cond.selects RX3 yX3_empties yX3_empties, Cond.code yX3_empties cX3_empties 4 none]
def wsX3_remove : List Cond := .code yX3_remove cX3_remove 5 (some .int) :: ((wsX3_remove_r1 ++ wsX3_remove_r2) ++ wsX30)
def wsX3_clear_r1 : List Cond := [Cond.methodLink RX3 55 yX3_isElement, Cond.instanceMethod yX3_isElement, Cond.selects RX3 yX3_isElement yX3_isElement, Cond.initialized RX3, Cond.code yX3_isElement cX3_isElement 4 (some .boolean), Cond.methodLink RX3 34 yX3_isReplica, Cond.instanceMethod yX3_isReplica, Cond.selects RX3 yX3_isReplica yX3_isReplica, Cond.code yX3_isReplica cX3_isReplica 2 (some .boolean), Cond.fieldLink RX3 7 "DotGossipModel" "replicas" "I", Cond.methodLink RX3 38 yX3_refuses, Cond.instanceMethod yX3_refuses, Cond.selects RX3 yX3_refuses yX3_refuses, Cond.code yX3_refuses cX3_refuses 2 (some .boolean), Cond.fieldLink RX3 31 "DotGossipModel" "code" "I", Cond.methodLink RX3 62 yX3_many, Cond.instanceMethod yX3_many, Cond.selects RX3 yX3_many yX3_many, Cond.code yX3_many cX3_many 5 (some .int), Cond.fieldLink RX3 14 "DotGossipModel" "table" "[I", Cond.methodLink RX3 44 yX3_dots, Cond.static yX3_dots, Cond.code yX3_dots cX3_dots 2 (some .int), Cond.methodLink RX3 51 yX3_empties]
def wsX3_clear_r2 : List Cond := [Cond.instanceMethod yX3_empties, Cond.selects RX3 yX3_empties yX3_empties, Cond.code yX3_empties cX3_empties 4 none]
def wsX3_clear : List Cond := .code yX3_clear cX3_clear 5 (some .int) :: ((wsX3_clear_r1 ++ wsX3_clear_r2) ++ wsX30)
def wsX3_write_r1 : List Cond := [Cond.fieldLink RX3 18 "DotGossipModel" "values" "[I", Cond.methodLink RX3 65 yX3_isRegister, Cond.instanceMethod yX3_isRegister, Cond.selects RX3 yX3_isRegister yX3_isRegister, Cond.initialized RX3, Cond.code yX3_isRegister cX3_isRegister 3 (some .boolean), Cond.methodLink RX3 34 yX3_isReplica, Cond.instanceMethod yX3_isReplica, Cond.selects RX3 yX3_isReplica yX3_isReplica, Cond.code yX3_isReplica cX3_isReplica 2 (some .boolean), Cond.fieldLink RX3 7 "DotGossipModel" "replicas" "I", Cond.methodLink RX3 38 yX3_refuses, Cond.instanceMethod yX3_refuses, Cond.selects RX3 yX3_refuses yX3_refuses, Cond.code yX3_refuses cX3_refuses 2 (some .boolean), Cond.fieldLink RX3 31 "DotGossipModel" "code" "I", Cond.methodLink RX3 62 yX3_many, Cond.instanceMethod yX3_many, Cond.selects RX3 yX3_many yX3_many, Cond.code yX3_many cX3_many 5 (some .int), Cond.fieldLink RX3 14 "DotGossipModel" "table" "[I", Cond.methodLink RX3 44 yX3_dots, Cond.static yX3_dots, Cond.code yX3_dots cX3_dots 2 (some .int)]
def wsX3_write_r2 : List Cond := [Cond.methodLink RX3 59 yX3_news, Cond.instanceMethod yX3_news, Cond.selects RX3 yX3_news yX3_news, Cond.code yX3_news cX3_news 4 (some .int), Cond.methodLink RX3 48 yX3_vectorAt, Cond.static yX3_vectorAt, Cond.code yX3_vectorAt cX3_vectorAt 2 (some .int), Cond.methodLink RX3 51 yX3_empties, Cond.instanceMethod yX3_empties, Cond.selects RX3 yX3_empties yX3_empties, Cond.code yX3_empties cX3_empties 4 none]
def wsX3_write : List Cond := .code yX3_write cX3_write 5 (some .int) :: ((wsX3_write_r1 ++ wsX3_write_r2) ++ wsX30)
def wsX3_sum : List Cond := .code yX3_sum cX3_sum 7 (some .int) :: ([.fieldLink RX3 21 "DotGossipModel" "sums" "[J"] ++ wsX30)
def wsX3_count : List Cond := .code yX3_count cX3_count 5 (some .int) :: ([.fieldLink RX3 21 "DotGossipModel" "sums" "[J", .methodLink RX3 65 yX3_isRegister, .instanceMethod yX3_isRegister, .selects RX3 yX3_isRegister yX3_isRegister, .initialized RX3, .code yX3_isRegister cX3_isRegister 3 (some .boolean), .methodLink RX3 34 yX3_isReplica, .instanceMethod yX3_isReplica, .selects RX3 yX3_isReplica yX3_isReplica, .code yX3_isReplica cX3_isReplica 2 (some .boolean), .fieldLink RX3 7 "DotGossipModel" "replicas" "I", .methodLink RX3 38 yX3_refuses, .instanceMethod yX3_refuses, .selects RX3 yX3_refuses yX3_refuses, .code yX3_refuses cX3_refuses 2 (some .boolean), .fieldLink RX3 31 "DotGossipModel" "code" "I", .methodLink RX3 69 yX3_sum, .instanceMethod yX3_sum, .selects RX3 yX3_sum yX3_sum, .code yX3_sum cX3_sum 7 (some .int)] ++ wsX30)
def wsX3_copies : List Cond := .code yX3_copies cX3_copies 4 none :: ([.fieldLink RX3 14 "DotGossipModel" "table" "[I", .fieldLink RX3 18 "DotGossipModel" "values" "[I", .fieldLink RX3 21 "DotGossipModel" "sums" "[J"] ++ wsX30)
def wsX3_gossip : List Cond := .code yX3_gossip cX3_gossip 3 (some .int) :: ([.fieldLink RX3 41 "DotGossipModel" "messages" "I", .fieldLink RX3 25 "DotGossipModel" "from" "[I", .fieldLink RX3 28 "DotGossipModel" "to" "[I", .methodLink RX3 34 yX3_isReplica, .instanceMethod yX3_isReplica, .selects RX3 yX3_isReplica yX3_isReplica, .initialized RX3, .code yX3_isReplica cX3_isReplica 2 (some .boolean), .fieldLink RX3 7 "DotGossipModel" "replicas" "I", .methodLink RX3 38 yX3_refuses, .instanceMethod yX3_refuses, .selects RX3 yX3_refuses yX3_refuses, .code yX3_refuses cX3_refuses 2 (some .boolean), .fieldLink RX3 31 "DotGossipModel" "code" "I", .methodLink RX3 72 yX3_copies, .instanceMethod yX3_copies, .selects RX3 yX3_copies yX3_copies, .code yX3_copies cX3_copies 4 none, .fieldLink RX3 14 "DotGossipModel" "table" "[I", .fieldLink RX3 18 "DotGossipModel" "values" "[I", .fieldLink RX3 21 "DotGossipModel" "sums" "[J"] ++ wsX30)
def wsX3_isMessage : List Cond := .code yX3_isMessage cX3_isMessage 2 (some .boolean) :: ([.fieldLink RX3 41 "DotGossipModel" "messages" "I"] ++ wsX30)
def wsX3_gone : List Cond := .code yX3_gone cX3_gone 3 none :: ([.fieldLink RX3 41 "DotGossipModel" "messages" "I", .fieldLink RX3 25 "DotGossipModel" "from" "[I", .fieldLink RX3 28 "DotGossipModel" "to" "[I", .methodLink RX3 72 yX3_copies, .instanceMethod yX3_copies, .selects RX3 yX3_copies yX3_copies, .initialized RX3, .code yX3_copies cX3_copies 4 none, .fieldLink RX3 14 "DotGossipModel" "table" "[I", .fieldLink RX3 18 "DotGossipModel" "values" "[I", .fieldLink RX3 21 "DotGossipModel" "sums" "[J"] ++ wsX30)
def wsX3_merges : List Cond := .code yX3_merges cX3_merges 9 (some .int) :: ([.fieldLink RX3 14 "DotGossipModel" "table" "[I", .fieldLink RX3 18 "DotGossipModel" "values" "[I", .fieldLink RX3 21 "DotGossipModel" "sums" "[J", .methodLink RX3 44 yX3_dots, .static yX3_dots, .initialized RX3, .code yX3_dots cX3_dots 2 (some .int), .methodLink RX3 48 yX3_vectorAt, .static yX3_vectorAt, .code yX3_vectorAt cX3_vectorAt 2 (some .int)] ++ wsX30)
def wsX3_deliver_r1 : List Cond := [Cond.fieldLink RX3 28 "DotGossipModel" "to" "[I", Cond.methodLink RX3 75 yX3_isMessage, Cond.instanceMethod yX3_isMessage, Cond.selects RX3 yX3_isMessage yX3_isMessage, Cond.initialized RX3, Cond.code yX3_isMessage cX3_isMessage 2 (some .boolean), Cond.fieldLink RX3 41 "DotGossipModel" "messages" "I", Cond.methodLink RX3 38 yX3_refuses, Cond.instanceMethod yX3_refuses, Cond.selects RX3 yX3_refuses yX3_refuses, Cond.code yX3_refuses cX3_refuses 2 (some .boolean), Cond.fieldLink RX3 31 "DotGossipModel" "code" "I", Cond.methodLink RX3 78 yX3_merges, Cond.instanceMethod yX3_merges, Cond.selects RX3 yX3_merges yX3_merges, Cond.code yX3_merges cX3_merges 9 (some .int), Cond.fieldLink RX3 14 "DotGossipModel" "table" "[I", Cond.fieldLink RX3 18 "DotGossipModel" "values" "[I", Cond.fieldLink RX3 21 "DotGossipModel" "sums" "[J", Cond.methodLink RX3 44 yX3_dots, Cond.static yX3_dots, Cond.code yX3_dots cX3_dots 2 (some .int), Cond.methodLink RX3 48 yX3_vectorAt, Cond.static yX3_vectorAt]
def wsX3_deliver_r2 : List Cond := [Cond.code yX3_vectorAt cX3_vectorAt 2 (some .int), Cond.methodLink RX3 81 yX3_gone, Cond.instanceMethod yX3_gone, Cond.selects RX3 yX3_gone yX3_gone, Cond.code yX3_gone cX3_gone 3 none, Cond.fieldLink RX3 25 "DotGossipModel" "from" "[I", Cond.methodLink RX3 72 yX3_copies, Cond.instanceMethod yX3_copies, Cond.selects RX3 yX3_copies yX3_copies, Cond.code yX3_copies cX3_copies 4 none]
def wsX3_deliver : List Cond := .code yX3_deliver cX3_deliver 3 (some .int) :: ((wsX3_deliver_r1 ++ wsX3_deliver_r2) ++ wsX30)
def wsX3_drop : List Cond := .code yX3_drop cX3_drop 3 (some .int) :: ([.fieldLink RX3 28 "DotGossipModel" "to" "[I", .methodLink RX3 75 yX3_isMessage, .instanceMethod yX3_isMessage, .selects RX3 yX3_isMessage yX3_isMessage, .initialized RX3, .code yX3_isMessage cX3_isMessage 2 (some .boolean), .fieldLink RX3 41 "DotGossipModel" "messages" "I", .methodLink RX3 38 yX3_refuses, .instanceMethod yX3_refuses, .selects RX3 yX3_refuses yX3_refuses, .code yX3_refuses cX3_refuses 2 (some .boolean), .fieldLink RX3 31 "DotGossipModel" "code" "I", .methodLink RX3 81 yX3_gone, .instanceMethod yX3_gone, .selects RX3 yX3_gone yX3_gone, .code yX3_gone cX3_gone 3 none, .fieldLink RX3 25 "DotGossipModel" "from" "[I", .methodLink RX3 72 yX3_copies, .instanceMethod yX3_copies, .selects RX3 yX3_copies yX3_copies, .code yX3_copies cX3_copies 4 none, .fieldLink RX3 14 "DotGossipModel" "table" "[I", .fieldLink RX3 18 "DotGossipModel" "values" "[I", .fieldLink RX3 21 "DotGossipModel" "sums" "[J"] ++ wsX30)
def wsX3_copy : List Cond := .code yX3_copy cX3_copy 2 (some .boolean) :: ([.fieldLink RX3 41 "DotGossipModel" "messages" "I", .fieldLink RX3 25 "DotGossipModel" "from" "[I", .fieldLink RX3 28 "DotGossipModel" "to" "[I", .methodLink RX3 75 yX3_isMessage, .instanceMethod yX3_isMessage, .selects RX3 yX3_isMessage yX3_isMessage, .initialized RX3, .code yX3_isMessage cX3_isMessage 2 (some .boolean), .methodLink RX3 38 yX3_refuses, .instanceMethod yX3_refuses, .selects RX3 yX3_refuses yX3_refuses, .code yX3_refuses cX3_refuses 2 (some .boolean), .fieldLink RX3 31 "DotGossipModel" "code" "I", .methodLink RX3 72 yX3_copies, .instanceMethod yX3_copies, .selects RX3 yX3_copies yX3_copies, .code yX3_copies cX3_copies 4 none, .fieldLink RX3 14 "DotGossipModel" "table" "[I", .fieldLink RX3 18 "DotGossipModel" "values" "[I", .fieldLink RX3 21 "DotGossipModel" "sums" "[J"] ++ wsX30)
def wsX3_turn : List Cond := .code yX3_turn cX3_turn 3 none :: ([.fieldLink RX3 28 "DotGossipModel" "to" "[I", .methodLink RX3 75 yX3_isMessage, .instanceMethod yX3_isMessage, .selects RX3 yX3_isMessage yX3_isMessage, .initialized RX3, .code yX3_isMessage cX3_isMessage 2 (some .boolean), .fieldLink RX3 41 "DotGossipModel" "messages" "I", .methodLink RX3 34 yX3_isReplica, .instanceMethod yX3_isReplica, .selects RX3 yX3_isReplica yX3_isReplica, .code yX3_isReplica cX3_isReplica 2 (some .boolean), .fieldLink RX3 7 "DotGossipModel" "replicas" "I", .methodLink RX3 38 yX3_refuses, .instanceMethod yX3_refuses, .selects RX3 yX3_refuses yX3_refuses, .code yX3_refuses cX3_refuses 2 (some .boolean), .fieldLink RX3 31 "DotGossipModel" "code" "I"] ++ wsX30)
def wsX3_contains : List Cond := .code yX3_contains cX3_contains 4 (some .boolean) :: ([.methodLink RX3 55 yX3_isElement, .instanceMethod yX3_isElement, .selects RX3 yX3_isElement yX3_isElement, .initialized RX3, .code yX3_isElement cX3_isElement 4 (some .boolean), .methodLink RX3 34 yX3_isReplica, .instanceMethod yX3_isReplica, .selects RX3 yX3_isReplica yX3_isReplica, .code yX3_isReplica cX3_isReplica 2 (some .boolean), .fieldLink RX3 7 "DotGossipModel" "replicas" "I", .methodLink RX3 38 yX3_refuses, .instanceMethod yX3_refuses, .selects RX3 yX3_refuses yX3_refuses, .code yX3_refuses cX3_refuses 2 (some .boolean), .fieldLink RX3 31 "DotGossipModel" "code" "I", .methodLink RX3 62 yX3_many, .instanceMethod yX3_many, .selects RX3 yX3_many yX3_many, .code yX3_many cX3_many 5 (some .int), .fieldLink RX3 14 "DotGossipModel" "table" "[I", .methodLink RX3 44 yX3_dots, .static yX3_dots, .code yX3_dots cX3_dots 2 (some .int)] ++ wsX30)
def wsX3_size : List Cond := .code yX3_size cX3_size 5 (some .int) :: ([.methodLink RX3 55 yX3_isElement, .instanceMethod yX3_isElement, .selects RX3 yX3_isElement yX3_isElement, .initialized RX3, .code yX3_isElement cX3_isElement 4 (some .boolean), .methodLink RX3 34 yX3_isReplica, .instanceMethod yX3_isReplica, .selects RX3 yX3_isReplica yX3_isReplica, .code yX3_isReplica cX3_isReplica 2 (some .boolean), .fieldLink RX3 7 "DotGossipModel" "replicas" "I", .methodLink RX3 38 yX3_refuses, .instanceMethod yX3_refuses, .selects RX3 yX3_refuses yX3_refuses, .code yX3_refuses cX3_refuses 2 (some .boolean), .fieldLink RX3 31 "DotGossipModel" "code" "I", .methodLink RX3 62 yX3_many, .instanceMethod yX3_many, .selects RX3 yX3_many yX3_many, .code yX3_many cX3_many 5 (some .int), .fieldLink RX3 14 "DotGossipModel" "table" "[I", .methodLink RX3 44 yX3_dots, .static yX3_dots, .code yX3_dots cX3_dots 2 (some .int)] ++ wsX30)
def wsX3_origin : List Cond := .code yX3_origin cX3_origin 6 (some .int) :: ([.fieldLink RX3 14 "DotGossipModel" "table" "[I", .methodLink RX3 44 yX3_dots, .static yX3_dots, .initialized RX3, .code yX3_dots cX3_dots 2 (some .int)] ++ wsX30)
def wsX3_dot : List Cond := .code yX3_dot cX3_dot 8 (some .int) :: ([.fieldLink RX3 14 "DotGossipModel" "table" "[I", .methodLink RX3 55 yX3_isElement, .instanceMethod yX3_isElement, .selects RX3 yX3_isElement yX3_isElement, .initialized RX3, .code yX3_isElement cX3_isElement 4 (some .boolean), .methodLink RX3 34 yX3_isReplica, .instanceMethod yX3_isReplica, .selects RX3 yX3_isReplica yX3_isReplica, .code yX3_isReplica cX3_isReplica 2 (some .boolean), .fieldLink RX3 7 "DotGossipModel" "replicas" "I", .methodLink RX3 38 yX3_refuses, .instanceMethod yX3_refuses, .selects RX3 yX3_refuses yX3_refuses, .code yX3_refuses cX3_refuses 2 (some .boolean), .fieldLink RX3 31 "DotGossipModel" "code" "I", .methodLink RX3 85 yX3_origin, .instanceMethod yX3_origin, .selects RX3 yX3_origin yX3_origin, .code yX3_origin cX3_origin 6 (some .int), .methodLink RX3 44 yX3_dots, .static yX3_dots, .code yX3_dots cX3_dots 2 (some .int)] ++ wsX30)
def wsX3_value : List Cond := .code yX3_value cX3_value 6 (some .int) :: ([.fieldLink RX3 14 "DotGossipModel" "table" "[I", .fieldLink RX3 18 "DotGossipModel" "values" "[I", .methodLink RX3 65 yX3_isRegister, .instanceMethod yX3_isRegister, .selects RX3 yX3_isRegister yX3_isRegister, .initialized RX3, .code yX3_isRegister cX3_isRegister 3 (some .boolean), .methodLink RX3 34 yX3_isReplica, .instanceMethod yX3_isReplica, .selects RX3 yX3_isReplica yX3_isReplica, .code yX3_isReplica cX3_isReplica 2 (some .boolean), .fieldLink RX3 7 "DotGossipModel" "replicas" "I", .methodLink RX3 38 yX3_refuses, .instanceMethod yX3_refuses, .selects RX3 yX3_refuses yX3_refuses, .code yX3_refuses cX3_refuses 2 (some .boolean), .fieldLink RX3 31 "DotGossipModel" "code" "I", .methodLink RX3 85 yX3_origin, .instanceMethod yX3_origin, .selects RX3 yX3_origin yX3_origin, .code yX3_origin cX3_origin 6 (some .int), .methodLink RX3 44 yX3_dots, .static yX3_dots, .code yX3_dots cX3_dots 2 (some .int)] ++ wsX30)
def wsX3_values : List Cond := .code yX3_values cX3_values 3 (some .int) :: ([.methodLink RX3 65 yX3_isRegister, .instanceMethod yX3_isRegister, .selects RX3 yX3_isRegister yX3_isRegister, .initialized RX3, .code yX3_isRegister cX3_isRegister 3 (some .boolean), .methodLink RX3 34 yX3_isReplica, .instanceMethod yX3_isReplica, .selects RX3 yX3_isReplica yX3_isReplica, .code yX3_isReplica cX3_isReplica 2 (some .boolean), .fieldLink RX3 7 "DotGossipModel" "replicas" "I", .methodLink RX3 38 yX3_refuses, .instanceMethod yX3_refuses, .selects RX3 yX3_refuses yX3_refuses, .code yX3_refuses cX3_refuses 2 (some .boolean), .fieldLink RX3 31 "DotGossipModel" "code" "I", .methodLink RX3 62 yX3_many, .instanceMethod yX3_many, .selects RX3 yX3_many yX3_many, .code yX3_many cX3_many 5 (some .int), .fieldLink RX3 14 "DotGossipModel" "table" "[I", .methodLink RX3 44 yX3_dots, .static yX3_dots, .code yX3_dots cX3_dots 2 (some .int)] ++ wsX30)
def wsX3_total : List Cond := .code yX3_total cX3_total 3 (some .int) :: ([.methodLink RX3 65 yX3_isRegister, .instanceMethod yX3_isRegister, .selects RX3 yX3_isRegister yX3_isRegister, .initialized RX3, .code yX3_isRegister cX3_isRegister 3 (some .boolean), .methodLink RX3 34 yX3_isReplica, .instanceMethod yX3_isReplica, .selects RX3 yX3_isReplica yX3_isReplica, .code yX3_isReplica cX3_isReplica 2 (some .boolean), .fieldLink RX3 7 "DotGossipModel" "replicas" "I", .methodLink RX3 38 yX3_refuses, .instanceMethod yX3_refuses, .selects RX3 yX3_refuses yX3_refuses, .code yX3_refuses cX3_refuses 2 (some .boolean), .fieldLink RX3 31 "DotGossipModel" "code" "I", .methodLink RX3 69 yX3_sum, .instanceMethod yX3_sum, .selects RX3 yX3_sum yX3_sum, .code yX3_sum cX3_sum 7 (some .int), .fieldLink RX3 21 "DotGossipModel" "sums" "[J"] ++ wsX30)
def wsX3_vector : List Cond := .code yX3_vector cX3_vector 3 (some .int) :: ([.fieldLink RX3 14 "DotGossipModel" "table" "[I", .methodLink RX3 34 yX3_isReplica, .instanceMethod yX3_isReplica, .selects RX3 yX3_isReplica yX3_isReplica, .initialized RX3, .code yX3_isReplica cX3_isReplica 2 (some .boolean), .fieldLink RX3 7 "DotGossipModel" "replicas" "I", .methodLink RX3 38 yX3_refuses, .instanceMethod yX3_refuses, .selects RX3 yX3_refuses yX3_refuses, .code yX3_refuses cX3_refuses 2 (some .boolean), .fieldLink RX3 31 "DotGossipModel" "code" "I", .methodLink RX3 48 yX3_vectorAt, .static yX3_vectorAt, .code yX3_vectorAt cX3_vectorAt 2 (some .int)] ++ wsX30)
def wsX3_same : List Cond := .code yX3_same cX3_same 6 (some .boolean) :: ([.fieldLink RX3 14 "DotGossipModel" "table" "[I", .fieldLink RX3 18 "DotGossipModel" "values" "[I", .fieldLink RX3 21 "DotGossipModel" "sums" "[J", .methodLink RX3 34 yX3_isReplica, .instanceMethod yX3_isReplica, .selects RX3 yX3_isReplica yX3_isReplica, .initialized RX3, .code yX3_isReplica cX3_isReplica 2 (some .boolean), .fieldLink RX3 7 "DotGossipModel" "replicas" "I", .methodLink RX3 38 yX3_refuses, .instanceMethod yX3_refuses, .selects RX3 yX3_refuses yX3_refuses, .code yX3_refuses cX3_refuses 2 (some .boolean), .fieldLink RX3 31 "DotGossipModel" "code" "I", .methodLink RX3 44 yX3_dots, .static yX3_dots, .code yX3_dots cX3_dots 2 (some .int)] ++ wsX30)
def wsX3_message : List Cond := .code yX3_message cX3_message 3 (some .int) :: ([.fieldLink RX3 31 "DotGossipModel" "code" "I", .fieldLink RX3 7 "DotGossipModel" "replicas" "I", .fieldLink RX3 41 "DotGossipModel" "messages" "I", .fieldLink RX3 25 "DotGossipModel" "from" "[I", .fieldLink RX3 28 "DotGossipModel" "to" "[I", .fieldLink RX3 14 "DotGossipModel" "table" "[I", .methodLink RX3 75 yX3_isMessage, .instanceMethod yX3_isMessage, .selects RX3 yX3_isMessage yX3_isMessage, .initialized RX3, .code yX3_isMessage cX3_isMessage 2 (some .boolean), .methodLink RX3 38 yX3_refuses, .instanceMethod yX3_refuses, .selects RX3 yX3_refuses yX3_refuses, .code yX3_refuses cX3_refuses 2 (some .boolean), .methodLink RX3 48 yX3_vectorAt, .static yX3_vectorAt, .code yX3_vectorAt cX3_vectorAt 2 (some .int)] ++ wsX30)
def wsJ9_max_7cf53 : List Cond := .code yJ9_max_7cf53 cJ9_max_7cf53 2 (some .int) :: ([])
def wsJ9_max_f86c9 : List Cond := .code yJ9_max_f86c9 cJ9_max_f86c9 4 (some .long) :: ([])
def wsJ9_min_7cf53 : List Cond := .code yJ9_min_7cf53 cJ9_min_7cf53 2 (some .int) :: ([])
def wsL_open_r1 : List Cond := [Cond.classLink RL 13 "java/lang/IllegalArgumentException", Cond.methodLink RL 7 yX2_open, Cond.instanceMethod yX2_open, Cond.selects RX2 yX2_open yX2_open, Cond.initialized RX2, Cond.code yX2_open cX2_open 3 none, Cond.fieldLink RX2 11 "DotGossip" "holdings" "[LDotGossip$Holding;", Cond.fieldLink RX2 19 "DotGossip" "wire" "Ljava/util/ArrayList;", Cond.fieldLink RX2 23 "DotGossip" "replicaCount" "I", Cond.methodLink RX2 27 yX2_require, Cond.static yX2_require, Cond.code yX2_require cX2_require 1 none, Cond.classLink RX2 131 "java/lang/IllegalArgumentException", Cond.initialized "java/lang/IllegalArgumentException", Cond.methodLink RX2 31 yX0_wipe, Cond.instanceMethod yX0_wipe, Cond.selects RX0 yX0_wipe yX0_wipe, Cond.initialized RX0, Cond.code yX0_wipe cX0_wipe 1 none, Cond.fieldLink RX0 9 "DotGossip$Holding" "seen" "[I", Cond.fieldLink RX0 15 "DotGossip$Holding" "numbers" "[I", Cond.fieldLink RX0 18 "DotGossip$Holding" "written" "[I", Cond.fieldLink RX0 21 "DotGossip$Holding" "added" "[J", Cond.fieldLink RX0 25 "DotGossip$Holding" "taken" "[J"]
def wsL_open_r2 : List Cond := [Cond.methodLink RX0 28 yJ7_fill_53178, Cond.static yJ7_fill_53178, Cond.initialized RJ7, Cond.code yJ7_fill_53178 cJ7_fill_53178 4 none, Cond.methodLink RX0 34 yJ7_fill_d0a16, Cond.static yJ7_fill_d0a16, Cond.code yJ7_fill_d0a16 cJ7_fill_d0a16 5 none, Cond.methodLink RX2 34 yJx4a65c_clear_da8c8, Cond.instanceMethod yJx4a65c_clear_da8c8, Cond.selects RJx4a65c yJx4a65c_clear_da8c8 yJx4a65c_clear_da8c8, Cond.initialized RJx4a65c, Cond.code yJx4a65c_clear_da8c8 cJx4a65c_clear_da8c8 4 none, Cond.fieldLink RJx4a65c 63 "java/util/ArrayList" "modCount" "I", Cond.sameField "java/util/ArrayList" "java/util/AbstractList" "modCount" "I", Cond.fieldLink RJx4a65c 9 "java/util/ArrayList" "elementData" "[Ljava/lang/Object;", Cond.fieldLink RJx4a65c 48 "java/util/ArrayList" "size" "I"]
def wsL_open : List Cond := .codeWith yL_open cL_open 3 (some .int) [(0, 5, 8, 13)] :: ((wsL_open_r1 ++ wsL_open_r2) ++ wsX20 ++ wsX00 ++ wsJx4a65c0 ++ (vx_at0 RX2 133 "java/lang/IllegalArgumentException" ["java/lang/RuntimeException", "java/lang/Exception"]).filter goodWord)
def wsL_add_r1 : List Cond := [Cond.classLink RL 13 "java/lang/IllegalArgumentException", Cond.methodLink RL 15 yX2_add, Cond.instanceMethod yX2_add, Cond.selects RX2 yX2_add yX2_add, Cond.initialized RX2, Cond.code yX2_add cX2_add 6 (some .int), Cond.fieldLink RX2 11 "DotGossip" "holdings" "[LDotGossip$Holding;", Cond.methodLink RX2 37 yX2_requireElement, Cond.instanceMethod yX2_requireElement, Cond.selects RX2 yX2_requireElement yX2_requireElement, Cond.code yX2_requireElement cX2_requireElement 4 none, Cond.methodLink RX2 52 yX2_requireReplica, Cond.instanceMethod yX2_requireReplica, Cond.selects RX2 yX2_requireReplica yX2_requireReplica, Cond.code yX2_requireReplica cX2_requireReplica 2 none, Cond.fieldLink RX2 23 "DotGossip" "replicaCount" "I", Cond.methodLink RX2 56 yX2_requireIndex, Cond.static yX2_requireIndex, Cond.code yX2_requireIndex cX2_requireIndex 2 none, Cond.methodLink RX2 27 yX2_require, Cond.static yX2_require, Cond.code yX2_require cX2_require 1 none, Cond.classLink RX2 131 "java/lang/IllegalArgumentException", Cond.initialized "java/lang/IllegalArgumentException"]
def wsL_add_r2 : List Cond := [Cond.methodLink RX2 41 yX2_placeOfElement, Cond.static yX2_placeOfElement, Cond.code yX2_placeOfElement cX2_placeOfElement 2 (some .int), Cond.methodLink RX2 45 yX0_forget, Cond.instanceMethod yX0_forget, Cond.selects RX0 yX0_forget yX0_forget, Cond.initialized RX0, Cond.code yX0_forget cX0_forget 4 (some .int), Cond.fieldLink RX0 15 "DotGossip$Holding" "numbers" "[I", Cond.methodLink RX0 44 yX0_dotsAt, Cond.instanceMethod yX0_dotsAt, Cond.selects RX0 yX0_dotsAt yX0_dotsAt, Cond.code yX0_dotsAt cX0_dotsAt 4 (some .int), Cond.methodLink RX2 49 yX0_makeDot, Cond.instanceMethod yX0_makeDot, Cond.selects RX0 yX0_makeDot yX0_makeDot, Cond.code yX0_makeDot cX0_makeDot 3 (some .int), Cond.fieldLink RX0 9 "DotGossip$Holding" "seen" "[I"]
def wsL_add : List Cond := .codeWith yL_add cL_add 6 (some .int) [(0, 12, 15, 13)] :: ((wsL_add_r1 ++ wsL_add_r2) ++ wsX20 ++ wsX00 ++ (vx_at0 RX2 133 "java/lang/IllegalArgumentException" ["java/lang/RuntimeException", "java/lang/Exception"]).filter goodWord)
def wsL_remove_r1 : List Cond := [Cond.classLink RL 13 "java/lang/IllegalArgumentException", Cond.methodLink RL 19 yX2_remove, Cond.instanceMethod yX2_remove, Cond.selects RX2 yX2_remove yX2_remove, Cond.initialized RX2, Cond.code yX2_remove cX2_remove 4 (some .int), Cond.fieldLink RX2 11 "DotGossip" "holdings" "[LDotGossip$Holding;", Cond.methodLink RX2 37 yX2_requireElement, Cond.instanceMethod yX2_requireElement, Cond.selects RX2 yX2_requireElement yX2_requireElement, Cond.code yX2_requireElement cX2_requireElement 4 none, Cond.methodLink RX2 52 yX2_requireReplica, Cond.instanceMethod yX2_requireReplica, Cond.selects RX2 yX2_requireReplica yX2_requireReplica, Cond.code yX2_requireReplica cX2_requireReplica 2 none, Cond.fieldLink RX2 23 "DotGossip" "replicaCount" "I", Cond.methodLink RX2 56 yX2_requireIndex, Cond.static yX2_requireIndex, Cond.code yX2_requireIndex cX2_requireIndex 2 none, Cond.methodLink RX2 27 yX2_require, Cond.static yX2_require, Cond.code yX2_require cX2_require 1 none, Cond.classLink RX2 131 "java/lang/IllegalArgumentException", Cond.initialized "java/lang/IllegalArgumentException"]
def wsL_remove_r2 : List Cond := [Cond.methodLink RX2 41 yX2_placeOfElement, Cond.static yX2_placeOfElement, Cond.code yX2_placeOfElement cX2_placeOfElement 2 (some .int), Cond.methodLink RX2 45 yX0_forget, Cond.instanceMethod yX0_forget, Cond.selects RX0 yX0_forget yX0_forget, Cond.initialized RX0, Cond.code yX0_forget cX0_forget 4 (some .int), Cond.fieldLink RX0 15 "DotGossip$Holding" "numbers" "[I", Cond.methodLink RX0 44 yX0_dotsAt, Cond.instanceMethod yX0_dotsAt, Cond.selects RX0 yX0_dotsAt yX0_dotsAt, Cond.code yX0_dotsAt cX0_dotsAt 4 (some .int)]
def wsL_remove : List Cond := .codeWith yL_remove cL_remove 6 (some .int) [(0, 12, 15, 13)] :: ((wsL_remove_r1 ++ wsL_remove_r2) ++ wsX20 ++ wsX00 ++ (vx_at0 RX2 133 "java/lang/IllegalArgumentException" ["java/lang/RuntimeException", "java/lang/Exception"]).filter goodWord)
def wsL_clear_r1 : List Cond := [Cond.classLink RL 13 "java/lang/IllegalArgumentException", Cond.methodLink RL 22 yX2_clear, Cond.instanceMethod yX2_clear, Cond.selects RX2 yX2_clear yX2_clear, Cond.initialized RX2, Cond.code yX2_clear cX2_clear 5 (some .int), Cond.fieldLink RX2 11 "DotGossip" "holdings" "[LDotGossip$Holding;", Cond.methodLink RX2 52 yX2_requireReplica, Cond.instanceMethod yX2_requireReplica, Cond.selects RX2 yX2_requireReplica yX2_requireReplica, Cond.code yX2_requireReplica cX2_requireReplica 2 none, Cond.fieldLink RX2 23 "DotGossip" "replicaCount" "I", Cond.methodLink RX2 56 yX2_requireIndex, Cond.static yX2_requireIndex, Cond.code yX2_requireIndex cX2_requireIndex 2 none, Cond.methodLink RX2 27 yX2_require, Cond.static yX2_require, Cond.code yX2_require cX2_require 1 none, Cond.classLink RX2 131 "java/lang/IllegalArgumentException", Cond.initialized "java/lang/IllegalArgumentException", Cond.methodLink RX2 41 yX2_placeOfElement, Cond.static yX2_placeOfElement, Cond.code yX2_placeOfElement cX2_placeOfElement 2 (some .int), Cond.methodLink RX2 45 yX0_forget]
def wsL_clear_r2 : List Cond := [Cond.instanceMethod yX0_forget, Cond.selects RX0 yX0_forget yX0_forget, Cond.initialized RX0, Cond.code yX0_forget cX0_forget 4 (some .int), Cond.fieldLink RX0 15 "DotGossip$Holding" "numbers" "[I", Cond.methodLink RX0 44 yX0_dotsAt, Cond.instanceMethod yX0_dotsAt, Cond.selects RX0 yX0_dotsAt yX0_dotsAt, Cond.code yX0_dotsAt cX0_dotsAt 4 (some .int)]
def wsL_clear : List Cond := .codeWith yL_clear cL_clear 5 (some .int) [(0, 10, 13, 13)] :: ((wsL_clear_r1 ++ wsL_clear_r2) ++ wsX20 ++ wsX00 ++ (vx_at0 RX2 133 "java/lang/IllegalArgumentException" ["java/lang/RuntimeException", "java/lang/Exception"]).filter goodWord)
def wsL_write_r1 : List Cond := [Cond.classLink RL 13 "java/lang/IllegalArgumentException", Cond.methodLink RL 26 yX2_write, Cond.instanceMethod yX2_write, Cond.selects RX2 yX2_write yX2_write, Cond.initialized RX2, Cond.code yX2_write cX2_write 7 (some .int), Cond.fieldLink RX2 11 "DotGossip" "holdings" "[LDotGossip$Holding;", Cond.fieldLink RX2 60 "DotGossip$Holding" "written" "[I", Cond.methodLink RX2 52 yX2_requireReplica, Cond.instanceMethod yX2_requireReplica, Cond.selects RX2 yX2_requireReplica yX2_requireReplica, Cond.code yX2_requireReplica cX2_requireReplica 2 none, Cond.fieldLink RX2 23 "DotGossip" "replicaCount" "I", Cond.methodLink RX2 56 yX2_requireIndex, Cond.static yX2_requireIndex, Cond.code yX2_requireIndex cX2_requireIndex 2 none, Cond.methodLink RX2 27 yX2_require, Cond.static yX2_require, Cond.code yX2_require cX2_require 1 none, Cond.classLink RX2 131 "java/lang/IllegalArgumentException", Cond.initialized "java/lang/IllegalArgumentException", Cond.methodLink RX2 45 yX0_forget, Cond.instanceMethod yX0_forget, Cond.selects RX0 yX0_forget yX0_forget]
def wsL_write_r2 : List Cond := [Cond.initialized RX0, Cond.code yX0_forget cX0_forget 4 (some .int), Cond.fieldLink RX0 15 "DotGossip$Holding" "numbers" "[I", Cond.methodLink RX0 44 yX0_dotsAt, Cond.instanceMethod yX0_dotsAt, Cond.selects RX0 yX0_dotsAt yX0_dotsAt, Cond.code yX0_dotsAt cX0_dotsAt 4 (some .int), Cond.methodLink RX2 49 yX0_makeDot, Cond.instanceMethod yX0_makeDot, Cond.selects RX0 yX0_makeDot yX0_makeDot, Cond.code yX0_makeDot cX0_makeDot 3 (some .int), Cond.fieldLink RX0 9 "DotGossip$Holding" "seen" "[I"]
def wsL_write : List Cond := .codeWith yL_write cL_write 6 (some .int) [(0, 12, 15, 13)] :: ((wsL_write_r1 ++ wsL_write_r2) ++ wsX20 ++ wsX00 ++ (vx_at0 RX2 133 "java/lang/IllegalArgumentException" ["java/lang/RuntimeException", "java/lang/Exception"]).filter goodWord)
def wsL_count_r1 : List Cond := [Cond.classLink RL 13 "java/lang/IllegalArgumentException", Cond.methodLink RL 29 yX2_count, Cond.instanceMethod yX2_count, Cond.selects RX2 yX2_count yX2_count, Cond.initialized RX2, Cond.code yX2_count cX2_count 6 (some .int), Cond.fieldLink RX2 11 "DotGossip" "holdings" "[LDotGossip$Holding;", Cond.fieldLink RX2 64 "DotGossip$Holding" "added" "[J", Cond.fieldLink RX2 68 "DotGossip$Holding" "taken" "[J", Cond.methodLink RX2 52 yX2_requireReplica, Cond.instanceMethod yX2_requireReplica, Cond.selects RX2 yX2_requireReplica yX2_requireReplica, Cond.code yX2_requireReplica cX2_requireReplica 2 none, Cond.fieldLink RX2 23 "DotGossip" "replicaCount" "I", Cond.methodLink RX2 56 yX2_requireIndex, Cond.static yX2_requireIndex, Cond.code yX2_requireIndex cX2_requireIndex 2 none, Cond.methodLink RX2 27 yX2_require, Cond.static yX2_require, Cond.code yX2_require cX2_require 1 none, Cond.classLink RX2 131 "java/lang/IllegalArgumentException", Cond.initialized "java/lang/IllegalArgumentException", Cond.methodLink RX2 71 yX0_worth, Cond.instanceMethod yX0_worth]
def wsL_count_r2 : List Cond := [Cond.selects RX0 yX0_worth yX0_worth, Cond.initialized RX0, Cond.code yX0_worth cX0_worth 6 (some .int), Cond.fieldLink RX0 21 "DotGossip$Holding" "added" "[J", Cond.fieldLink RX0 25 "DotGossip$Holding" "taken" "[J"]
def wsL_count : List Cond := .codeWith yL_count cL_count 6 (some .int) [(0, 12, 15, 13)] :: ((wsL_count_r1 ++ wsL_count_r2) ++ wsX20 ++ wsX00 ++ (vx_at0 RX2 133 "java/lang/IllegalArgumentException" ["java/lang/RuntimeException", "java/lang/Exception"]).filter goodWord)
def wsL_gossip_r1 : List Cond := [Cond.classLink RL 13 "java/lang/IllegalArgumentException", Cond.classLink RL 35 "java/lang/IllegalStateException", Cond.methodLink RL 32 yX2_gossip, Cond.instanceMethod yX2_gossip, Cond.selects RX2 yX2_gossip yX2_gossip, Cond.initialized RX2, Cond.code yX2_gossip cX2_gossip 3 (some .int), Cond.classLink RX2 78 "java/lang/IllegalStateException", Cond.initialized "java/lang/IllegalStateException", Cond.fieldLink RX2 19 "DotGossip" "wire" "Ljava/util/ArrayList;", Cond.classLink RX2 81 RX1, Cond.instantiable RX1 3, Cond.initialized RX1, Cond.fieldLink RX2 11 "DotGossip" "holdings" "[LDotGossip$Holding;", Cond.methodLink RX2 52 yX2_requireReplica, Cond.instanceMethod yX2_requireReplica, Cond.selects RX2 yX2_requireReplica yX2_requireReplica, Cond.code yX2_requireReplica cX2_requireReplica 2 none, Cond.fieldLink RX2 23 "DotGossip" "replicaCount" "I", Cond.methodLink RX2 56 yX2_requireIndex, Cond.static yX2_requireIndex, Cond.code yX2_requireIndex cX2_requireIndex 2 none, Cond.methodLink RX2 27 yX2_require, Cond.static yX2_require]
def wsL_gossip_r2 : List Cond := [Cond.code yX2_require cX2_require 1 none, Cond.classLink RX2 131 "java/lang/IllegalArgumentException", Cond.initialized "java/lang/IllegalArgumentException", Cond.methodLink RX2 74 yJx4a65c_size_8abf5, Cond.instanceMethod yJx4a65c_size_8abf5, Cond.selects RJx4a65c yJx4a65c_size_8abf5 yJx4a65c_size_8abf5, Cond.initialized RJx4a65c, Cond.code yJx4a65c_size_8abf5 cJx4a65c_size_8abf5 1 (some .int), Cond.fieldLink RJx4a65c 48 "java/util/ArrayList" "size" "I", Cond.methodLink RX2 83 yX0_snapshot, Cond.instanceMethod yX0_snapshot, Cond.selects RX0 yX0_snapshot yX0_snapshot, Cond.initialized RX0, Cond.code yX0_snapshot cX0_snapshot 2 (some (.object "DotGossip$Holding")), Cond.classLink RX0 10 RX0, Cond.instantiable RX0 5, Cond.fieldLink RX0 9 "DotGossip$Holding" "seen" "[I", Cond.methodLink RX0 38 arraycopyName, Cond.native arraycopyName, Cond.static arraycopyName, Cond.initialized "java/lang/System", Cond.fieldLink RX0 15 "DotGossip$Holding" "numbers" "[I", Cond.fieldLink RX0 18 "DotGossip$Holding" "written" "[I", Cond.fieldLink RX0 21 "DotGossip$Holding" "added" "[J"]
def wsL_gossip_r3 : List Cond := [Cond.fieldLink RX0 25 "DotGossip$Holding" "taken" "[J", Cond.methodLink RX0 37 yX0_init, Cond.instanceMethod yX0_init, Cond.code yX0_init cX0_init 1 none, Cond.methodLink RX0 3 objectInit, Cond.instanceMethod objectInit, Cond.code objectInit ⟨#[0xb1]⟩ 1 none, Cond.arrayClass .int, Cond.arrayClass .long, Cond.methodLink RX2 87 yX1_init, Cond.instanceMethod yX1_init, Cond.code yX1_init cX1_init 4 none, Cond.methodLink RX1 1 objectInit, Cond.fieldLink RX1 7 "DotGossip$Message" "from" "I", Cond.fieldLink RX1 13 "DotGossip$Message" "to" "I", Cond.fieldLink RX1 16 "DotGossip$Message" "sent" "LDotGossip$Holding;", Cond.methodLink RX2 90 yJx4a65c_add_9ea2d, Cond.instanceMethod yJx4a65c_add_9ea2d, Cond.selects RJx4a65c yJx4a65c_add_9ea2d yJx4a65c_add_9ea2d, Cond.code yJx4a65c_add_9ea2d cJx4a65c_add_9ea2d 2 (some .boolean), Cond.fieldLink RJx4a65c 63 "java/util/ArrayList" "modCount" "I", Cond.sameField "java/util/ArrayList" "java/util/AbstractList" "modCount" "I", Cond.fieldLink RJx4a65c 9 "java/util/ArrayList" "elementData" "[Ljava/lang/Object;", Cond.methodLink RJx4a65c 131 yJx4a65c_add_72be8]
def wsL_gossip_r4 : List Cond := [Cond.instanceMethod yJx4a65c_add_72be8, Cond.selects RJx4a65c yJx4a65c_add_72be8 yJx4a65c_add_72be8, Cond.code yJx4a65c_add_72be8 cJx4a65c_add_72be8 4 none, Cond.methodLink RJx4a65c 129 yJx4a65c_grow_d5877, Cond.instanceMethod yJx4a65c_grow_d5877, Cond.selects RJx4a65c yJx4a65c_grow_d5877 yJx4a65c_grow_d5877, Cond.code yJx4a65c_grow_d5877 cJx4a65c_grow_d5877 1 (some (.array (.object "java/lang/Object"))), Cond.methodLink RJx4a65c 69 yJx4a65c_grow_92f84, Cond.instanceMethod yJx4a65c_grow_92f84, Cond.selects RJx4a65c yJx4a65c_grow_92f84 yJx4a65c_grow_92f84, Cond.code yJx4a65c_grow_92f84 cJx4a65c_grow_92f84 4 (some (.array (.object "java/lang/Object"))), Cond.fieldLink RJx4a65c 39 "java/util/ArrayList" "DEFAULTCAPACITY_EMPTY_ELEMENTDATA" "[Ljava/lang/Object;", Cond.methodLink RJx4a65c 79 Lib.Math.max.name, Cond.static Lib.Math.max.name, Cond.initialized "java/lang/Math", Cond.code Lib.Math.max.name Lib.Math.max.code 2 (some .int), Cond.classLink RJx4a65c 7 "java/lang/Object", Cond.methodLink RJx4a65c 73 yJ8_newLength_cabcc, Cond.static yJ8_newLength_cabcc, Cond.initialized RJ8, Cond.code yJ8_newLength_cabcc cJ8_newLength_cabcc 4 (some .int), Cond.methodLink RJ8 194 Lib.Math.max.name, Cond.constant RJ8 200 (2147483639), Cond.methodLink RJ8 201 yJ8_hugeLength_7cf53]
def wsL_gossip_r5 : List Cond := [Cond.static yJ8_hugeLength_7cf53, Cond.code yJ8_hugeLength_7cf53 cJ8_hugeLength_7cf53 3 (some .int), Cond.methodLink RJx4a65c 66 yJ7_copyOf_1904c, Cond.static yJ7_copyOf_1904c, Cond.initialized RJ7, Cond.code yJ7_copyOf_1904c cJ7_copyOf_1904c 2 (some (.array (.object "java/lang/Object"))), Cond.methodLink RJ7 86 ⟨"java/lang/Object", "getClass", "()Ljava/lang/Class;"⟩, Cond.selects "[Ljava/lang/Object;" ⟨"java/lang/Object", "getClass", "()Ljava/lang/Class;"⟩ ⟨"java/lang/Object", "getClass", "()Ljava/lang/Class;"⟩, Cond.instanceMethod ⟨"java/lang/Object", "getClass", "()Ljava/lang/Class;"⟩, Cond.native ⟨"java/lang/Object", "getClass", "()Ljava/lang/Class;"⟩, Cond.methodLink RJ7 300 yJ7_copyOf_6403c, Cond.static yJ7_copyOf_6403c, Cond.code yJ7_copyOf_6403c cJ7_copyOf_6403c 4 (some (.array (.object "java/lang/Object"))), Cond.classLink RJ7 110 "[Ljava/lang/Object;", Cond.classLink RJ7 2 "java/lang/Object", Cond.methodLink RJ7 304 Lib.Math.min.name, Cond.static Lib.Math.min.name, Cond.code Lib.Math.min.name Lib.Math.min.code 2 (some .int), Cond.methodLink RJ7 150 arraycopyName]
def wsL_gossip : List Cond := .codeWith yL_gossip cL_gossip 5 (some .int) [(0, 10, 13, 13), (0, 10, 17, 35)] :: ((wsL_gossip_r1 ++ (wsL_gossip_r2 ++ (wsL_gossip_r3 ++ (wsL_gossip_r4 ++ wsL_gossip_r5)))) ++ wsX20 ++ wsX10 ++ wsJx4a65c0 ++ wsX00 ++ (vx_at0 RX2 80 "java/lang/IllegalStateException" ["java/lang/RuntimeException", "java/lang/Exception"]).filter goodWord ++ (vx_at0 RX2 133 "java/lang/IllegalArgumentException" ["java/lang/RuntimeException", "java/lang/Exception"]).filter goodWord)
def wsL_deliver_r1 : List Cond := [Cond.classLink RL 13 "java/lang/IllegalArgumentException", Cond.methodLink RL 37 yX2_deliver, Cond.instanceMethod yX2_deliver, Cond.selects RX2 yX2_deliver yX2_deliver, Cond.initialized RX2, Cond.code yX2_deliver cX2_deliver 3 (some .int), Cond.fieldLink RX2 19 "DotGossip" "wire" "Ljava/util/ArrayList;", Cond.classLink RX2 81 "DotGossip$Message", Cond.fieldLink RX2 11 "DotGossip" "holdings" "[LDotGossip$Holding;", Cond.fieldLink RX2 98 "DotGossip$Message" "to" "I", Cond.fieldLink RX2 101 "DotGossip$Message" "sent" "LDotGossip$Holding;", Cond.methodLink RX2 74 yJx4a65c_size_8abf5, Cond.instanceMethod yJx4a65c_size_8abf5, Cond.selects RJx4a65c yJx4a65c_size_8abf5 yJx4a65c_size_8abf5, Cond.initialized RJx4a65c, Cond.code yJx4a65c_size_8abf5 cJx4a65c_size_8abf5 1 (some .int), Cond.fieldLink RJx4a65c 48 "java/util/ArrayList" "size" "I", Cond.methodLink RX2 56 yX2_requireIndex, Cond.static yX2_requireIndex, Cond.code yX2_requireIndex cX2_requireIndex 2 none, Cond.methodLink RX2 27 yX2_require, Cond.static yX2_require, Cond.code yX2_require cX2_require 1 none, Cond.classLink RX2 131 "java/lang/IllegalArgumentException"]
def wsL_deliver_r2 : List Cond := [Cond.initialized "java/lang/IllegalArgumentException", Cond.methodLink RX2 94 yJx4a65c_remove_915e3, Cond.instanceMethod yJx4a65c_remove_915e3, Cond.selects RJx4a65c yJx4a65c_remove_915e3 yJx4a65c_remove_915e3, Cond.code yJx4a65c_remove_915e3 cJx4a65c_remove_915e3 4 (some (.object "java/lang/Object")), Cond.fieldLink RJx4a65c 9 "java/util/ArrayList" "elementData" "[Ljava/lang/Object;", Cond.methodLink RJx4a65c 118 yJ15_checkIndex_7cf53, Cond.static yJ15_checkIndex_7cf53, Cond.initialized RJ15, Cond.code yJ15_checkIndex_7cf53 cJ15_checkIndex_7cf53 2 (some .int), Cond.methodLink RJ15 105 yJ3_checkIndex_8e157, Cond.static yJ3_checkIndex_8e157, Cond.initialized RJ3, Cond.code yJ3_checkIndex_8e157 cJ3_checkIndex_8e157 3 (some .int), Cond.methodLink RJx4a65c 144 yJx4a65c_fastRemove_b59b0, Cond.instanceMethod yJx4a65c_fastRemove_b59b0, Cond.selects RJx4a65c yJx4a65c_fastRemove_b59b0 yJx4a65c_fastRemove_b59b0, Cond.code yJx4a65c_fastRemove_b59b0 cJx4a65c_fastRemove_b59b0 4 none, Cond.fieldLink RJx4a65c 63 "java/util/ArrayList" "modCount" "I", Cond.sameField "java/util/ArrayList" "java/util/AbstractList" "modCount" "I", Cond.methodLink RJx4a65c 112 arraycopyName, Cond.native arraycopyName, Cond.static arraycopyName, Cond.initialized "java/lang/System"]
def wsL_deliver_r3 : List Cond := [Cond.methodLink RX2 105 yX0_merge, Cond.instanceMethod yX0_merge, Cond.selects RX0 yX0_merge yX0_merge, Cond.initialized RX0, Cond.code yX0_merge cX0_merge 5 (some .int), Cond.fieldLink RX0 9 "DotGossip$Holding" "seen" "[I", Cond.methodLink RX0 52 Lib.Math.max.name, Cond.static Lib.Math.max.name, Cond.initialized "java/lang/Math", Cond.code Lib.Math.max.name Lib.Math.max.code 2 (some .int), Cond.fieldLink RX0 21 "DotGossip$Holding" "added" "[J", Cond.methodLink RX0 58 Lib.MathLoose.max_long.x, Cond.static Lib.MathLoose.max_long.x, Cond.code Lib.MathLoose.max_long.x Lib.MathLoose.max_long.code 4 (some .long), Cond.fieldLink RX0 25 "DotGossip$Holding" "taken" "[J", Cond.methodLink RX0 48 yX0_mergeDot, Cond.instanceMethod yX0_mergeDot, Cond.selects RX0 yX0_mergeDot yX0_mergeDot, Cond.code yX0_mergeDot cX0_mergeDot 7 (some .boolean), Cond.fieldLink RX0 15 "DotGossip$Holding" "numbers" "[I", Cond.fieldLink RX0 18 "DotGossip$Holding" "written" "[I"]
def wsL_deliver : List Cond := .codeWith yL_deliver cL_deliver 4 (some .int) [(0, 9, 12, 13)] :: ((wsL_deliver_r1 ++ (wsL_deliver_r2 ++ wsL_deliver_r3)) ++ wsX20 ++ wsX10 ++ wsJx4a65c0 ++ wsX00 ++ (vx_at0 RX2 133 "java/lang/IllegalArgumentException" ["java/lang/RuntimeException", "java/lang/Exception"]).filter goodWord)
def wsL_drop_r1 : List Cond := [Cond.classLink RL 13 "java/lang/IllegalArgumentException", Cond.methodLink RL 41 yX2_drop, Cond.instanceMethod yX2_drop, Cond.selects RX2 yX2_drop yX2_drop, Cond.initialized RX2, Cond.code yX2_drop cX2_drop 2 (some .int), Cond.fieldLink RX2 19 "DotGossip" "wire" "Ljava/util/ArrayList;", Cond.classLink RX2 81 "DotGossip$Message", Cond.fieldLink RX2 98 "DotGossip$Message" "to" "I", Cond.methodLink RX2 74 yJx4a65c_size_8abf5, Cond.instanceMethod yJx4a65c_size_8abf5, Cond.selects RJx4a65c yJx4a65c_size_8abf5 yJx4a65c_size_8abf5, Cond.initialized RJx4a65c, Cond.code yJx4a65c_size_8abf5 cJx4a65c_size_8abf5 1 (some .int), Cond.fieldLink RJx4a65c 48 "java/util/ArrayList" "size" "I", Cond.methodLink RX2 56 yX2_requireIndex, Cond.static yX2_requireIndex, Cond.code yX2_requireIndex cX2_requireIndex 2 none, Cond.methodLink RX2 27 yX2_require, Cond.static yX2_require, Cond.code yX2_require cX2_require 1 none, Cond.classLink RX2 131 "java/lang/IllegalArgumentException", Cond.initialized "java/lang/IllegalArgumentException", Cond.methodLink RX2 94 yJx4a65c_remove_915e3]
def wsL_drop_r2 : List Cond := [Cond.instanceMethod yJx4a65c_remove_915e3, Cond.selects RJx4a65c yJx4a65c_remove_915e3 yJx4a65c_remove_915e3, Cond.code yJx4a65c_remove_915e3 cJx4a65c_remove_915e3 4 (some (.object "java/lang/Object")), Cond.fieldLink RJx4a65c 9 "java/util/ArrayList" "elementData" "[Ljava/lang/Object;", Cond.methodLink RJx4a65c 118 yJ15_checkIndex_7cf53, Cond.static yJ15_checkIndex_7cf53, Cond.initialized RJ15, Cond.code yJ15_checkIndex_7cf53 cJ15_checkIndex_7cf53 2 (some .int), Cond.methodLink RJ15 105 yJ3_checkIndex_8e157, Cond.static yJ3_checkIndex_8e157, Cond.initialized RJ3, Cond.code yJ3_checkIndex_8e157 cJ3_checkIndex_8e157 3 (some .int), Cond.methodLink RJx4a65c 144 yJx4a65c_fastRemove_b59b0, Cond.instanceMethod yJx4a65c_fastRemove_b59b0, Cond.selects RJx4a65c yJx4a65c_fastRemove_b59b0 yJx4a65c_fastRemove_b59b0, Cond.code yJx4a65c_fastRemove_b59b0 cJx4a65c_fastRemove_b59b0 4 none, Cond.fieldLink RJx4a65c 63 "java/util/ArrayList" "modCount" "I", Cond.sameField "java/util/ArrayList" "java/util/AbstractList" "modCount" "I", Cond.methodLink RJx4a65c 112 arraycopyName, Cond.native arraycopyName, Cond.static arraycopyName, Cond.initialized "java/lang/System"]
def wsL_drop : List Cond := .codeWith yL_drop cL_drop 4 (some .int) [(0, 9, 12, 13)] :: ((wsL_drop_r1 ++ wsL_drop_r2) ++ wsX20 ++ wsX10 ++ wsJx4a65c0 ++ (vx_at0 RX2 133 "java/lang/IllegalArgumentException" ["java/lang/RuntimeException", "java/lang/Exception"]).filter goodWord)
def wsL_copy_r1 : List Cond := [Cond.classLink RL 13 "java/lang/IllegalArgumentException", Cond.methodLink RL 44 yX2_copy, Cond.instanceMethod yX2_copy, Cond.selects RX2 yX2_copy yX2_copy, Cond.initialized RX2, Cond.code yX2_copy cX2_copy 3 (some .boolean), Cond.fieldLink RX2 19 "DotGossip" "wire" "Ljava/util/ArrayList;", Cond.classLink RX2 81 "DotGossip$Message", Cond.classLink RX2 81 RX1, Cond.instantiable RX1 3, Cond.initialized RX1, Cond.fieldLink RX2 112 "DotGossip$Message" "from" "I", Cond.fieldLink RX2 98 "DotGossip$Message" "to" "I", Cond.fieldLink RX2 101 "DotGossip$Message" "sent" "LDotGossip$Holding;", Cond.methodLink RX2 74 yJx4a65c_size_8abf5, Cond.instanceMethod yJx4a65c_size_8abf5, Cond.selects RJx4a65c yJx4a65c_size_8abf5 yJx4a65c_size_8abf5, Cond.initialized RJx4a65c, Cond.code yJx4a65c_size_8abf5 cJx4a65c_size_8abf5 1 (some .int), Cond.fieldLink RJx4a65c 48 "java/util/ArrayList" "size" "I", Cond.methodLink RX2 56 yX2_requireIndex, Cond.static yX2_requireIndex, Cond.code yX2_requireIndex cX2_requireIndex 2 none, Cond.methodLink RX2 27 yX2_require]
def wsL_copy_r2 : List Cond := [Cond.static yX2_require, Cond.code yX2_require cX2_require 1 none, Cond.classLink RX2 131 "java/lang/IllegalArgumentException", Cond.initialized "java/lang/IllegalArgumentException", Cond.methodLink RX2 109 yJx4a65c_get_915e3, Cond.instanceMethod yJx4a65c_get_915e3, Cond.selects RJx4a65c yJx4a65c_get_915e3 yJx4a65c_get_915e3, Cond.code yJx4a65c_get_915e3 cJx4a65c_get_915e3 2 (some (.object "java/lang/Object")), Cond.methodLink RJx4a65c 118 yJ15_checkIndex_7cf53, Cond.static yJ15_checkIndex_7cf53, Cond.initialized RJ15, Cond.code yJ15_checkIndex_7cf53 cJ15_checkIndex_7cf53 2 (some .int), Cond.methodLink RJ15 105 yJ3_checkIndex_8e157, Cond.static yJ3_checkIndex_8e157, Cond.initialized RJ3, Cond.code yJ3_checkIndex_8e157 cJ3_checkIndex_8e157 3 (some .int), Cond.methodLink RJx4a65c 123 yJx4a65c_elementData_915e3, Cond.instanceMethod yJx4a65c_elementData_915e3, Cond.selects RJx4a65c yJx4a65c_elementData_915e3 yJx4a65c_elementData_915e3, Cond.code yJx4a65c_elementData_915e3 cJx4a65c_elementData_915e3 2 (some (.object "java/lang/Object")), Cond.fieldLink RJx4a65c 9 "java/util/ArrayList" "elementData" "[Ljava/lang/Object;", Cond.methodLink RX2 87 yX1_init, Cond.instanceMethod yX1_init, Cond.code yX1_init cX1_init 4 none]
def wsL_copy_r3 : List Cond := [Cond.methodLink RX1 1 objectInit, Cond.instanceMethod objectInit, Cond.code objectInit ⟨#[0xb1]⟩ 1 none, Cond.fieldLink RX1 7 "DotGossip$Message" "from" "I", Cond.fieldLink RX1 13 "DotGossip$Message" "to" "I", Cond.fieldLink RX1 16 "DotGossip$Message" "sent" "LDotGossip$Holding;", Cond.methodLink RX2 90 yJx4a65c_add_9ea2d, Cond.instanceMethod yJx4a65c_add_9ea2d, Cond.selects RJx4a65c yJx4a65c_add_9ea2d yJx4a65c_add_9ea2d, Cond.code yJx4a65c_add_9ea2d cJx4a65c_add_9ea2d 2 (some .boolean), Cond.fieldLink RJx4a65c 63 "java/util/ArrayList" "modCount" "I", Cond.sameField "java/util/ArrayList" "java/util/AbstractList" "modCount" "I", Cond.methodLink RJx4a65c 131 yJx4a65c_add_72be8, Cond.instanceMethod yJx4a65c_add_72be8, Cond.selects RJx4a65c yJx4a65c_add_72be8 yJx4a65c_add_72be8, Cond.code yJx4a65c_add_72be8 cJx4a65c_add_72be8 4 none, Cond.methodLink RJx4a65c 129 yJx4a65c_grow_d5877, Cond.instanceMethod yJx4a65c_grow_d5877, Cond.selects RJx4a65c yJx4a65c_grow_d5877 yJx4a65c_grow_d5877, Cond.code yJx4a65c_grow_d5877 cJx4a65c_grow_d5877 1 (some (.array (.object "java/lang/Object"))), Cond.methodLink RJx4a65c 69 yJx4a65c_grow_92f84, Cond.instanceMethod yJx4a65c_grow_92f84, Cond.selects RJx4a65c yJx4a65c_grow_92f84 yJx4a65c_grow_92f84, Cond.code yJx4a65c_grow_92f84 cJx4a65c_grow_92f84 4 (some (.array (.object "java/lang/Object")))]
def wsL_copy_r4 : List Cond := [Cond.fieldLink RJx4a65c 39 "java/util/ArrayList" "DEFAULTCAPACITY_EMPTY_ELEMENTDATA" "[Ljava/lang/Object;", Cond.methodLink RJx4a65c 79 Lib.Math.max.name, Cond.static Lib.Math.max.name, Cond.initialized "java/lang/Math", Cond.code Lib.Math.max.name Lib.Math.max.code 2 (some .int), Cond.classLink RJx4a65c 7 "java/lang/Object", Cond.methodLink RJx4a65c 73 yJ8_newLength_cabcc, Cond.static yJ8_newLength_cabcc, Cond.initialized RJ8, Cond.code yJ8_newLength_cabcc cJ8_newLength_cabcc 4 (some .int), Cond.methodLink RJ8 194 Lib.Math.max.name, Cond.constant RJ8 200 (2147483639), Cond.methodLink RJ8 201 yJ8_hugeLength_7cf53, Cond.static yJ8_hugeLength_7cf53, Cond.code yJ8_hugeLength_7cf53 cJ8_hugeLength_7cf53 3 (some .int), Cond.methodLink RJx4a65c 66 yJ7_copyOf_1904c, Cond.static yJ7_copyOf_1904c, Cond.initialized RJ7, Cond.code yJ7_copyOf_1904c cJ7_copyOf_1904c 2 (some (.array (.object "java/lang/Object"))), Cond.methodLink RJ7 86 ⟨"java/lang/Object", "getClass", "()Ljava/lang/Class;"⟩, Cond.selects "[Ljava/lang/Object;" ⟨"java/lang/Object", "getClass", "()Ljava/lang/Class;"⟩ ⟨"java/lang/Object", "getClass", "()Ljava/lang/Class;"⟩, Cond.instanceMethod ⟨"java/lang/Object", "getClass", "()Ljava/lang/Class;"⟩, Cond.native ⟨"java/lang/Object", "getClass", "()Ljava/lang/Class;"⟩, Cond.methodLink RJ7 300 yJ7_copyOf_6403c]
def wsL_copy_r5 : List Cond := [Cond.static yJ7_copyOf_6403c, Cond.code yJ7_copyOf_6403c cJ7_copyOf_6403c 4 (some (.array (.object "java/lang/Object"))), Cond.classLink RJ7 110 "[Ljava/lang/Object;", Cond.classLink RJ7 2 "java/lang/Object", Cond.methodLink RJ7 304 Lib.Math.min.name, Cond.static Lib.Math.min.name, Cond.code Lib.Math.min.name Lib.Math.min.code 2 (some .int), Cond.methodLink RJ7 150 arraycopyName, Cond.native arraycopyName, Cond.static arraycopyName, Cond.initialized "java/lang/System"]
def wsL_copy : List Cond := .codeWith yL_copy cL_copy 4 (some .int) [(0, 16, 19, 13)] :: ((wsL_copy_r1 ++ (wsL_copy_r2 ++ (wsL_copy_r3 ++ (wsL_copy_r4 ++ wsL_copy_r5)))) ++ wsX20 ++ wsX10 ++ wsJx4a65c0 ++ (vx_at0 RX2 133 "java/lang/IllegalArgumentException" ["java/lang/RuntimeException", "java/lang/Exception"]).filter goodWord)
def wsL_turn_r1 : List Cond := [Cond.classLink RL 13 "java/lang/IllegalArgumentException", Cond.methodLink RL 48 yX2_turn, Cond.instanceMethod yX2_turn, Cond.selects RX2 yX2_turn yX2_turn, Cond.initialized RX2, Cond.code yX2_turn cX2_turn 3 none, Cond.fieldLink RX2 19 "DotGossip" "wire" "Ljava/util/ArrayList;", Cond.classLink RX2 81 "DotGossip$Message", Cond.fieldLink RX2 98 "DotGossip$Message" "to" "I", Cond.methodLink RX2 74 yJx4a65c_size_8abf5, Cond.instanceMethod yJx4a65c_size_8abf5, Cond.selects RJx4a65c yJx4a65c_size_8abf5 yJx4a65c_size_8abf5, Cond.initialized RJx4a65c, Cond.code yJx4a65c_size_8abf5 cJx4a65c_size_8abf5 1 (some .int), Cond.fieldLink RJx4a65c 48 "java/util/ArrayList" "size" "I", Cond.methodLink RX2 56 yX2_requireIndex, Cond.static yX2_requireIndex, Cond.code yX2_requireIndex cX2_requireIndex 2 none, Cond.methodLink RX2 27 yX2_require, Cond.static yX2_require, Cond.code yX2_require cX2_require 1 none, Cond.classLink RX2 131 "java/lang/IllegalArgumentException", Cond.initialized "java/lang/IllegalArgumentException", Cond.methodLink RX2 52 yX2_requireReplica]
def wsL_turn_r2 : List Cond := [Cond.instanceMethod yX2_requireReplica, Cond.selects RX2 yX2_requireReplica yX2_requireReplica, Cond.code yX2_requireReplica cX2_requireReplica 2 none, Cond.fieldLink RX2 23 "DotGossip" "replicaCount" "I", Cond.methodLink RX2 109 yJx4a65c_get_915e3, Cond.instanceMethod yJx4a65c_get_915e3, Cond.selects RJx4a65c yJx4a65c_get_915e3 yJx4a65c_get_915e3, Cond.code yJx4a65c_get_915e3 cJx4a65c_get_915e3 2 (some (.object "java/lang/Object")), Cond.methodLink RJx4a65c 118 yJ15_checkIndex_7cf53, Cond.static yJ15_checkIndex_7cf53, Cond.initialized RJ15, Cond.code yJ15_checkIndex_7cf53 cJ15_checkIndex_7cf53 2 (some .int), Cond.methodLink RJ15 105 yJ3_checkIndex_8e157, Cond.static yJ3_checkIndex_8e157, Cond.initialized RJ3, Cond.code yJ3_checkIndex_8e157 cJ3_checkIndex_8e157 3 (some .int), Cond.methodLink RJx4a65c 123 yJx4a65c_elementData_915e3, Cond.instanceMethod yJx4a65c_elementData_915e3, Cond.selects RJx4a65c yJx4a65c_elementData_915e3 yJx4a65c_elementData_915e3, Cond.code yJx4a65c_elementData_915e3 cJx4a65c_elementData_915e3 2 (some (.object "java/lang/Object")), Cond.fieldLink RJx4a65c 9 "java/util/ArrayList" "elementData" "[Ljava/lang/Object;"]
def wsL_turn : List Cond := .codeWith yL_turn cL_turn 4 (some .int) [(0, 6, 9, 13)] :: ((wsL_turn_r1 ++ wsL_turn_r2) ++ wsX20 ++ wsX10 ++ wsJx4a65c0 ++ (vx_at0 RX2 133 "java/lang/IllegalArgumentException" ["java/lang/RuntimeException", "java/lang/Exception"]).filter goodWord)
def wsL_contains_r1 : List Cond := [Cond.classLink RL 13 "java/lang/IllegalArgumentException", Cond.methodLink RL 52 yX2_contains, Cond.instanceMethod yX2_contains, Cond.selects RX2 yX2_contains yX2_contains, Cond.initialized RX2, Cond.code yX2_contains cX2_contains 4 (some .boolean), Cond.fieldLink RX2 11 "DotGossip" "holdings" "[LDotGossip$Holding;", Cond.methodLink RX2 37 yX2_requireElement, Cond.instanceMethod yX2_requireElement, Cond.selects RX2 yX2_requireElement yX2_requireElement, Cond.code yX2_requireElement cX2_requireElement 4 none, Cond.methodLink RX2 52 yX2_requireReplica, Cond.instanceMethod yX2_requireReplica, Cond.selects RX2 yX2_requireReplica yX2_requireReplica, Cond.code yX2_requireReplica cX2_requireReplica 2 none, Cond.fieldLink RX2 23 "DotGossip" "replicaCount" "I", Cond.methodLink RX2 56 yX2_requireIndex, Cond.static yX2_requireIndex, Cond.code yX2_requireIndex cX2_requireIndex 2 none, Cond.methodLink RX2 27 yX2_require, Cond.static yX2_require, Cond.code yX2_require cX2_require 1 none, Cond.classLink RX2 131 "java/lang/IllegalArgumentException", Cond.initialized "java/lang/IllegalArgumentException"]
def wsL_contains_r2 : List Cond := [Cond.methodLink RX2 41 yX2_placeOfElement, Cond.static yX2_placeOfElement, Cond.code yX2_placeOfElement cX2_placeOfElement 2 (some .int), Cond.methodLink RX2 115 yX0_dotsAt, Cond.instanceMethod yX0_dotsAt, Cond.selects RX0 yX0_dotsAt yX0_dotsAt, Cond.initialized RX0, Cond.code yX0_dotsAt cX0_dotsAt 4 (some .int), Cond.fieldLink RX0 15 "DotGossip$Holding" "numbers" "[I"]
def wsL_contains : List Cond := .codeWith yL_contains cL_contains 6 (some .int) [(0, 19, 22, 13)] :: ((wsL_contains_r1 ++ wsL_contains_r2) ++ wsX20 ++ wsX00 ++ (vx_at0 RX2 133 "java/lang/IllegalArgumentException" ["java/lang/RuntimeException", "java/lang/Exception"]).filter goodWord)
def wsL_size_r1 : List Cond := [Cond.classLink RL 13 "java/lang/IllegalArgumentException", Cond.methodLink RL 56 yX2_size, Cond.instanceMethod yX2_size, Cond.selects RX2 yX2_size yX2_size, Cond.initialized RX2, Cond.code yX2_size cX2_size 5 (some .int), Cond.fieldLink RX2 11 "DotGossip" "holdings" "[LDotGossip$Holding;", Cond.methodLink RX2 52 yX2_requireReplica, Cond.instanceMethod yX2_requireReplica, Cond.selects RX2 yX2_requireReplica yX2_requireReplica, Cond.code yX2_requireReplica cX2_requireReplica 2 none, Cond.fieldLink RX2 23 "DotGossip" "replicaCount" "I", Cond.methodLink RX2 56 yX2_requireIndex, Cond.static yX2_requireIndex, Cond.code yX2_requireIndex cX2_requireIndex 2 none, Cond.methodLink RX2 27 yX2_require, Cond.static yX2_require, Cond.code yX2_require cX2_require 1 none, Cond.classLink RX2 131 "java/lang/IllegalArgumentException", Cond.initialized "java/lang/IllegalArgumentException", Cond.methodLink RX2 41 yX2_placeOfElement, Cond.static yX2_placeOfElement, Cond.code yX2_placeOfElement cX2_placeOfElement 2 (some .int), Cond.methodLink RX2 115 yX0_dotsAt]
def wsL_size_r2 : List Cond := [Cond.instanceMethod yX0_dotsAt, Cond.selects RX0 yX0_dotsAt yX0_dotsAt, Cond.initialized RX0, Cond.code yX0_dotsAt cX0_dotsAt 4 (some .int), Cond.fieldLink RX0 15 "DotGossip$Holding" "numbers" "[I"]
def wsL_size : List Cond := .codeWith yL_size cL_size 5 (some .int) [(0, 10, 13, 13)] :: ((wsL_size_r1 ++ wsL_size_r2) ++ wsX20 ++ wsX00 ++ (vx_at0 RX2 133 "java/lang/IllegalArgumentException" ["java/lang/RuntimeException", "java/lang/Exception"]).filter goodWord)
def wsL_dot_r1 : List Cond := [Cond.classLink RL 13 "java/lang/IllegalArgumentException", Cond.methodLink RL 59 yX2_dot, Cond.instanceMethod yX2_dot, Cond.selects RX2 yX2_dot yX2_dot, Cond.initialized RX2, Cond.code yX2_dot cX2_dot 9 (some .int), Cond.fieldLink RX2 11 "DotGossip" "holdings" "[LDotGossip$Holding;", Cond.methodLink RX2 37 yX2_requireElement, Cond.instanceMethod yX2_requireElement, Cond.selects RX2 yX2_requireElement yX2_requireElement, Cond.code yX2_requireElement cX2_requireElement 4 none, Cond.methodLink RX2 52 yX2_requireReplica, Cond.instanceMethod yX2_requireReplica, Cond.selects RX2 yX2_requireReplica yX2_requireReplica, Cond.code yX2_requireReplica cX2_requireReplica 2 none, Cond.fieldLink RX2 23 "DotGossip" "replicaCount" "I", Cond.methodLink RX2 56 yX2_requireIndex, Cond.static yX2_requireIndex, Cond.code yX2_requireIndex cX2_requireIndex 2 none, Cond.methodLink RX2 27 yX2_require, Cond.static yX2_require, Cond.code yX2_require cX2_require 1 none, Cond.classLink RX2 131 "java/lang/IllegalArgumentException", Cond.initialized "java/lang/IllegalArgumentException"]
def wsL_dot_r2 : List Cond := [Cond.methodLink RX2 41 yX2_placeOfElement, Cond.static yX2_placeOfElement, Cond.code yX2_placeOfElement cX2_placeOfElement 2 (some .int), Cond.methodLink RX2 118 yX0_makerOf, Cond.instanceMethod yX0_makerOf, Cond.selects RX0 yX0_makerOf yX0_makerOf, Cond.initialized RX0, Cond.code yX0_makerOf cX0_makerOf 5 (some .int), Cond.fieldLink RX0 15 "DotGossip$Holding" "numbers" "[I", Cond.methodLink RX2 121 yX0_numberBy, Cond.instanceMethod yX0_numberBy, Cond.selects RX0 yX0_numberBy yX0_numberBy, Cond.code yX0_numberBy cX0_numberBy 3 (some .int)]
def wsL_dot : List Cond := .codeWith yL_dot cL_dot 8 (some .int) [(0, 16, 19, 13)] :: ((wsL_dot_r1 ++ wsL_dot_r2) ++ wsX20 ++ wsX00 ++ (vx_at0 RX2 133 "java/lang/IllegalArgumentException" ["java/lang/RuntimeException", "java/lang/Exception"]).filter goodWord)
def wsL_value_r1 : List Cond := [Cond.classLink RL 13 "java/lang/IllegalArgumentException", Cond.methodLink RL 63 yX2_value, Cond.instanceMethod yX2_value, Cond.selects RX2 yX2_value yX2_value, Cond.initialized RX2, Cond.code yX2_value cX2_value 8 (some .int), Cond.fieldLink RX2 11 "DotGossip" "holdings" "[LDotGossip$Holding;", Cond.fieldLink RX2 60 "DotGossip$Holding" "written" "[I", Cond.methodLink RX2 52 yX2_requireReplica, Cond.instanceMethod yX2_requireReplica, Cond.selects RX2 yX2_requireReplica yX2_requireReplica, Cond.code yX2_requireReplica cX2_requireReplica 2 none, Cond.fieldLink RX2 23 "DotGossip" "replicaCount" "I", Cond.methodLink RX2 56 yX2_requireIndex, Cond.static yX2_requireIndex, Cond.code yX2_requireIndex cX2_requireIndex 2 none, Cond.methodLink RX2 27 yX2_require, Cond.static yX2_require, Cond.code yX2_require cX2_require 1 none, Cond.classLink RX2 131 "java/lang/IllegalArgumentException", Cond.initialized "java/lang/IllegalArgumentException", Cond.methodLink RX2 118 yX0_makerOf, Cond.instanceMethod yX0_makerOf, Cond.selects RX0 yX0_makerOf yX0_makerOf]
def wsL_value_r2 : List Cond := [Cond.initialized RX0, Cond.code yX0_makerOf cX0_makerOf 5 (some .int), Cond.fieldLink RX0 15 "DotGossip$Holding" "numbers" "[I", Cond.methodLink RX2 121 yX0_numberBy, Cond.instanceMethod yX0_numberBy, Cond.selects RX0 yX0_numberBy yX0_numberBy, Cond.code yX0_numberBy cX0_numberBy 3 (some .int)]
def wsL_value : List Cond := .codeWith yL_value cL_value 7 (some .int) [(0, 14, 17, 13)] :: ((wsL_value_r1 ++ wsL_value_r2) ++ wsX20 ++ wsX00 ++ (vx_at0 RX2 133 "java/lang/IllegalArgumentException" ["java/lang/RuntimeException", "java/lang/Exception"]).filter goodWord)
def wsL_values_r1 : List Cond := [Cond.classLink RL 13 "java/lang/IllegalArgumentException", Cond.methodLink RL 67 yX2_values, Cond.instanceMethod yX2_values, Cond.selects RX2 yX2_values yX2_values, Cond.initialized RX2, Cond.code yX2_values cX2_values 3 (some .int), Cond.fieldLink RX2 11 "DotGossip" "holdings" "[LDotGossip$Holding;", Cond.methodLink RX2 52 yX2_requireReplica, Cond.instanceMethod yX2_requireReplica, Cond.selects RX2 yX2_requireReplica yX2_requireReplica, Cond.code yX2_requireReplica cX2_requireReplica 2 none, Cond.fieldLink RX2 23 "DotGossip" "replicaCount" "I", Cond.methodLink RX2 56 yX2_requireIndex, Cond.static yX2_requireIndex, Cond.code yX2_requireIndex cX2_requireIndex 2 none, Cond.methodLink RX2 27 yX2_require, Cond.static yX2_require, Cond.code yX2_require cX2_require 1 none, Cond.classLink RX2 131 "java/lang/IllegalArgumentException", Cond.initialized "java/lang/IllegalArgumentException", Cond.methodLink RX2 115 yX0_dotsAt, Cond.instanceMethod yX0_dotsAt, Cond.selects RX0 yX0_dotsAt yX0_dotsAt, Cond.initialized RX0]
def wsL_values_r2 : List Cond := [Cond.code yX0_dotsAt cX0_dotsAt 4 (some .int), Cond.fieldLink RX0 15 "DotGossip$Holding" "numbers" "[I"]
def wsL_values : List Cond := .codeWith yL_values cL_values 5 (some .int) [(0, 10, 13, 13)] :: ((wsL_values_r1 ++ wsL_values_r2) ++ wsX20 ++ wsX00 ++ (vx_at0 RX2 133 "java/lang/IllegalArgumentException" ["java/lang/RuntimeException", "java/lang/Exception"]).filter goodWord)
def wsL_total_r1 : List Cond := [Cond.classLink RL 13 "java/lang/IllegalArgumentException", Cond.methodLink RL 70 yX2_total, Cond.instanceMethod yX2_total, Cond.selects RX2 yX2_total yX2_total, Cond.initialized RX2, Cond.code yX2_total cX2_total 3 (some .int), Cond.fieldLink RX2 11 "DotGossip" "holdings" "[LDotGossip$Holding;", Cond.methodLink RX2 52 yX2_requireReplica, Cond.instanceMethod yX2_requireReplica, Cond.selects RX2 yX2_requireReplica yX2_requireReplica, Cond.code yX2_requireReplica cX2_requireReplica 2 none, Cond.fieldLink RX2 23 "DotGossip" "replicaCount" "I", Cond.methodLink RX2 56 yX2_requireIndex, Cond.static yX2_requireIndex, Cond.code yX2_requireIndex cX2_requireIndex 2 none, Cond.methodLink RX2 27 yX2_require, Cond.static yX2_require, Cond.code yX2_require cX2_require 1 none, Cond.classLink RX2 131 "java/lang/IllegalArgumentException", Cond.initialized "java/lang/IllegalArgumentException", Cond.methodLink RX2 71 yX0_worth, Cond.instanceMethod yX0_worth, Cond.selects RX0 yX0_worth yX0_worth, Cond.initialized RX0]
def wsL_total_r2 : List Cond := [Cond.code yX0_worth cX0_worth 6 (some .int), Cond.fieldLink RX0 21 "DotGossip$Holding" "added" "[J", Cond.fieldLink RX0 25 "DotGossip$Holding" "taken" "[J"]
def wsL_total : List Cond := .codeWith yL_total cL_total 5 (some .int) [(0, 10, 13, 13)] :: ((wsL_total_r1 ++ wsL_total_r2) ++ wsX20 ++ wsX00 ++ (vx_at0 RX2 133 "java/lang/IllegalArgumentException" ["java/lang/RuntimeException", "java/lang/Exception"]).filter goodWord)
def wsL_vector : List Cond := .codeWith yL_vector cL_vector 5 (some .int) [(0, 10, 13, 13)] :: ([.classLink RL 13 "java/lang/IllegalArgumentException", .methodLink RL 73 yX2_vector, .instanceMethod yX2_vector, .selects RX2 yX2_vector yX2_vector, .initialized RX2, .code yX2_vector cX2_vector 3 (some .int), .fieldLink RX2 11 "DotGossip" "holdings" "[LDotGossip$Holding;", .fieldLink RX2 124 "DotGossip$Holding" "seen" "[I", .methodLink RX2 52 yX2_requireReplica, .instanceMethod yX2_requireReplica, .selects RX2 yX2_requireReplica yX2_requireReplica, .code yX2_requireReplica cX2_requireReplica 2 none, .fieldLink RX2 23 "DotGossip" "replicaCount" "I", .methodLink RX2 56 yX2_requireIndex, .static yX2_requireIndex, .code yX2_requireIndex cX2_requireIndex 2 none, .methodLink RX2 27 yX2_require, .static yX2_require, .code yX2_require cX2_require 1 none, .classLink RX2 131 "java/lang/IllegalArgumentException", .initialized "java/lang/IllegalArgumentException"] ++ wsX20 ++ wsX00 ++ (vx_at0 RX2 133 "java/lang/IllegalArgumentException" ["java/lang/RuntimeException", "java/lang/Exception"]).filter goodWord)
def wsL_same_r1 : List Cond := [Cond.classLink RL 13 "java/lang/IllegalArgumentException", Cond.methodLink RL 76 yX2_same, Cond.instanceMethod yX2_same, Cond.selects RX2 yX2_same yX2_same, Cond.initialized RX2, Cond.code yX2_same cX2_same 3 (some .boolean), Cond.fieldLink RX2 11 "DotGossip" "holdings" "[LDotGossip$Holding;", Cond.methodLink RX2 52 yX2_requireReplica, Cond.instanceMethod yX2_requireReplica, Cond.selects RX2 yX2_requireReplica yX2_requireReplica, Cond.code yX2_requireReplica cX2_requireReplica 2 none, Cond.fieldLink RX2 23 "DotGossip" "replicaCount" "I", Cond.methodLink RX2 56 yX2_requireIndex, Cond.static yX2_requireIndex, Cond.code yX2_requireIndex cX2_requireIndex 2 none, Cond.methodLink RX2 27 yX2_require, Cond.static yX2_require, Cond.code yX2_require cX2_require 1 none, Cond.classLink RX2 131 "java/lang/IllegalArgumentException", Cond.initialized "java/lang/IllegalArgumentException", Cond.methodLink RX2 127 yX0_matches, Cond.instanceMethod yX0_matches, Cond.selects RX0 yX0_matches yX0_matches, Cond.initialized RX0]
def wsL_same_r2 : List Cond := [Cond.code yX0_matches cX0_matches 2 (some .boolean), Cond.fieldLink RX0 9 "DotGossip$Holding" "seen" "[I", Cond.fieldLink RX0 15 "DotGossip$Holding" "numbers" "[I", Cond.fieldLink RX0 21 "DotGossip$Holding" "added" "[J", Cond.fieldLink RX0 25 "DotGossip$Holding" "taken" "[J", Cond.methodLink RX0 61 yX0_equalInts, Cond.static yX0_equalInts, Cond.code yX0_equalInts cX0_equalInts 3 (some .boolean), Cond.methodLink RX0 65 yX0_equalLongs, Cond.static yX0_equalLongs, Cond.code yX0_equalLongs cX0_equalLongs 3 (some .boolean)]
def wsL_same : List Cond := .codeWith yL_same cL_same 5 (some .int) [(0, 17, 20, 13)] :: ((wsL_same_r1 ++ wsL_same_r2) ++ wsX20 ++ wsX00 ++ (vx_at0 RX2 133 "java/lang/IllegalArgumentException" ["java/lang/RuntimeException", "java/lang/Exception"]).filter goodWord)
def wsL_message_r1 : List Cond := [Cond.classLink RL 13 "java/lang/IllegalArgumentException", Cond.methodLink RL 80 yX2_message, Cond.instanceMethod yX2_message, Cond.selects RX2 yX2_message yX2_message, Cond.initialized RX2, Cond.code yX2_message cX2_message 4 (some .int), Cond.fieldLink RX2 23 "DotGossip" "replicaCount" "I", Cond.fieldLink RX2 19 "DotGossip" "wire" "Ljava/util/ArrayList;", Cond.classLink RX2 81 "DotGossip$Message", Cond.fieldLink RX2 112 "DotGossip$Message" "from" "I", Cond.fieldLink RX2 98 "DotGossip$Message" "to" "I", Cond.fieldLink RX2 101 "DotGossip$Message" "sent" "LDotGossip$Holding;", Cond.fieldLink RX2 124 "DotGossip$Holding" "seen" "[I", Cond.methodLink RX2 74 yJx4a65c_size_8abf5, Cond.instanceMethod yJx4a65c_size_8abf5, Cond.selects RJx4a65c yJx4a65c_size_8abf5 yJx4a65c_size_8abf5, Cond.initialized RJx4a65c, Cond.code yJx4a65c_size_8abf5 cJx4a65c_size_8abf5 1 (some .int), Cond.fieldLink RJx4a65c 48 "java/util/ArrayList" "size" "I", Cond.methodLink RX2 56 yX2_requireIndex, Cond.static yX2_requireIndex, Cond.code yX2_requireIndex cX2_requireIndex 2 none, Cond.methodLink RX2 27 yX2_require, Cond.static yX2_require]
def wsL_message_r2 : List Cond := [Cond.code yX2_require cX2_require 1 none, Cond.classLink RX2 131 "java/lang/IllegalArgumentException", Cond.initialized "java/lang/IllegalArgumentException", Cond.methodLink RX2 109 yJx4a65c_get_915e3, Cond.instanceMethod yJx4a65c_get_915e3, Cond.selects RJx4a65c yJx4a65c_get_915e3 yJx4a65c_get_915e3, Cond.code yJx4a65c_get_915e3 cJx4a65c_get_915e3 2 (some (.object "java/lang/Object")), Cond.methodLink RJx4a65c 118 yJ15_checkIndex_7cf53, Cond.static yJ15_checkIndex_7cf53, Cond.initialized RJ15, Cond.code yJ15_checkIndex_7cf53 cJ15_checkIndex_7cf53 2 (some .int), Cond.methodLink RJ15 105 yJ3_checkIndex_8e157, Cond.static yJ3_checkIndex_8e157, Cond.initialized RJ3, Cond.code yJ3_checkIndex_8e157 cJ3_checkIndex_8e157 3 (some .int), Cond.methodLink RJx4a65c 123 yJx4a65c_elementData_915e3, Cond.instanceMethod yJx4a65c_elementData_915e3, Cond.selects RJx4a65c yJx4a65c_elementData_915e3 yJx4a65c_elementData_915e3, Cond.code yJx4a65c_elementData_915e3 cJx4a65c_elementData_915e3 2 (some (.object "java/lang/Object")), Cond.fieldLink RJx4a65c 9 "java/util/ArrayList" "elementData" "[Ljava/lang/Object;"]
def wsL_message : List Cond := .codeWith yL_message cL_message 5 (some .int) [(0, 10, 13, 13)] :: ((wsL_message_r1 ++ wsL_message_r2) ++ wsX20 ++ wsX10 ++ wsX00 ++ wsJx4a65c0 ++ (vx_at0 RX2 133 "java/lang/IllegalArgumentException" ["java/lang/RuntimeException", "java/lang/Exception"]).filter goodWord)
def wsL_law0_r1 : List Cond := [Cond.classLink RL 8 RX2, Cond.instantiable RX2 3, Cond.initialized RX2, Cond.classLink RL 84 RX3, Cond.instantiable RX3 8, Cond.initialized RX3, Cond.arrayClass .long, Cond.methodLink RL 83 yX2_init, Cond.instanceMethod yX2_init, Cond.code yX2_init cX2_init 2 none, Cond.methodLink RX2 3 objectInit, Cond.instanceMethod objectInit, Cond.code objectInit ⟨#[0xb1]⟩ 1 none, Cond.classLink RX2 9 RX0, Cond.fieldLink RX2 11 "DotGossip" "holdings" "[LDotGossip$Holding;", Cond.instantiable RX0 5, Cond.initialized RX0, Cond.classLink RX2 16 RJx4a65c, Cond.instantiable RJx4a65c 3, Cond.initialized RJx4a65c, Cond.fieldLink RX2 19 "DotGossip" "wire" "Ljava/util/ArrayList;", Cond.fieldLink RX2 23 "DotGossip" "replicaCount" "I", Cond.methodLink RX2 15 yX0_init, Cond.instanceMethod yX0_init]
def wsL_law0_r2 : List Cond := [Cond.code yX0_init cX0_init 1 none, Cond.methodLink RX0 3 objectInit, Cond.arrayClass .int, Cond.fieldLink RX0 9 "DotGossip$Holding" "seen" "[I", Cond.fieldLink RX0 15 "DotGossip$Holding" "numbers" "[I", Cond.fieldLink RX0 18 "DotGossip$Holding" "written" "[I", Cond.fieldLink RX0 21 "DotGossip$Holding" "added" "[J", Cond.fieldLink RX0 25 "DotGossip$Holding" "taken" "[J", Cond.methodLink RX2 18 yJx4a65c_init_da8c8, Cond.instanceMethod yJx4a65c_init_da8c8, Cond.code yJx4a65c_init_da8c8 cJx4a65c_init_da8c8 1 none, Cond.fieldLink RJx4a65c 39 "java/util/ArrayList" "DEFAULTCAPACITY_EMPTY_ELEMENTDATA" "[Ljava/lang/Object;", Cond.fieldLink RJx4a65c 9 "java/util/ArrayList" "elementData" "[Ljava/lang/Object;", Cond.methodLink RJx4a65c 1 yJxc12de_init_da8c8, Cond.instanceMethod yJxc12de_init_da8c8, Cond.initialized RJxc12de, Cond.code yJxc12de_init_da8c8 cJxc12de_init_da8c8 1 none, Cond.fieldLink RJxc12de 7 "java/util/AbstractList" "modCount" "I", Cond.methodLink RJxc12de 1 yJxa1e45_init_da8c8, Cond.instanceMethod yJxa1e45_init_da8c8, Cond.initialized RJxa1e45, Cond.code yJxa1e45_init_da8c8 cJxa1e45_init_da8c8 1 none, Cond.methodLink RJxa1e45 1 objectInit, Cond.methodLink RL 86 yX3_init]
def wsL_law0_r3 : List Cond := [Cond.instanceMethod yX3_init, Cond.code yX3_init cX3_init 1 none, Cond.methodLink RX3 1 objectInit, Cond.fieldLink RX3 7 "DotGossipModel" "replicas" "I", Cond.constant RX3 13 (43884), Cond.fieldLink RX3 14 "DotGossipModel" "table" "[I", Cond.fieldLink RX3 18 "DotGossipModel" "values" "[I", Cond.fieldLink RX3 21 "DotGossipModel" "sums" "[J", Cond.fieldLink RX3 25 "DotGossipModel" "from" "[I", Cond.fieldLink RX3 28 "DotGossipModel" "to" "[I", Cond.methodLink RL 87 yL_open, Cond.static yL_open, Cond.initialized RL, Cond.codeWith yL_open cL_open 3 (some .int) [(0, 5, 8, 13)], Cond.classLink RL 13 "java/lang/IllegalArgumentException", Cond.methodLink RL 7 yX2_open, Cond.instanceMethod yX2_open, Cond.selects RX2 yX2_open yX2_open, Cond.code yX2_open cX2_open 3 none, Cond.methodLink RX2 27 yX2_require, Cond.static yX2_require, Cond.code yX2_require cX2_require 1 none, Cond.classLink RX2 131 "java/lang/IllegalArgumentException", Cond.initialized "java/lang/IllegalArgumentException"]
def wsL_law0_r4 : List Cond := [Cond.methodLink RX2 31 yX0_wipe, Cond.instanceMethod yX0_wipe, Cond.selects RX0 yX0_wipe yX0_wipe, Cond.code yX0_wipe cX0_wipe 1 none, Cond.methodLink RX0 28 yJ7_fill_53178, Cond.static yJ7_fill_53178, Cond.initialized RJ7, Cond.code yJ7_fill_53178 cJ7_fill_53178 4 none, Cond.methodLink RX0 34 yJ7_fill_d0a16, Cond.static yJ7_fill_d0a16, Cond.code yJ7_fill_d0a16 cJ7_fill_d0a16 5 none, Cond.methodLink RX2 34 yJx4a65c_clear_da8c8, Cond.instanceMethod yJx4a65c_clear_da8c8, Cond.selects RJx4a65c yJx4a65c_clear_da8c8 yJx4a65c_clear_da8c8, Cond.code yJx4a65c_clear_da8c8 cJx4a65c_clear_da8c8 4 none, Cond.fieldLink RJx4a65c 63 "java/util/ArrayList" "modCount" "I", Cond.sameField "java/util/ArrayList" "java/util/AbstractList" "modCount" "I", Cond.fieldLink RJx4a65c 48 "java/util/ArrayList" "size" "I", Cond.methodLink RL 92 yX3_open, Cond.instanceMethod yX3_open, Cond.selects RX3 yX3_open yX3_open, Cond.code yX3_open cX3_open 3 none, Cond.fieldLink RX3 41 "DotGossipModel" "messages" "I", Cond.methodLink RX3 38 yX3_refuses]
def wsL_law0_r5 : List Cond := [Cond.instanceMethod yX3_refuses, Cond.selects RX3 yX3_refuses yX3_refuses, Cond.code yX3_refuses cX3_refuses 2 (some .boolean), Cond.fieldLink RX3 31 "DotGossipModel" "code" "I", Cond.methodLink RL 93 yX3_thrown, Cond.instanceMethod yX3_thrown, Cond.selects RX3 yX3_thrown yX3_thrown, Cond.code yX3_thrown cX3_thrown 1 (some .int), Cond.methodLink RL 97 yL_add, Cond.static yL_add, Cond.codeWith yL_add cL_add 6 (some .int) [(0, 12, 15, 13)], Cond.methodLink RL 15 yX2_add, Cond.instanceMethod yX2_add, Cond.selects RX2 yX2_add yX2_add, Cond.code yX2_add cX2_add 6 (some .int), Cond.methodLink RX2 37 yX2_requireElement, Cond.instanceMethod yX2_requireElement, Cond.selects RX2 yX2_requireElement yX2_requireElement, Cond.code yX2_requireElement cX2_requireElement 4 none, Cond.methodLink RX2 52 yX2_requireReplica, Cond.instanceMethod yX2_requireReplica, Cond.selects RX2 yX2_requireReplica yX2_requireReplica, Cond.code yX2_requireReplica cX2_requireReplica 2 none, Cond.methodLink RX2 56 yX2_requireIndex]
def wsL_law0_r6 : List Cond := [Cond.static yX2_requireIndex, Cond.code yX2_requireIndex cX2_requireIndex 2 none, Cond.methodLink RX2 41 yX2_placeOfElement, Cond.static yX2_placeOfElement, Cond.code yX2_placeOfElement cX2_placeOfElement 2 (some .int), Cond.methodLink RX2 45 yX0_forget, Cond.instanceMethod yX0_forget, Cond.selects RX0 yX0_forget yX0_forget, Cond.code yX0_forget cX0_forget 4 (some .int), Cond.methodLink RX0 44 yX0_dotsAt, Cond.instanceMethod yX0_dotsAt, Cond.selects RX0 yX0_dotsAt yX0_dotsAt, Cond.code yX0_dotsAt cX0_dotsAt 4 (some .int), Cond.methodLink RX2 49 yX0_makeDot, Cond.instanceMethod yX0_makeDot, Cond.selects RX0 yX0_makeDot yX0_makeDot, Cond.code yX0_makeDot cX0_makeDot 3 (some .int), Cond.methodLink RL 100 yX3_add, Cond.instanceMethod yX3_add, Cond.selects RX3 yX3_add yX3_add, Cond.code yX3_add cX3_add 4 (some .int), Cond.methodLink RX3 55 yX3_isElement, Cond.instanceMethod yX3_isElement, Cond.selects RX3 yX3_isElement yX3_isElement]
def wsL_law0_r7 : List Cond := [Cond.code yX3_isElement cX3_isElement 4 (some .boolean), Cond.methodLink RX3 34 yX3_isReplica, Cond.instanceMethod yX3_isReplica, Cond.selects RX3 yX3_isReplica yX3_isReplica, Cond.code yX3_isReplica cX3_isReplica 2 (some .boolean), Cond.methodLink RX3 59 yX3_news, Cond.instanceMethod yX3_news, Cond.selects RX3 yX3_news yX3_news, Cond.code yX3_news cX3_news 4 (some .int), Cond.methodLink RX3 48 yX3_vectorAt, Cond.static yX3_vectorAt, Cond.code yX3_vectorAt cX3_vectorAt 2 (some .int), Cond.methodLink RX3 51 yX3_empties, Cond.instanceMethod yX3_empties, Cond.selects RX3 yX3_empties yX3_empties, Cond.code yX3_empties cX3_empties 4 none, Cond.methodLink RX3 44 yX3_dots, Cond.static yX3_dots, Cond.code yX3_dots cX3_dots 2 (some .int), Cond.methodLink RL 101 yL_remove, Cond.static yL_remove, Cond.codeWith yL_remove cL_remove 6 (some .int) [(0, 12, 15, 13)], Cond.methodLink RL 19 yX2_remove, Cond.instanceMethod yX2_remove]
def wsL_law0_r8 : List Cond := [Cond.selects RX2 yX2_remove yX2_remove, Cond.code yX2_remove cX2_remove 4 (some .int), Cond.methodLink RL 103 yX3_remove, Cond.instanceMethod yX3_remove, Cond.selects RX3 yX3_remove yX3_remove, Cond.code yX3_remove cX3_remove 5 (some .int), Cond.methodLink RX3 62 yX3_many, Cond.instanceMethod yX3_many, Cond.selects RX3 yX3_many yX3_many, Cond.code yX3_many cX3_many 5 (some .int), Cond.methodLink RL 104 yL_clear, Cond.static yL_clear, Cond.codeWith yL_clear cL_clear 5 (some .int) [(0, 10, 13, 13)], Cond.methodLink RL 22 yX2_clear, Cond.instanceMethod yX2_clear, Cond.selects RX2 yX2_clear yX2_clear, Cond.code yX2_clear cX2_clear 5 (some .int), Cond.methodLink RL 107 yX3_clear, Cond.instanceMethod yX3_clear, Cond.selects RX3 yX3_clear yX3_clear, Cond.code yX3_clear cX3_clear 5 (some .int), Cond.methodLink RL 108 yL_write, Cond.static yL_write, Cond.codeWith yL_write cL_write 6 (some .int) [(0, 12, 15, 13)]]
def wsL_law0_r9 : List Cond := [Cond.methodLink RL 26 yX2_write, Cond.instanceMethod yX2_write, Cond.selects RX2 yX2_write yX2_write, Cond.code yX2_write cX2_write 7 (some .int), Cond.fieldLink RX2 60 "DotGossip$Holding" "written" "[I", Cond.methodLink RL 110 yX3_write, Cond.instanceMethod yX3_write, Cond.selects RX3 yX3_write yX3_write, Cond.code yX3_write cX3_write 5 (some .int), Cond.methodLink RX3 65 yX3_isRegister, Cond.instanceMethod yX3_isRegister, Cond.selects RX3 yX3_isRegister yX3_isRegister, Cond.code yX3_isRegister cX3_isRegister 3 (some .boolean), Cond.methodLink RL 111 yL_count, Cond.static yL_count, Cond.codeWith yL_count cL_count 6 (some .int) [(0, 12, 15, 13)], Cond.methodLink RL 29 yX2_count, Cond.instanceMethod yX2_count, Cond.selects RX2 yX2_count yX2_count, Cond.code yX2_count cX2_count 6 (some .int), Cond.fieldLink RX2 64 "DotGossip$Holding" "added" "[J", Cond.fieldLink RX2 68 "DotGossip$Holding" "taken" "[J", Cond.methodLink RX2 71 yX0_worth, Cond.instanceMethod yX0_worth]
def wsL_law0_r10 : List Cond := [Cond.selects RX0 yX0_worth yX0_worth, Cond.code yX0_worth cX0_worth 6 (some .int), Cond.methodLink RL 113 yX3_count, Cond.instanceMethod yX3_count, Cond.selects RX3 yX3_count yX3_count, Cond.code yX3_count cX3_count 5 (some .int), Cond.methodLink RX3 69 yX3_sum, Cond.instanceMethod yX3_sum, Cond.selects RX3 yX3_sum yX3_sum, Cond.code yX3_sum cX3_sum 7 (some .int), Cond.methodLink RL 114 yL_gossip, Cond.static yL_gossip, Cond.codeWith yL_gossip cL_gossip 5 (some .int) [(0, 10, 13, 13), (0, 10, 17, 35)], Cond.classLink RL 35 "java/lang/IllegalStateException", Cond.methodLink RL 32 yX2_gossip, Cond.instanceMethod yX2_gossip, Cond.selects RX2 yX2_gossip yX2_gossip, Cond.code yX2_gossip cX2_gossip 3 (some .int), Cond.classLink RX2 78 "java/lang/IllegalStateException", Cond.initialized "java/lang/IllegalStateException", Cond.classLink RX2 81 RX1, Cond.instantiable RX1 3, Cond.initialized RX1, Cond.methodLink RX2 74 yJx4a65c_size_8abf5]
def wsL_law0_r11 : List Cond := [Cond.instanceMethod yJx4a65c_size_8abf5, Cond.selects RJx4a65c yJx4a65c_size_8abf5 yJx4a65c_size_8abf5, Cond.code yJx4a65c_size_8abf5 cJx4a65c_size_8abf5 1 (some .int), Cond.methodLink RX2 83 yX0_snapshot, Cond.instanceMethod yX0_snapshot, Cond.selects RX0 yX0_snapshot yX0_snapshot, Cond.code yX0_snapshot cX0_snapshot 2 (some (.object "DotGossip$Holding")), Cond.classLink RX0 10 RX0, Cond.methodLink RX0 38 arraycopyName, Cond.native arraycopyName, Cond.static arraycopyName, Cond.initialized "java/lang/System", Cond.methodLink RX0 37 yX0_init, Cond.methodLink RX2 87 yX1_init, Cond.instanceMethod yX1_init, Cond.code yX1_init cX1_init 4 none, Cond.methodLink RX1 1 objectInit, Cond.fieldLink RX1 7 "DotGossip$Message" "from" "I", Cond.fieldLink RX1 13 "DotGossip$Message" "to" "I", Cond.fieldLink RX1 16 "DotGossip$Message" "sent" "LDotGossip$Holding;", Cond.methodLink RX2 90 yJx4a65c_add_9ea2d, Cond.instanceMethod yJx4a65c_add_9ea2d, Cond.selects RJx4a65c yJx4a65c_add_9ea2d yJx4a65c_add_9ea2d, Cond.code yJx4a65c_add_9ea2d cJx4a65c_add_9ea2d 2 (some .boolean)]
def wsL_law0_r12 : List Cond := [Cond.methodLink RJx4a65c 131 yJx4a65c_add_72be8, Cond.instanceMethod yJx4a65c_add_72be8, Cond.selects RJx4a65c yJx4a65c_add_72be8 yJx4a65c_add_72be8, Cond.code yJx4a65c_add_72be8 cJx4a65c_add_72be8 4 none, Cond.methodLink RJx4a65c 129 yJx4a65c_grow_d5877, Cond.instanceMethod yJx4a65c_grow_d5877, Cond.selects RJx4a65c yJx4a65c_grow_d5877 yJx4a65c_grow_d5877, Cond.code yJx4a65c_grow_d5877 cJx4a65c_grow_d5877 1 (some (.array (.object "java/lang/Object"))), Cond.methodLink RJx4a65c 69 yJx4a65c_grow_92f84, Cond.instanceMethod yJx4a65c_grow_92f84, Cond.selects RJx4a65c yJx4a65c_grow_92f84 yJx4a65c_grow_92f84, Cond.code yJx4a65c_grow_92f84 cJx4a65c_grow_92f84 4 (some (.array (.object "java/lang/Object"))), Cond.methodLink RJx4a65c 79 Lib.Math.max.name, Cond.static Lib.Math.max.name, Cond.initialized "java/lang/Math", Cond.code Lib.Math.max.name Lib.Math.max.code 2 (some .int), Cond.classLink RJx4a65c 7 "java/lang/Object", Cond.methodLink RJx4a65c 73 yJ8_newLength_cabcc, Cond.static yJ8_newLength_cabcc, Cond.initialized RJ8, Cond.code yJ8_newLength_cabcc cJ8_newLength_cabcc 4 (some .int), Cond.methodLink RJ8 194 Lib.Math.max.name, Cond.constant RJ8 200 (2147483639), Cond.methodLink RJ8 201 yJ8_hugeLength_7cf53]
def wsL_law0_r13 : List Cond := [Cond.static yJ8_hugeLength_7cf53, Cond.code yJ8_hugeLength_7cf53 cJ8_hugeLength_7cf53 3 (some .int), Cond.methodLink RJx4a65c 66 yJ7_copyOf_1904c, Cond.static yJ7_copyOf_1904c, Cond.code yJ7_copyOf_1904c cJ7_copyOf_1904c 2 (some (.array (.object "java/lang/Object"))), Cond.methodLink RJ7 86 ⟨"java/lang/Object", "getClass", "()Ljava/lang/Class;"⟩, Cond.selects "[Ljava/lang/Object;" ⟨"java/lang/Object", "getClass", "()Ljava/lang/Class;"⟩ ⟨"java/lang/Object", "getClass", "()Ljava/lang/Class;"⟩, Cond.instanceMethod ⟨"java/lang/Object", "getClass", "()Ljava/lang/Class;"⟩, Cond.native ⟨"java/lang/Object", "getClass", "()Ljava/lang/Class;"⟩, Cond.methodLink RJ7 300 yJ7_copyOf_6403c, Cond.static yJ7_copyOf_6403c, Cond.code yJ7_copyOf_6403c cJ7_copyOf_6403c 4 (some (.array (.object "java/lang/Object"))), Cond.classLink RJ7 110 "[Ljava/lang/Object;", Cond.classLink RJ7 2 "java/lang/Object", Cond.methodLink RJ7 304 Lib.Math.min.name, Cond.static Lib.Math.min.name, Cond.code Lib.Math.min.name Lib.Math.min.code 2 (some .int), Cond.methodLink RJ7 150 arraycopyName, Cond.methodLink RL 116 yX3_gossip, Cond.instanceMethod yX3_gossip, Cond.selects RX3 yX3_gossip yX3_gossip, Cond.code yX3_gossip cX3_gossip 3 (some .int), Cond.methodLink RX3 72 yX3_copies, Cond.instanceMethod yX3_copies]
def wsL_law0_r14 : List Cond := [Cond.selects RX3 yX3_copies yX3_copies, Cond.code yX3_copies cX3_copies 4 none, Cond.methodLink RL 117 yL_deliver, Cond.static yL_deliver, Cond.codeWith yL_deliver cL_deliver 4 (some .int) [(0, 9, 12, 13)], Cond.methodLink RL 37 yX2_deliver, Cond.instanceMethod yX2_deliver, Cond.selects RX2 yX2_deliver yX2_deliver, Cond.code yX2_deliver cX2_deliver 3 (some .int), Cond.classLink RX2 81 "DotGossip$Message", Cond.fieldLink RX2 98 "DotGossip$Message" "to" "I", Cond.fieldLink RX2 101 "DotGossip$Message" "sent" "LDotGossip$Holding;", Cond.methodLink RX2 94 yJx4a65c_remove_915e3, Cond.instanceMethod yJx4a65c_remove_915e3, Cond.selects RJx4a65c yJx4a65c_remove_915e3 yJx4a65c_remove_915e3, Cond.code yJx4a65c_remove_915e3 cJx4a65c_remove_915e3 4 (some (.object "java/lang/Object")), Cond.methodLink RJx4a65c 118 yJ15_checkIndex_7cf53, Cond.static yJ15_checkIndex_7cf53, Cond.initialized RJ15, Cond.code yJ15_checkIndex_7cf53 cJ15_checkIndex_7cf53 2 (some .int), Cond.methodLink RJ15 105 yJ3_checkIndex_8e157, Cond.static yJ3_checkIndex_8e157, Cond.initialized RJ3, Cond.code yJ3_checkIndex_8e157 cJ3_checkIndex_8e157 3 (some .int)]
def wsL_law0_r15 : List Cond := [Cond.methodLink RJx4a65c 144 yJx4a65c_fastRemove_b59b0, Cond.instanceMethod yJx4a65c_fastRemove_b59b0, Cond.selects RJx4a65c yJx4a65c_fastRemove_b59b0 yJx4a65c_fastRemove_b59b0, Cond.code yJx4a65c_fastRemove_b59b0 cJx4a65c_fastRemove_b59b0 4 none, Cond.methodLink RJx4a65c 112 arraycopyName, Cond.methodLink RX2 105 yX0_merge, Cond.instanceMethod yX0_merge, Cond.selects RX0 yX0_merge yX0_merge, Cond.code yX0_merge cX0_merge 5 (some .int), Cond.methodLink RX0 52 Lib.Math.max.name, Cond.methodLink RX0 58 Lib.MathLoose.max_long.x, Cond.static Lib.MathLoose.max_long.x, Cond.code Lib.MathLoose.max_long.x Lib.MathLoose.max_long.code 4 (some .long), Cond.methodLink RX0 48 yX0_mergeDot, Cond.instanceMethod yX0_mergeDot, Cond.selects RX0 yX0_mergeDot yX0_mergeDot, Cond.code yX0_mergeDot cX0_mergeDot 7 (some .boolean), Cond.methodLink RL 120 yX3_deliver, Cond.instanceMethod yX3_deliver, Cond.selects RX3 yX3_deliver yX3_deliver, Cond.code yX3_deliver cX3_deliver 3 (some .int), Cond.methodLink RX3 75 yX3_isMessage, Cond.instanceMethod yX3_isMessage, Cond.selects RX3 yX3_isMessage yX3_isMessage]
def wsL_law0_r16 : List Cond := [Cond.code yX3_isMessage cX3_isMessage 2 (some .boolean), Cond.methodLink RX3 78 yX3_merges, Cond.instanceMethod yX3_merges, Cond.selects RX3 yX3_merges yX3_merges, Cond.code yX3_merges cX3_merges 9 (some .int), Cond.methodLink RX3 81 yX3_gone, Cond.instanceMethod yX3_gone, Cond.selects RX3 yX3_gone yX3_gone, Cond.code yX3_gone cX3_gone 3 none, Cond.methodLink RL 121 yL_drop, Cond.static yL_drop, Cond.codeWith yL_drop cL_drop 4 (some .int) [(0, 9, 12, 13)], Cond.methodLink RL 41 yX2_drop, Cond.instanceMethod yX2_drop, Cond.selects RX2 yX2_drop yX2_drop, Cond.code yX2_drop cX2_drop 2 (some .int), Cond.methodLink RL 123 yX3_drop, Cond.instanceMethod yX3_drop, Cond.selects RX3 yX3_drop yX3_drop, Cond.code yX3_drop cX3_drop 3 (some .int), Cond.methodLink RL 124 yL_copy, Cond.static yL_copy, Cond.codeWith yL_copy cL_copy 4 (some .int) [(0, 16, 19, 13)], Cond.methodLink RL 44 yX2_copy]
def wsL_law0_r17 : List Cond := [Cond.instanceMethod yX2_copy, Cond.selects RX2 yX2_copy yX2_copy, Cond.code yX2_copy cX2_copy 3 (some .boolean), Cond.fieldLink RX2 112 "DotGossip$Message" "from" "I", Cond.methodLink RX2 109 yJx4a65c_get_915e3, Cond.instanceMethod yJx4a65c_get_915e3, Cond.selects RJx4a65c yJx4a65c_get_915e3 yJx4a65c_get_915e3, Cond.code yJx4a65c_get_915e3 cJx4a65c_get_915e3 2 (some (.object "java/lang/Object")), Cond.methodLink RJx4a65c 123 yJx4a65c_elementData_915e3, Cond.instanceMethod yJx4a65c_elementData_915e3, Cond.selects RJx4a65c yJx4a65c_elementData_915e3 yJx4a65c_elementData_915e3, Cond.code yJx4a65c_elementData_915e3 cJx4a65c_elementData_915e3 2 (some (.object "java/lang/Object")), Cond.methodLink RL 126 yX3_copy, Cond.instanceMethod yX3_copy, Cond.selects RX3 yX3_copy yX3_copy, Cond.code yX3_copy cX3_copy 2 (some .boolean), Cond.methodLink RL 127 yL_turn, Cond.static yL_turn, Cond.codeWith yL_turn cL_turn 4 (some .int) [(0, 6, 9, 13)], Cond.methodLink RL 48 yX2_turn, Cond.instanceMethod yX2_turn, Cond.selects RX2 yX2_turn yX2_turn, Cond.code yX2_turn cX2_turn 3 none, Cond.methodLink RL 130 yX3_turn]
def wsL_law0_r18 : List Cond := [Cond.instanceMethod yX3_turn, Cond.selects RX3 yX3_turn yX3_turn, Cond.code yX3_turn cX3_turn 3 none, Cond.methodLink RL 131 yL_contains, Cond.static yL_contains, Cond.codeWith yL_contains cL_contains 6 (some .int) [(0, 19, 22, 13)], Cond.methodLink RL 52 yX2_contains, Cond.instanceMethod yX2_contains, Cond.selects RX2 yX2_contains yX2_contains, Cond.code yX2_contains cX2_contains 4 (some .boolean), Cond.methodLink RX2 115 yX0_dotsAt, Cond.methodLink RL 133 yX3_contains, Cond.instanceMethod yX3_contains, Cond.selects RX3 yX3_contains yX3_contains, Cond.code yX3_contains cX3_contains 4 (some .boolean), Cond.methodLink RL 134 yL_size, Cond.static yL_size, Cond.codeWith yL_size cL_size 5 (some .int) [(0, 10, 13, 13)], Cond.methodLink RL 56 yX2_size, Cond.instanceMethod yX2_size, Cond.selects RX2 yX2_size yX2_size, Cond.code yX2_size cX2_size 5 (some .int), Cond.methodLink RL 136 yX3_size, Cond.instanceMethod yX3_size]
def wsL_law0_r19 : List Cond := [Cond.selects RX3 yX3_size yX3_size, Cond.code yX3_size cX3_size 5 (some .int), Cond.methodLink RL 137 yL_dot, Cond.static yL_dot, Cond.codeWith yL_dot cL_dot 8 (some .int) [(0, 16, 19, 13)], Cond.methodLink RL 59 yX2_dot, Cond.instanceMethod yX2_dot, Cond.selects RX2 yX2_dot yX2_dot, Cond.code yX2_dot cX2_dot 9 (some .int), Cond.methodLink RX2 118 yX0_makerOf, Cond.instanceMethod yX0_makerOf, Cond.selects RX0 yX0_makerOf yX0_makerOf, Cond.code yX0_makerOf cX0_makerOf 5 (some .int), Cond.methodLink RX2 121 yX0_numberBy, Cond.instanceMethod yX0_numberBy, Cond.selects RX0 yX0_numberBy yX0_numberBy, Cond.code yX0_numberBy cX0_numberBy 3 (some .int), Cond.methodLink RL 140 yX3_dot, Cond.instanceMethod yX3_dot, Cond.selects RX3 yX3_dot yX3_dot, Cond.code yX3_dot cX3_dot 8 (some .int), Cond.methodLink RX3 85 yX3_origin, Cond.instanceMethod yX3_origin, Cond.selects RX3 yX3_origin yX3_origin]
def wsL_law0_r20 : List Cond := [Cond.code yX3_origin cX3_origin 6 (some .int), Cond.methodLink RL 141 yL_value, Cond.static yL_value, Cond.codeWith yL_value cL_value 7 (some .int) [(0, 14, 17, 13)], Cond.methodLink RL 63 yX2_value, Cond.instanceMethod yX2_value, Cond.selects RX2 yX2_value yX2_value, Cond.code yX2_value cX2_value 8 (some .int), Cond.methodLink RL 144 yX3_value, Cond.instanceMethod yX3_value, Cond.selects RX3 yX3_value yX3_value, Cond.code yX3_value cX3_value 6 (some .int), Cond.methodLink RL 145 yL_values, Cond.static yL_values, Cond.codeWith yL_values cL_values 5 (some .int) [(0, 10, 13, 13)], Cond.methodLink RL 67 yX2_values, Cond.instanceMethod yX2_values, Cond.selects RX2 yX2_values yX2_values, Cond.code yX2_values cX2_values 3 (some .int), Cond.methodLink RL 147 yX3_values, Cond.instanceMethod yX3_values, Cond.selects RX3 yX3_values yX3_values, Cond.code yX3_values cX3_values 3 (some .int), Cond.methodLink RL 148 yL_total]
def wsL_law0_r21 : List Cond := [Cond.static yL_total, Cond.codeWith yL_total cL_total 5 (some .int) [(0, 10, 13, 13)], Cond.methodLink RL 70 yX2_total, Cond.instanceMethod yX2_total, Cond.selects RX2 yX2_total yX2_total, Cond.code yX2_total cX2_total 3 (some .int), Cond.methodLink RL 150 yX3_total, Cond.instanceMethod yX3_total, Cond.selects RX3 yX3_total yX3_total, Cond.code yX3_total cX3_total 3 (some .int), Cond.methodLink RL 151 yL_vector, Cond.static yL_vector, Cond.codeWith yL_vector cL_vector 5 (some .int) [(0, 10, 13, 13)], Cond.methodLink RL 73 yX2_vector, Cond.instanceMethod yX2_vector, Cond.selects RX2 yX2_vector yX2_vector, Cond.code yX2_vector cX2_vector 3 (some .int), Cond.fieldLink RX2 124 "DotGossip$Holding" "seen" "[I", Cond.methodLink RL 153 yX3_vector, Cond.instanceMethod yX3_vector, Cond.selects RX3 yX3_vector yX3_vector, Cond.code yX3_vector cX3_vector 3 (some .int), Cond.methodLink RL 154 yL_same, Cond.static yL_same]
def wsL_law0_r22 : List Cond := [Cond.codeWith yL_same cL_same 5 (some .int) [(0, 17, 20, 13)], Cond.methodLink RL 76 yX2_same, Cond.instanceMethod yX2_same, Cond.selects RX2 yX2_same yX2_same, Cond.code yX2_same cX2_same 3 (some .boolean), Cond.methodLink RX2 127 yX0_matches, Cond.instanceMethod yX0_matches, Cond.selects RX0 yX0_matches yX0_matches, Cond.code yX0_matches cX0_matches 2 (some .boolean), Cond.methodLink RX0 61 yX0_equalInts, Cond.static yX0_equalInts, Cond.code yX0_equalInts cX0_equalInts 3 (some .boolean), Cond.methodLink RX0 65 yX0_equalLongs, Cond.static yX0_equalLongs, Cond.code yX0_equalLongs cX0_equalLongs 3 (some .boolean), Cond.methodLink RL 156 yX3_same, Cond.instanceMethod yX3_same, Cond.selects RX3 yX3_same yX3_same, Cond.code yX3_same cX3_same 6 (some .boolean), Cond.methodLink RL 157 yL_message, Cond.static yL_message, Cond.codeWith yL_message cL_message 5 (some .int) [(0, 10, 13, 13)], Cond.methodLink RL 80 yX2_message, Cond.instanceMethod yX2_message]
def wsL_law0_r23 : List Cond := [Cond.selects RX2 yX2_message yX2_message, Cond.code yX2_message cX2_message 4 (some .int), Cond.methodLink RL 159 yX3_message, Cond.instanceMethod yX3_message, Cond.selects RX3 yX3_message yX3_message, Cond.code yX3_message cX3_message 3 (some .int)]
def wsL_law0 : List Cond := (wsL_law0_r1 ++ (wsL_law0_r2 ++ (wsL_law0_r3 ++ (wsL_law0_r4 ++ (wsL_law0_r5 ++ (wsL_law0_r6 ++ (wsL_law0_r7 ++ (wsL_law0_r8 ++ (wsL_law0_r9 ++ (wsL_law0_r10 ++ (wsL_law0_r11 ++ (wsL_law0_r12 ++ (wsL_law0_r13 ++ (wsL_law0_r14 ++ (wsL_law0_r15 ++ (wsL_law0_r16 ++ (wsL_law0_r17 ++ (wsL_law0_r18 ++ (wsL_law0_r19 ++ (wsL_law0_r20 ++ (wsL_law0_r21 ++ (wsL_law0_r22 ++ wsL_law0_r23)))))))))))))))))))))) ++ wsX20 ++ wsX30 ++ wsX00 ++ wsJx4a65c0 ++ wsX10 ++ ([] : List Cond)
def wsL_law : List Cond := wsL_law0 ++ (vx_at0 RX2 133 "java/lang/IllegalArgumentException" ["java/lang/RuntimeException", "java/lang/Exception"]).filter goodWord ++ (vx_at0 RX2 80 "java/lang/IllegalStateException" ["java/lang/RuntimeException", "java/lang/Exception"]).filter goodWord
abbrev vwCl : List vw_C := [(RJx4a65c, TJx4a65c, 3), (RX0, TX0, 5), (RX1, TX1, 3), (RX2, TX2, 3), (RX3, TX3, 8)]
end
section
def R_law : String := "DotGossipLaw"
def lw_P (b : Addr) (xs : List Int32) (args : Array Value) (s : State) : Prop := args = #[.ref b] ∧ s.IntsAt b xs ∧ xs.length ≤ 3072 ∧ (Jvm.Cond.and given_1 narrow_1).before args s = true
def lw_Q (_ : Array Value) (s : State) (o : Outcome) (t : State) : Prop := o = .returned (some (.int 1)) ∧ Framed s o t [] 601024 7293034
def lw_Z (below : List Frame) (a : Array Value) (s : State) : State → Prop := fun t => ∃ o, t.status = .running ∧ Ended t below o ∧ lw_Q a s o t
/-- the law's own end, with 1 on the stack, nothing written that was there before, its room as the claim has it -/
theorem lw_ret {p : Program} {l : Launch} {e : Env} {s : State} {m : MethodId} {below : List Frame} {meth : Method} {c : Code} {b : Nat} (hx : p.tables.exec = Jvm.exec) (hb : c.code = code) (hr : meth.sig.returnType = ret) (hlocks : meth.locks = false) {pc : Nat} {H : Heap} {ls : Array Slot} (hdg : decode code pc = .ok (.ireturn, 1)) : W p l e room_1 s m #[Value.ref b] below meth c H [] 601024 7293034 (lw_Z below #[Value.ref b] s) (F0 m pc ls [.int 1]) := by
  intro T hT X
  obtain ⟨fs, hret, hrun, hended, hW, hframe⟩ := X.leave (v := some (.int 1)) (hlocks := hlocks) (fun h => by rw [hr] at h; cases h)
  have hmeth' : T.vm.method? m = some meth := X.method'
  refine ⟨T.setFrames fs, ?_, .returned (some (.int 1)), hrun, hended, rfl, ⟨_, rfl⟩, hW, hframe⟩
  jvm_step X.here [X.here.top, hx, hb, hdg, hmeth', hr, ret, narrow_b1]
  (try refine ⟨rfl, ?_⟩); (try refine ⟨rfl, ?_⟩)
  first | (intro acts; rw [hret _ acts rfl rfl rfl]) | rw [hret _ _ rfl rfl rfl]
  exact Steps.refl _
/-- what holds at the law's entry: the machine, the code, the tables' words (any of lw_tbl by 'hts w (by decide +kernel)'), the script of L ints xs at the cell b, what the Statement gives of the start (any of its parts by flat_of_before) -/
def lw_At (p : Program) (s : State) (m : MethodId) (meth : Method) (c : Code) (b L : Nat) (xs : Nat → Int32) : Prop :=
  p.tables.exec = Jvm.exec ∧ c.code = code ∧ meth.sig.returnType = ret ∧ c.maxLocals = 7 ∧ s.vm.findClass R_law = some m.cls ∧ (∀ w ∈ lw_tbl, w.before #[Value.ref b] s = true) ∧ va_X b L xs s s.heap ∧ b < s.heap.size ∧ meth.locks = false ∧ (Jvm.Cond.and given_1 narrow_1).before #[Value.ref b] s = true
end
section
/-! WORLDS AS FUNCTIONS. M a = some e: the cell e lies at the address a. A list of the kit's own kind stands behind it (gw_L), so every row of the kit lifts. One fixed set of addresses for all methods: those from b0 on (b0: the heap's size at the law's entry). -/
abbrev gw_M : Type := Nat → Option va_E
/-- the classes' numbers and slots; the array classes' numbers; b0; where ArrayList's empty array lies; where the class object of Object[] lies -/
abbrev gw_C : Type := va_G × (Nat → ClassId) × Nat × Nat × Nat
abbrev gw_A (K : gw_C) : Nat → Prop := fun q => K.2.2.1 ≤ q
def gw_up (M : gw_M) (a : Nat) (e : va_E) : gw_M := fun q => if q = a then some e else M q
theorem gw_s {M : gw_M} {a : Nat} {e : va_E} : gw_up M a e a = some e := if_pos rfl
theorem gw_n {M : gw_M} {a q : Nat} {e : va_E} (h : q ≠ a) : gw_up M a e q = M q := if_neg h
theorem gw_k {M : gw_M} {a q : Nat} {e f : va_E} (h : q ≠ a) (hq : M q = some f) : gw_up M a e q = some f := (gw_n h).trans hq
/-- a cell that is there, beside a new one -/
theorem gw_o {M : gw_M} {a q : Nat} {e f : va_E} (h : M a = none) (hq : M q = some f) : gw_up M a e q = some f := gw_k (fun z => by rw [z, h] at hq; cases hq) hq
theorem gw_ne {M : gw_M} {a q : Nat} {f : va_E} (h : M a = none) (hq : M q = some f) : q ≠ a := fun z => by rw [z, h] at hq; cases hq
theorem gw_uu {M : gw_M} {a : Nat} {e f : va_E} : gw_up (gw_up M a e) a f = gw_up M a f := by
  funext q
  unfold gw_up
  split <;> rfl
theorem gw_same {M : gw_M} {a : Nat} {e : va_E} (h : M a = some e) : gw_up M a e = M := by
  funext q
  unfold gw_up
  split
  · next z => rw [z, h]
  · rfl
def gw_L (M : gw_M) (ws : va_W) : Prop := ∀ (a : Nat) (e : va_E), M a = some e ↔ ∃ k : Nat, ws[k]? = some (a, e)
theorem gw_L.set {M : gw_M} {ws : va_W} {A : Nat → Prop} {a k : Nat} {e0 e : va_E} (h : gw_L M ws) (hD : va_D A ws) (hk : ws[k]? = some (a, e0)) : gw_L (gw_up M a e) (ws.set k (a, e)) := by
  intro b f
  have hlt : k < ws.length := (List.getElem?_eq_some_iff.mp hk).1
  by_cases hb : b = a
  · subst hb
    rw [gw_s]
    constructor
    · intro q
      cases q
      exact ⟨k, by rw [List.getElem?_set_self hlt]⟩
    · rintro ⟨j, hj⟩
      by_cases hjk : k = j
      · subst hjk
        rw [List.getElem?_set_self hlt] at hj
        cases hj
        rfl
      · rw [List.getElem?_set_ne hjk] at hj
        exact absurd (hD.1 k j _ _ hk hj rfl) hjk
  · rw [gw_n hb, h b f]
    constructor
    · rintro ⟨j, hj⟩
      have hjk : k ≠ j := fun q => hb (by subst q; rw [hk] at hj; cases hj; rfl)
      exact ⟨j, by rw [List.getElem?_set_ne hjk]; exact hj⟩
    · rintro ⟨j, hj⟩
      have hjk : k ≠ j := fun q => hb (by subst q; rw [List.getElem?_set_self hlt] at hj; cases hj; rfl)
      rw [List.getElem?_set_ne hjk] at hj
      exact ⟨j, hj⟩
theorem gw_L.push {M : gw_M} {ws : va_W} {A : Nat → Prop} {a : Nat} {e : va_E} (h : gw_L M ws) (hD : va_D A (ws ++ [(a, e)])) : M a = none ∧ gw_L (gw_up M a e) (ws ++ [(a, e)]) := by
  have hl : (ws ++ [(a, e)])[ws.length]? = some (a, e) := by simp
  have hno : ∀ (k : Nat) (f : va_E), ws[k]? ≠ some (a, f) := by
    intro k f hk
    have hlt : k < ws.length := (List.getElem?_eq_some_iff.mp hk).1
    have h1 : (ws ++ [(a, e)])[k]? = some (a, f) := by rw [List.getElem?_append_left hlt]; exact hk
    have h2 := hD.1 k ws.length _ _ h1 hl rfl
    omega
  have hn : M a = none := by
    cases hm : M a with
    | none => rfl
    | some f =>
      obtain ⟨k, hk⟩ := (h a f).mp hm
      exact absurd hk (hno k f)
  refine ⟨hn, fun b f => ?_⟩
  by_cases hb : b = a
  · subst hb
    rw [gw_s]
    constructor
    · intro q
      cases q
      exact ⟨_, hl⟩
    · rintro ⟨j, hj⟩
      have hjl : j < (ws ++ [(b, e)]).length := (List.getElem?_eq_some_iff.mp hj).1
      have := hD.1 j ws.length _ _ hj hl rfl
      subst this
      rw [hl] at hj
      cases hj
      rfl
  · rw [gw_n hb, h b f]
    constructor
    · rintro ⟨j, hj⟩
      have hlt : j < ws.length := (List.getElem?_eq_some_iff.mp hj).1
      exact ⟨j, by rw [List.getElem?_append_left hlt]; exact hj⟩
    · rintro ⟨j, hj⟩
      by_cases hlt : j < ws.length
      · rw [List.getElem?_append_left hlt] at hj
        exact ⟨j, hj⟩
      · rw [List.getElem?_append_right (by omega)] at hj
        have hz : j - ws.length < 1 := (List.getElem?_eq_some_iff.mp hj).1
        rw [show j - ws.length = 0 by omega] at hj
        cases hj
        exact absurd rfl hb
/-- what a body knows of its heap: the world M, nothing below b0 changed since H0 -/
def gw_B (K : gw_C) (M : gw_M) (H0 H : Heap) (locs : List Loc) : Prop := ∃ ws : va_W, gw_L M ws ∧ va_P K.1 vwCl ws H ∧ va_D (gw_A K) ws ∧ va_S (gw_A K) H0 H locs ∧ K.2.2.1 ≤ H0.size
theorem gw_B.S {K : gw_C} {M : gw_M} {H0 H : Heap} {locs : List Loc} (h : gw_B K M H0 H locs) : va_S (gw_A K) H0 H locs := by
  obtain ⟨_, -, -, -, h, -⟩ := h
  exact h
theorem gw_B.b0 {K : gw_C} {M : gw_M} {H0 H : Heap} {locs : List Loc} (h : gw_B K M H0 H locs) : K.2.2.1 ≤ H0.size := by
  obtain ⟨_, -, -, -, -, h⟩ := h
  exact h
theorem gw_B.put {K : gw_C} {M : gw_M} {ws : va_W} {H0 H1 : Heap} {locs1 : List Loc} {a k : Nat} {e0 e : va_E} (hL : gw_L M ws) (hD0 : va_D (gw_A K) ws) (hk : ws[k]? = some (a, e0)) (h0 : K.2.2.1 ≤ H0.size) (hP : va_P K.1 vwCl (ws.set k (a, e)) H1) (hD : va_D (gw_A K) (ws.set k (a, e))) (hS : va_S (gw_A K) H0 H1 locs1) : gw_B K (gw_up M a e) H0 H1 locs1 :=
  ⟨_, hL.set hD0 hk, hP, hD, hS, h0⟩
section GwRows
variable {p : Program} {l : Launch} {e : Env} {R : Room} {s : State} {m : MethodId} {args : Array Value} {below : List Frame} {meth : Method} {c : Code} {H : Heap} {locs : List Loc} {cells slots : Nat} {Q : State → Prop}
variable {cc : ByteArray} {pc : Nat} {ls : Array Slot} {rest : List Value} {K : gw_C} {M : gw_M} {a : Nat} {tys : List (ClassId × FieldType)} {H0 : Heap}
theorem gw_get (hexec : p.tables.exec = Jvm.exec) (hb : c.code = cc) {own ref C : String} {T : u_T} {N ci index : Nat} {Ts : List Cond} (hts : ∀ w ∈ Ts, w.before args s = true) (hin : ∀ w ∈ u_ws C T N, w ∈ Ts) (hown : s.vm.findClass own = some m.cls) (hK : va_K K.1 vwCl tys s) (hG : gw_B K M H0 H locs) {fs : List Value} (hM : M a = some (.inr (ci, fs))) (hc : vwCl[ci]? = some (C, T, N)) (k : Nat) (hk : k < N) (hlink : (Cond.fieldLink own index ref (T k).2.1 (T k).2.2.1).before args s = true) (hsame : ∀ x, s.fieldFound? (T k).1 (T k).2.1 (T k).2.2.1 = some x → s.fieldFound? ref (T k).2.1 (T k).2.2.1 = some x) {v : Value} (hv : fs[k]? = some v) (hdg : decode cc pc = .ok (.getfield index, 3))
    (kk : W p l e R s m args below meth c H locs cells slots Q (F0 m (pc + 3) ls (v :: rest))) : W p l e R s m args below meth c H locs cells slots Q (F0 m pc ls (.ref a :: rest)) := by
  obtain ⟨ws, hL, hP, hD, hS, h0⟩ := hG
  obtain ⟨q0, hq⟩ := (hL _ _).mp hM
  exact va_get hexec hb hts hin hown hK hP q0 hq hc k hk hlink hsame hv hdg kk
theorem gw_getN (hexec : p.tables.exec = Jvm.exec) (hb : c.code = cc) {own ref C host : String} {T : u_T} {N ci index : Nat} {Ts : List Cond} (hts : ∀ w ∈ Ts, w.before args s = true) (hin : ∀ w ∈ u_ws C T N, w ∈ Ts) (hown : s.vm.findClass own = some m.cls) (hK : va_K K.1 vwCl tys s) (hG : gw_B K M H0 H locs) {fs : List Value} (hM : M a = some (.inr (ci, fs))) (hc : vwCl[ci]? = some (C, T, N)) (k : Nat) (hk : k < N) (hlink : (Cond.fieldLinkNest own index ref (T k).2.1 (T k).2.2.1 host).before args s = true) (hsame : ∀ x, s.fieldFound? (T k).1 (T k).2.1 (T k).2.2.1 = some x → s.fieldFound? ref (T k).2.1 (T k).2.2.1 = some x) {v : Value} (hv : fs[k]? = some v) (hdg : decode cc pc = .ok (.getfield index, 3))
    (kk : W p l e R s m args below meth c H locs cells slots Q (F0 m (pc + 3) ls (v :: rest))) : W p l e R s m args below meth c H locs cells slots Q (F0 m pc ls (.ref a :: rest)) := by
  obtain ⟨ws, hL, hP, hD, hS, h0⟩ := hG
  obtain ⟨q0, hq⟩ := (hL _ _).mp hM
  exact va_getN hexec hb hts hin hown hK hP q0 hq hc k hk hlink hsame hv hdg kk
theorem gw_put (hexec : p.tables.exec = Jvm.exec) (hb : c.code = cc) {own ref C : String} {T : u_T} {N ci index : Nat} {Ts : List Cond} (hts : ∀ w ∈ Ts, w.before args s = true) (hin : ∀ w ∈ u_ws C T N, w ∈ Ts) (ty0 : Nat → FieldType) (hty : ∀ k, k < N → parseFieldDescriptor (T k).2.2.1 = some (ty0 k)) (hnm : ∀ a, a < N → ∀ b, b < N → a ≠ b → (T a).2.1 ≠ (T b).2.1) (hown : s.vm.findClass own = some m.cls) (hK : va_K K.1 vwCl tys s) (hG : gw_B K M H0 H locs) {fs : List Value} (hM : M a = some (.inr (ci, fs))) (hc : vwCl[ci]? = some (C, T, N)) (k : Nat) (hk : k < N) (hlink : (Cond.fieldLink own index ref (T k).2.1 (T k).2.2.1).before args s = true) (hsame : ∀ x, s.fieldFound? (T k).1 (T k).2.1 (T k).2.2.1 = some x → s.fieldFound? ref (T k).2.1 (T k).2.2.1 = some x) (hfin : (T k).2.2.2 = false) {ty : FieldType} {v : Value} (hd : parseFieldDescriptor (T k).2.2.1 = some ty) (hn : narrow ty v = v) (hfit : fits ty v = true) (hl : k < fs.length)
    (hdg : decode cc pc = .ok (.putfield index, 3)) (kk : ∀ (H1 : Heap) (locs1 : List Loc), gw_B K (gw_up M a (.inr (ci, fs.set k v))) H0 H1 locs1 → W p l e R s m args below meth c H1 locs1 cells slots Q (F0 m (pc + 3) ls rest)) : W p l e R s m args below meth c H locs cells slots Q (F0 m pc ls (v :: .ref a :: rest)) := by
  obtain ⟨ws, hL, hP, hD, hS, h0⟩ := hG
  obtain ⟨q0, hq⟩ := (hL _ _).mp hM
  exact va_put hexec hb hts hin ty0 hty hnm hown hK hP hD hS q0 hq hc k hk hlink hsame hfin hd hn hfit hl hdg (fun H1 locs1 hP1 hD1 hS1 => kk H1 locs1 (gw_B.put hL hD hq h0 hP1 hD1 hS1))
theorem gw_putF (hexec : p.tables.exec = Jvm.exec) (hb : c.code = cc) {own ref C : String} {T : u_T} {N ci index : Nat} {Ts : List Cond} (hts : ∀ w ∈ Ts, w.before args s = true) (hin : ∀ w ∈ u_ws C T N, w ∈ Ts) (ty0 : Nat → FieldType) (hty : ∀ k, k < N → parseFieldDescriptor (T k).2.2.1 = some (ty0 k)) (hnm : ∀ a, a < N → ∀ b, b < N → a ≠ b → (T a).2.1 ≠ (T b).2.1) (hown : s.vm.findClass own = some m.cls) (hK : va_K K.1 vwCl tys s) (hG : gw_B K M H0 H locs) {fs : List Value} (hM : M a = some (.inr (ci, fs))) (hc : vwCl[ci]? = some (C, T, N)) (k : Nat) (hk : k < N) (hlink : (Cond.fieldLink own index ref (T k).2.1 (T k).2.2.1).before args s = true) (hsame : ∀ x, s.fieldFound? (T k).1 (T k).2.1 (T k).2.2.1 = some x → s.fieldFound? ref (T k).2.1 (T k).2.2.1 = some x) (hfin : (T k).2.2.2 = true) (hin2 : meth.name = "<init>") (hdecl : (T k).1 = own) {ty : FieldType} {v : Value} (hd : parseFieldDescriptor (T k).2.2.1 = some ty) (hn : narrow ty v = v) (hfit : fits ty v = true) (hl : k < fs.length)
    (hdg : decode cc pc = .ok (.putfield index, 3)) (kk : ∀ (H1 : Heap) (locs1 : List Loc), gw_B K (gw_up M a (.inr (ci, fs.set k v))) H0 H1 locs1 → W p l e R s m args below meth c H1 locs1 cells slots Q (F0 m (pc + 3) ls rest)) : W p l e R s m args below meth c H locs cells slots Q (F0 m pc ls (v :: .ref a :: rest)) := by
  obtain ⟨ws, hL, hP, hD, hS, h0⟩ := hG
  obtain ⟨q0, hq⟩ := (hL _ _).mp hM
  exact va_putF hexec hb hts hin ty0 hty hnm hown hK hP hD hS q0 hq hc k hk hlink hsame hfin hin2 hdecl hd hn hfit hl hdg (fun H1 locs1 hP1 hD1 hS1 => kk H1 locs1 (gw_B.put hL hD hq h0 hP1 hD1 hS1))
theorem gw_iald (hexec : p.tables.exec = Jvm.exec) (hb : c.code = cc) (hK : va_K K.1 vwCl tys s) (hG : gw_B K M H0 H locs) {cA : ClassId} {n : Nat} {f : Nat → Int32} (hM : M a = some (.inl (cA, n, .inl f))) (t0 : Nat) (ht : tys[t0]? = some (cA, .int)) {i : Int32} (hin : vp_in i n) (hdg : decode cc pc = .ok (.iaload, 1))
    (kk : W p l e R s m args below meth c H locs cells slots Q (F0 m (pc + 1) ls (.int (f i.toNatClampNeg) :: rest))) : W p l e R s m args below meth c H locs cells slots Q (F0 m pc ls (.int i :: .ref a :: rest)) := by
  obtain ⟨ws, hL, hP, hD, hS, h0⟩ := hG
  obtain ⟨q0, hq⟩ := (hL _ _).mp hM
  exact va_iald hexec hb hK hP q0 t0 hq ht hin hdg kk
theorem gw_lald (hexec : p.tables.exec = Jvm.exec) (hb : c.code = cc) (hK : va_K K.1 vwCl tys s) (hG : gw_B K M H0 H locs) {cA : ClassId} {n : Nat} {f : Nat → Int64} (hM : M a = some (.inl (cA, n, .inr (.inl f)))) (t0 : Nat) (ht : tys[t0]? = some (cA, .long)) {i : Int32} (hin : vp_in i n) (hdg : decode cc pc = .ok (.laload, 1))
    (kk : W p l e R s m args below meth c H locs cells slots Q (F0 m (pc + 1) ls (.long (f i.toNatClampNeg) :: rest))) : W p l e R s m args below meth c H locs cells slots Q (F0 m pc ls (.int i :: .ref a :: rest)) := by
  obtain ⟨ws, hL, hP, hD, hS, h0⟩ := hG
  obtain ⟨q0, hq⟩ := (hL _ _).mp hM
  exact va_lald hexec hb hK hP q0 t0 hq ht hin hdg kk
theorem gw_aldq (hexec : p.tables.exec = Jvm.exec) (hb : c.code = cc) (hK : va_K K.1 vwCl tys s) (hG : gw_B K M H0 H locs) {cA : ClassId} {C : String} {n : Nat} {f : Nat → Option Nat} (hM : M a = some (.inl (cA, n, .inr (.inr (.inr (.inr f)))))) (t0 : Nat) (ht : tys[t0]? = some (cA, .object C)) {i : Int32} (hin : vp_in i n) (hdg : decode cc pc = .ok (.aaload, 1))
    (kk : W p l e R s m args below meth c H locs cells slots Q (F0 m (pc + 1) ls (va_rf (f i.toNatClampNeg) :: rest))) : W p l e R s m args below meth c H locs cells slots Q (F0 m pc ls (.int i :: .ref a :: rest)) := by
  obtain ⟨ws, hL, hP, hD, hS, h0⟩ := hG
  obtain ⟨q0, hq⟩ := (hL _ _).mp hM
  exact va_aldq hexec hb hK hP q0 t0 hq ht hin hdg kk
theorem gw_iast (hexec : p.tables.exec = Jvm.exec) (hb : c.code = cc) (hK : va_K K.1 vwCl tys s) (hG : gw_B K M H0 H locs) {cA : ClassId} {n : Nat} {f : Nat → Int32} (hM : M a = some (.inl (cA, n, .inl f))) (t0 : Nat) (ht : tys[t0]? = some (cA, .int)) {i x : Int32} (hin : vp_in i n) (hdg : decode cc pc = .ok (.iastore, 1))
    (kk : ∀ (H1 : Heap) (locs1 : List Loc), gw_B K (gw_up M a (.inl (cA, n, .inl (upd f i.toNatClampNeg x)))) H0 H1 locs1 → W p l e R s m args below meth c H1 locs1 cells slots Q (F0 m (pc + 1) ls rest)) : W p l e R s m args below meth c H locs cells slots Q (F0 m pc ls (.int x :: .int i :: .ref a :: rest)) := by
  obtain ⟨ws, hL, hP, hD, hS, h0⟩ := hG
  obtain ⟨q0, hq⟩ := (hL _ _).mp hM
  exact va_iast hexec hb hK hP hD hS q0 t0 hq ht hin hdg (fun H1 locs1 hP1 hD1 hS1 => kk H1 locs1 (gw_B.put hL hD hq h0 hP1 hD1 hS1))
theorem gw_last (hexec : p.tables.exec = Jvm.exec) (hb : c.code = cc) (hK : va_K K.1 vwCl tys s) (hG : gw_B K M H0 H locs) {cA : ClassId} {n : Nat} {f : Nat → Int64} (hM : M a = some (.inl (cA, n, .inr (.inl f)))) (t0 : Nat) (ht : tys[t0]? = some (cA, .long)) {i : Int32} {x : Int64} (hin : vp_in i n) (hdg : decode cc pc = .ok (.lastore, 1))
    (kk : ∀ (H1 : Heap) (locs1 : List Loc), gw_B K (gw_up M a (.inl (cA, n, .inr (.inl (vp_updL f i.toNatClampNeg x))))) H0 H1 locs1 → W p l e R s m args below meth c H1 locs1 cells slots Q (F0 m (pc + 1) ls rest)) : W p l e R s m args below meth c H locs cells slots Q (F0 m pc ls (.long x :: .int i :: .ref a :: rest)) := by
  obtain ⟨ws, hL, hP, hD, hS, h0⟩ := hG
  obtain ⟨q0, hq⟩ := (hL _ _).mp hM
  exact va_last hexec hb hK hP hD hS q0 t0 hq ht hin hdg (fun H1 locs1 hP1 hD1 hS1 => kk H1 locs1 (gw_B.put hL hD hq h0 hP1 hD1 hS1))
theorem gw_astq (hexec : p.tables.exec = Jvm.exec) (hb : c.code = cc) (hK : va_K K.1 vwCl tys s) (hG : gw_B K M H0 H locs) {cA : ClassId} {r : vw_C} {n v : Nat} {vs : List Value} {f : Nat → Option Nat} (hM : M a = some (.inl (cA, n, .inr (.inr (.inr (.inr f)))))) (t0 : Nat) (ht : tys[t0]? = some (cA, .object r.1)) (ci : Nat) (hv : M v = some (.inr (ci, vs))) (hc : vwCl[ci]? = some r) {i : Int32} (hin : vp_in i n) (hdg : decode cc pc = .ok (.aastore, 1))
    (kk : ∀ (H1 : Heap) (locs1 : List Loc), gw_B K (gw_up M a (.inl (cA, n, .inr (.inr (.inr (.inr (va_up f i.toNatClampNeg (some v)))))))) H0 H1 locs1 → W p l e R s m args below meth c H1 locs1 cells slots Q (F0 m (pc + 1) ls rest)) : W p l e R s m args below meth c H locs cells slots Q (F0 m pc ls (.ref v :: .int i :: .ref a :: rest)) := by
  obtain ⟨ws, hL, hP, hD, hS, h0⟩ := hG
  obtain ⟨q0, hq⟩ := (hL _ _).mp hM
  obtain ⟨qk, hqk⟩ := (hL _ _).mp hv
  exact va_astq hexec hb hK hP hD hS q0 t0 qk ci hq ht hqk hc hin hdg (fun H1 locs1 hP1 hD1 hS1 => kk H1 locs1 (gw_B.put hL hD hq h0 hP1 hD1 hS1))
theorem gw_astqO (hexec : p.tables.exec = Jvm.exec) (hb : c.code = cc) (hK : va_K K.1 vwCl tys s) (hG : gw_B K M H0 H locs) {E : String} {cA : ClassId} {r : vw_C} {n v : Nat} {vs : List Value} {f : Nat → Option Nat} (hM : M a = some (.inl (cA, n, .inr (.inr (.inr (.inr f)))))) (t0 : Nat) (ht : tys[t0]? = some (cA, .object E)) (hca : va_Nw (.castable r.1 E) s) (ci : Nat) (hv : M v = some (.inr (ci, vs))) (hc : vwCl[ci]? = some r) {i : Int32} (hin : vp_in i n) (hdg : decode cc pc = .ok (.aastore, 1))
    (kk : ∀ (H1 : Heap) (locs1 : List Loc), gw_B K (gw_up M a (.inl (cA, n, .inr (.inr (.inr (.inr (va_up f i.toNatClampNeg (some v)))))))) H0 H1 locs1 → W p l e R s m args below meth c H1 locs1 cells slots Q (F0 m (pc + 1) ls rest)) : W p l e R s m args below meth c H locs cells slots Q (F0 m pc ls (.ref v :: .int i :: .ref a :: rest)) := by
  obtain ⟨ws, hL, hP, hD, hS, h0⟩ := hG
  obtain ⟨q0, hq⟩ := (hL _ _).mp hM
  obtain ⟨qk, hqk⟩ := (hL _ _).mp hv
  exact va_astqO hexec hb hK hP hD hS q0 t0 qk ci hq ht hca hqk hc hin hdg (fun H1 locs1 hP1 hD1 hS1 => kk H1 locs1 (gw_B.put hL hD hq h0 hP1 hD1 hS1))
theorem gw_astqN (hexec : p.tables.exec = Jvm.exec) (hb : c.code = cc) (hK : va_K K.1 vwCl tys s) (hG : gw_B K M H0 H locs) {cA : ClassId} {C : String} {n : Nat} {f : Nat → Option Nat} (hM : M a = some (.inl (cA, n, .inr (.inr (.inr (.inr f)))))) (t0 : Nat) (ht : tys[t0]? = some (cA, .object C)) {i : Int32} (hin : vp_in i n) (hdg : decode cc pc = .ok (.aastore, 1))
    (kk : ∀ (H1 : Heap) (locs1 : List Loc), gw_B K (gw_up M a (.inl (cA, n, .inr (.inr (.inr (.inr (va_up f i.toNatClampNeg none))))))) H0 H1 locs1 → W p l e R s m args below meth c H1 locs1 cells slots Q (F0 m (pc + 1) ls rest)) : W p l e R s m args below meth c H locs cells slots Q (F0 m pc ls (.null :: .int i :: .ref a :: rest)) := by
  obtain ⟨ws, hL, hP, hD, hS, h0⟩ := hG
  obtain ⟨q0, hq⟩ := (hL _ _).mp hM
  exact va_astqN hexec hb hK hP hD hS q0 t0 hq ht hin hdg (fun H1 locs1 hP1 hD1 hS1 => kk H1 locs1 (gw_B.put hL hD hq h0 hP1 hD1 hS1))
theorem gw_alen (hexec : p.tables.exec = Jvm.exec) (hb : c.code = cc) (hK : va_K K.1 vwCl tys s) (hG : gw_B K M H0 H locs) {cA : ClassId} {x : vp_A} (hM : M a = some (.inl (cA, x))) (t0 : Nat) {ty : FieldType} (ht : tys[t0]? = some (cA, ty)) {v : Int32} (hv : Int32.ofNat x.1 = v) (hdg : decode cc pc = .ok (.arraylength, 1))
    (kk : W p l e R s m args below meth c H locs cells slots Q (F0 m (pc + 1) ls (.int v :: rest))) : W p l e R s m args below meth c H locs cells slots Q (F0 m pc ls (.ref a :: rest)) := by
  obtain ⟨ws, hL, hP, hD, hS, h0⟩ := hG
  obtain ⟨q0, hq⟩ := (hL _ _).mp hM
  exact va_alen hexec hb hK hP q0 t0 hq ht hv hdg kk
theorem gw_new (hexec : p.tables.exec = Jvm.exec) (hb : c.code = cc) {own C : String} {T : u_T} {N ci index : Nat} {Ts : List Cond} (hts : ∀ w ∈ Ts, w.before args s = true) (hin : ∀ w ∈ u_ws C T N, w ∈ Ts) (ty : Nat → FieldType) (hty : ∀ k, k < N → parseFieldDescriptor (T k).2.2.1 = some (ty k)) (hown : s.vm.findClass own = some m.cls) (hcl : (Cond.classLink own index C).before args s = true) (hinst : (Cond.instantiable C N).before args s = true) (hini : (Cond.initialized C).before args s = true)
    (hK : va_K K.1 vwCl tys s) (hG : gw_B K M H0 H locs) (hc : vwCl[ci]? = some (C, T, N)) {fs : List Value} (hfs : ∀ j, j < N → defaultValue (ty j) = vp_V fs j) (hcells : cells + 1 ≤ R.cells) (hslots : slots + N ≤ R.slots) (hdg : decode cc pc = .ok (.new index, 3))
    (kk : ∀ (q : Nat) (H1 : Heap), M q = none → gw_B K (gw_up M q (.inr (ci, fs))) H0 H1 locs → W p l e R s m args below meth c H1 locs (cells + 1) (slots + N) Q (F0 m (pc + 3) ls (.ref q :: rest))) : W p l e R s m args below meth c H locs cells slots Q (F0 m pc ls rest) := by
  obtain ⟨ws, hL, hP, hD, hS, h0⟩ := hG
  exact va_new hexec hb hts hin ty hty hown hcl hinst hini hK hP hD hS (fun q h => Nat.le_trans h0 h) hc hfs hcells hslots hdg (fun q H1 hP1 hD1 hS1 => kk q H1 (hL.push hD1).1 ⟨_, (hL.push hD1).2, hP1, hD1, hS1, h0⟩)
/-- an array class has one number -/
theorem gw_one {D : va_G} {cl : List vw_C} {cA cB : ClassId} {ty : FieldType} {t0 : Nat} {x : ClassId × FieldType} (hK : va_K D cl tys s) (hK2 : va_K D cl (tys ++ [x]) s) (hx : x = (cB, ty)) (ht : tys[t0]? = some (cA, ty)) : cB = cA := by
  subst hx
  have h1 := (hK.2 t0 _ ht).2
  have h2 := (hK2.2 tys.length (cB, ty) (by simp)).2
  cases ty with
  | object C =>
    obtain ⟨_, _, -, -, -, e1⟩ := h1
    obtain ⟨_, _, -, -, -, e2⟩ := h2
    exact Option.some.inj (e2.symm.trans e1)
  | _ => exact Option.some.inj (Eq.trans (Eq.symm h2) h1)
theorem gw_newa (hexec : p.tables.exec = Jvm.exec) (hb : c.code = cc) {atype : ArrayType} (harr : (Cond.arrayClass (newarray.typeOf atype)).before args s = true) {ty : FieldType} (hty : newarray.typeOf atype = ty) (hK : va_K K.1 vwCl tys s) (hG : gw_B K M H0 H locs) (t0 : Nat) {cA : ClassId} (ht : tys[t0]? = some (cA, ty))
    {n : Int32} {N' : Nat} {a0 : vp_A} (ha : ∀ cA : ClassId, vp_cell cA a0 = arrV cA N' (fun _ => defaultValue ty)) (hn : ¬ n < 0) (hN : n.toNatClampNeg = N') (hbytes : N' * componentBytes ty ≤ 536870912) (hcells : cells + 1 ≤ R.cells) (hslots : slots + N' ≤ R.slots) (hdg : decode cc pc = .ok (.newarray atype, 2))
    (kk : ∀ (q : Nat) (H1 : Heap), M q = none → gw_B K (gw_up M q (.inl (cA, a0))) H0 H1 locs →
      W p l e R s m args below meth c H1 locs (cells + 1) (slots + N') Q (F0 m (pc + 2) ls (.ref q :: rest))) : W p l e R s m args below meth c H locs cells slots Q (F0 m pc ls (.int n :: rest)) := by
  obtain ⟨ws, hL, hP, hD, hS, h0⟩ := hG
  refine va_newa hexec hb harr hty hK hP hD hS (fun q h => Nat.le_trans h0 h) ha hn hN hbytes hcells hslots hdg (fun q cB H1 hK2 hP1 hD1 hS1 => ?_)
  have hE := gw_one hK hK2 rfl ht
  subst hE
  exact kk q H1 (hL.push hD1).1 ⟨_, (hL.push hD1).2, hP1, hD1, hS1, h0⟩
theorem gw_newq (hexec : p.tables.exec = Jvm.exec) (hb : c.code = cc) {own C : String} {index : Nat} (hown : s.vm.findClass own = some m.cls) (hclink : (Cond.classLink own index C).before args s = true) (hover : va_AO C s) (hK : va_K K.1 vwCl tys s) (hG : gw_B K M H0 H locs) (t0 : Nat) {cA : ClassId} (ht : tys[t0]? = some (cA, .object C))
    {n : Int32} {N' : Nat} (hn : ¬ n < 0) (hN : n.toNatClampNeg = N') (hbytes : N' * 4 ≤ 536870912) (hcells : cells + 1 ≤ R.cells) (hslots : slots + N' ≤ R.slots) (hdg : decode cc pc = .ok (.anewarray index, 3))
    (kk : ∀ (q : Nat) (H1 : Heap), M q = none → gw_B K (gw_up M q (.inl (cA, N', .inr (.inr (.inr (.inr (fun _ => none))))))) H0 H1 locs →
      W p l e R s m args below meth c H1 locs (cells + 1) (slots + N') Q (F0 m (pc + 3) ls (.ref q :: rest))) : W p l e R s m args below meth c H locs cells slots Q (F0 m pc ls (.int n :: rest)) := by
  obtain ⟨ws, hL, hP, hD, hS, h0⟩ := hG
  refine va_newq hexec hb hown hclink hover hK hP hD hS (fun q h => Nat.le_trans h0 h) hn hN hbytes hcells hslots hdg (fun q cB H1 hK2 hP1 hD1 hS1 => ?_)
  have hE := gw_one hK hK2 rfl ht
  subst hE
  exact kk q H1 (hL.push hD1).1 ⟨_, (hL.push hD1).2, hP1, hD1, hS1, h0⟩
end GwRows
end
section
/-! WHAT EVERY CONTRACT HAS AT ITS START AND ITS END: the world, the tables' facts, the statics. -/
abbrev gw_tys (K : gw_C) : List (ClassId × FieldType) := [(K.2.1 0, .int), (K.2.1 1, .long), (K.2.1 2, .object "DotGossip$Holding"), (K.2.1 3, .object "java/lang/Object")]
def gw_dec (C : String) : Cond := .declares ⟨C, "<init>", "()V"⟩
/-- words that a callee's list can't hold -/
def gw_N (U : State) : Prop :=
  (va_Nw (gw_dec "java/lang/RuntimeException") U ∧ va_Nw (gw_dec "java/lang/Exception") U ∧ va_Nw (gw_dec "java/lang/Throwable") U) ∧
  (va_Nw (.castable "java/lang/IllegalArgumentException" "java/lang/IllegalArgumentException") U ∧ va_Nw (.castable "java/lang/IllegalStateException" "java/lang/IllegalStateException") U) ∧
  (va_Nw (.castable "DotGossip$Message" "DotGossip$Message") U ∧ va_Nw (.castable "DotGossip$Message" "java/lang/Object") U) ∧
  (va_AO "DotGossip$Holding" U ∧ va_AO "java/lang/Object" U) ∧ va_Nc "java/lang/IllegalStateException" "java/lang/IllegalArgumentException" U
theorem gw_nD {x : MethodName} {u U : State} (hvm : u.vm.Alike U.vm) (h : va_Nw (.declares x) u) : va_Nw (.declares x) U := va_tabs rfl (rfl : (u.setVm U.vm).vm = U.vm) (by rw [Cond.declares_setVm hvm]; exact h)
theorem gw_nC {C T : String} {u U : State} (hvm : u.vm.Alike U.vm) (h : va_Nw (.castable C T) u) : va_Nw (.castable C T) U := va_tabs rfl (rfl : (u.setVm U.vm).vm = U.vm) (by rw [Cond.castable_setVm hvm]; exact h)
theorem gw_N.moved {u U : State} (hvm : u.vm.Alike U.vm) (h : gw_N u) : gw_N U := by
  obtain ⟨⟨a1, a2, a3⟩, ⟨b1, b2⟩, ⟨c1, c2⟩, ⟨d1, d2⟩, e1⟩ := h
  exact ⟨⟨gw_nD hvm a1, gw_nD hvm a2, gw_nD hvm a3⟩, ⟨gw_nC hvm b1, gw_nC hvm b2⟩, ⟨gw_nC hvm c1, gw_nC hvm c2⟩, ⟨va_AO.moved hvm d1, va_AO.moved hvm d2⟩, va_Nc.moved hvm e1⟩
def gw_S (K : gw_C) (U : State) (H : Heap) : Prop :=
  (vx_Zq Bundle.tN "UNASSIGNED_STACK" Bundle.steD (gw_A K) U H ∧ vx_Zq Bundle.tN "SUPPRESSED_SENTINEL" Bundle.listD (gw_A K) U H) ∧
  (va_Z "java/util/ArrayList" "DEFAULTCAPACITY_EMPTY_ELEMENTDATA" "[Ljava/lang/Object;" (.ref K.2.2.2.1) (gw_A K) U H ∧ va_T (.object "java/lang/Object") K.2.2.2.1 0 (fun _ => .null) (gw_A K) U H) ∧
  (va_Mi "[Ljava/lang/Object;" K.2.2.2.2 U ∧ va_Dc U)
theorem gw_S.moved {K : gw_C} {u U : State} {H : Heap} (hvm : u.vm.Alike U.vm) (h : gw_S K u H) : gw_S K U H := by
  obtain ⟨⟨a1, a2⟩, ⟨b1, b2⟩, c1, c2⟩ := h
  exact ⟨⟨a1.moved hvm, a2.moved hvm⟩, ⟨b1.moved hvm, b2.moved hvm⟩, c1.moved hvm, c2.moved hvm⟩
theorem gw_S.kept {K : gw_C} {U : State} {H H1 : Heap} (h : gw_S K U H) (hq : ∀ a : Nat, a < H.size → ¬ gw_A K a → H1[a]? = H[a]?) : gw_S K U H1 := by
  obtain ⟨⟨a1, a2⟩, ⟨b1, b2⟩, c1, c2⟩ := h
  exact ⟨⟨a1.kept hq, a2.kept hq⟩, ⟨b1.kept hq, b2.kept hq⟩, c1, c2⟩
/-- what a body knows of the tables and statics, at its own start -/
def gw_T (K : gw_C) (s : State) : Prop := va_K K.1 vwCl (gw_tys K) s ∧ gw_S K s s.heap ∧ gw_N s
theorem gw_T.K {K : gw_C} {s : State} (h : gw_T K s) : va_K K.1 vwCl (gw_tys K) s := h.1
/-- THE WORLD AT A CONTRACT'S START AND END -/
def gw_I (K : gw_C) (M : gw_M) (U : State) : Prop := (∃ ws : va_W, gw_L M ws ∧ va_P K.1 vwCl ws U.heap ∧ va_D (gw_A K) ws) ∧ K.2.2.1 ≤ U.heap.size ∧ gw_T K U
theorem gw_I.B {K : gw_C} {M : gw_M} {s : State} (h : gw_I K M s) : gw_B K M s.heap s.heap [] := by
  obtain ⟨⟨ws, h1, h2, h3⟩, h4, -⟩ := h
  exact ⟨ws, h1, h2, h3, va_S.rf, h4⟩
theorem gw_T.moved {K : gw_C} {s t : State} {H : Heap} {locs : List Loc} (h : gw_T K s) (hS : va_S (gw_A K) s.heap H locs) (ht : t.heap = H) (hW : s.vm.Alike t.vm) : gw_T K t :=
  ⟨va_K.moved hW h.1, by rw [ht]; exact (h.2.1.moved hW).kept hS.2.1, h.2.2.moved hW⟩
theorem gw_B.I {K : gw_C} {M : gw_M} {s t : State} {H : Heap} {locs : List Loc} (h : gw_B K M s.heap H locs) (hT : gw_T K s) (ht : t.heap = H) (hW : s.vm.Alike t.vm) : gw_I K M t := by
  obtain ⟨ws, h1, h2, h3, h4, h5⟩ := h
  exact ⟨⟨ws, h1, by rw [ht]; exact h2, h3⟩, by rw [ht]; exact Nat.le_trans h5 h4.1, hT.moved h4 ht hW⟩
theorem gw_blind {K : gw_C} {M : gw_M} {av : List Value} : FrameBlind (va_Pc av (gw_I K M)) := by
  intro a U g mk q
  obtain ⟨q0, ⟨ws, q1, q2, q3⟩, q4, q5, q6, q7⟩ := q
  exact ⟨q0, ⟨ws, q1, q2, q3⟩, q4, va_K.moved (u := U) (U := U.calling g mk a) (Vm.Alike.refl U.vm) q5, gw_S.moved (u := U) (U := U.calling g mk a) (Vm.Alike.refl U.vm) q6, q7⟩
theorem gw_preS {K : gw_C} {M : gw_M} {s : State} {H : Heap} {locs : List Loc} (hG : gw_B K M s.heap H locs) (hT : gw_T K s) {As : List Value} : PreS s H (va_Pc As (gw_I K M)) As :=
  ⟨gw_blind, fun _ hU hW => ⟨rfl, hG.I hT hU hW.alike⟩⟩
theorem gw_preV {K : gw_C} {M : gw_M} {s : State} {H : Heap} {locs : List Loc} (hG : gw_B K M s.heap H locs) (hT : gw_T K s) {As : List Value} {b ci : Nat} {fs : List Value} {r : vw_C} (hM : M b = some (.inr (ci, fs))) (hc : vwCl[ci]? = some r) : PreV s H r.1 b (va_Pc (.ref b :: As) (gw_I K M)) As := by
  refine ⟨gw_blind, ?_, fun _ hU hW => ⟨rfl, hG.I hT hU hW.alike⟩⟩
  obtain ⟨ws, hL, hP, hD, hS, h0⟩ := hG
  obtain ⟨q0, hq⟩ := (hL _ _).mp hM
  exact va_recv hT.1 hP hc hq
section GwEnds
variable {p : Program} {l : Launch} {e : Env} {R : Room} {s : State} {m : MethodId} {args : Array Value} {below : List Frame} {meth : Method} {c : Code} {H : Heap} {locs : List Loc} {cells slots : Nat} {Q : State → Prop}
variable {cc : ByteArray} {pc : Nat} {ls : Array Slot} {rest st0 : List Value} {K : gw_C} {M : gw_M} {a : Array Value} {mc ms : Nat}
theorem gw_calli {post : Int32 → gw_M → Prop} (hr : va_Run p l e R s m args below meth c H locs cells slots mc ms (F0 m pc ls st0) rest (va_Qi post (gw_I K) (gw_A K) a) (gw_A K)) (hG : gw_B K M s.heap H locs)
    (kk : ∀ (r : Int32) (M1 : gw_M) (H1 : Heap) (locs1 : List Loc), post r M1 → gw_B K M1 s.heap H1 locs1 → W p l e R s m args below meth c H1 locs1 (cells + mc) (slots + ms) Q (F0 m (pc + 3) ls (.int r :: rest))) : W p l e R s m args below meth c H locs cells slots Q (F0 m pc ls st0) := by
  refine va_calli hr hG.S (fun q _ h => h) (fun q h => h) (fun r u t H1 locs1 ht hvm hw hB hz hk hS => ?_)
  obtain ⟨⟨ws, h1, h2, h3⟩, h4, -⟩ := hB
  rw [ht] at h2
  exact kk r u H1 locs1 hw ⟨ws, h1, h2, h3, hS, hG.b0⟩
theorem gw_callv {post : gw_M → Prop} (hr : va_Run p l e R s m args below meth c H locs cells slots mc ms (F0 m pc ls st0) rest (va_Qv post (gw_I K) (gw_A K) a) (gw_A K)) (hG : gw_B K M s.heap H locs)
    (kk : ∀ (M1 : gw_M) (H1 : Heap) (locs1 : List Loc), post M1 → gw_B K M1 s.heap H1 locs1 → W p l e R s m args below meth c H1 locs1 (cells + mc) (slots + ms) Q (F0 m (pc + 3) ls rest)) : W p l e R s m args below meth c H locs cells slots Q (F0 m pc ls st0) := by
  refine va_callv hr hG.S (fun q _ h => h) (fun q h => h) (fun u t H1 locs1 ht hvm hw hB hz hk hS => ?_)
  obtain ⟨⟨ws, h1, h2, h3⟩, h4, -⟩ := hB
  rw [ht] at h2
  exact kk u H1 locs1 hw ⟨ws, h1, h2, h3, hS, hG.b0⟩
/-- a callee that answers a reference (some) or null (none) -/
theorem gw_callq {post : Option Nat → gw_M → Prop} (hr : va_Run p l e R s m args below meth c H locs cells slots mc ms (F0 m pc ls st0) rest (va_Qq post (gw_I K) (gw_A K) a) (gw_A K)) (hG : gw_B K M s.heap H locs)
    (kk : ∀ (r : Option Nat) (M1 : gw_M) (H1 : Heap) (locs1 : List Loc), post r M1 → gw_B K M1 s.heap H1 locs1 → W p l e R s m args below meth c H1 locs1 (cells + mc) (slots + ms) Q (F0 m (pc + 3) ls (va_rf r :: rest))) : W p l e R s m args below meth c H locs cells slots Q (F0 m pc ls st0) := by
  refine va_callq hr hG.S (fun q _ h => h) (fun q h => h) (fun r u t H1 locs1 ht hvm hw hB hz hk hS => ?_)
  obtain ⟨⟨ws, h1, h2, h3⟩, h4, -⟩ := hB
  rw [ht] at h2
  exact kk r u H1 locs1 hw ⟨ws, h1, h2, h3, hS, hG.b0⟩
theorem gw_iret {v : Int32} {post : Int32 → gw_M → Prop} (hexec : p.tables.exec = Jvm.exec) (hb : c.code = cc) (hr : meth.sig.returnType = some .int) (hlocks : meth.locks = false) (hG : gw_B K M s.heap H locs) (hT : gw_T K s) (hc : cells ≤ mc) (hs : slots ≤ ms) (hdg : decode cc pc = .ok (.ireturn, 1)) (hp : post v M) :
    W p l e R s m args below meth c H locs cells slots (MQ below (va_Qi post (gw_I K) (gw_A K)) args s mc ms (gw_A K)) (F0 m pc ls [.int v]) := by
  refine W.widen (k := mc) (n := ms) hc hs ?_
  exact W.iret hexec hb hr (fun t ht hW => ⟨⟨v, M, rfl, hp, hG.I hT ht hW.alike⟩, hG.S.F ht⟩) hG.S.2.2 hdg hlocks
theorem gw_zret {v : Int32} {post : Int32 → gw_M → Prop} (hexec : p.tables.exec = Jvm.exec) (hb : c.code = cc) (hr : meth.sig.returnType = some .boolean) (hlocks : meth.locks = false) (hG : gw_B K M s.heap H locs) (hT : gw_T K s) (hc : cells ≤ mc) (hs : slots ≤ ms) (hdg : decode cc pc = .ok (.ireturn, 1)) (hv : v = 0 ∨ v = 1) (hp : post v M) :
    W p l e R s m args below meth c H locs cells slots (MQ below (va_Qi post (gw_I K) (gw_A K)) args s mc ms (gw_A K)) (F0 m pc ls [.int v]) := by
  refine W.widen (k := mc) (n := ms) hc hs ?_
  exact W.zret hexec hb hr (by rcases hv with rfl | rfl <;> rfl) (fun t ht hW => ⟨⟨v, M, rfl, hp, hG.I hT ht hW.alike⟩, hG.S.F ht⟩) hG.S.2.2 hdg hlocks
theorem gw_vret {post : gw_M → Prop} (hexec : p.tables.exec = Jvm.exec) (hb : c.code = cc) (hr : meth.sig.returnType = none) (hlocks : meth.locks = false) (hG : gw_B K M s.heap H locs) (hT : gw_T K s) (hc : cells ≤ mc) (hs : slots ≤ ms) (hdg : decode cc pc = .ok (.return_, 1)) (hp : post M) :
    W p l e R s m args below meth c H locs cells slots (MQ below (va_Qv post (gw_I K) (gw_A K)) args s mc ms (gw_A K)) (F0 m pc ls []) := by
  refine W.widen (k := mc) (n := ms) hc hs ?_
  exact W.vret hexec hb hr (fun t ht hW => ⟨⟨M, rfl, hp, hG.I hT ht hW.alike⟩, hG.S.F ht⟩) hG.S.2.2 hdg hlocks
theorem gw_aret {v : Option Nat} {rt : FieldType} {post : Option Nat → gw_M → Prop} (hexec : p.tables.exec = Jvm.exec) (hb : c.code = cc) (hr : meth.sig.returnType = some rt) (hrt : (∃ n, rt = .object n) ∨ ∃ t, rt = .array t) (hlocks : meth.locks = false) (hG : gw_B K M s.heap H locs) (hT : gw_T K s) (hc : cells ≤ mc) (hs : slots ≤ ms) (hdg : decode cc pc = .ok (.areturn, 1)) (hp : post v M) :
    W p l e R s m args below meth c H locs cells slots (MQ below (va_Qq post (gw_I K) (gw_A K)) args s mc ms (gw_A K)) (F0 m pc ls [va_rf v]) := by
  refine W.widen (k := mc) (n := ms) hc hs ?_
  exact W.aret hexec hb hr hrt (va_rf_or v) (fun t ht hW => ⟨⟨v, M, rfl, hp, hG.I hT ht hW.alike⟩, hG.S.F ht⟩) hG.S.2.2 hdg hlocks
end GwEnds
/-- .. where the heap has grown behind it -/
theorem gw_B.Iext {K : gw_C} {M : gw_M} {s t : State} {H : Heap} {locs : List Loc} (h : gw_B K M s.heap H locs) (hT : gw_T K s) (hz : H.size ≤ t.heap.size) (hq : ∀ q : Nat, q < H.size → t.heap[q]? = H[q]?) (hW : s.vm.Alike t.vm) : gw_I K M t ∧ va_F (gw_A K) s t := by
  obtain ⟨ws, h1, h2, h3, h4, h5⟩ := h
  have hS : va_S (gw_A K) s.heap t.heap locs := ⟨Nat.le_trans h4.1 hz, fun q g1 g2 => (hq q (Nat.lt_of_lt_of_le g1 h4.1)).trans (h4.2.1 q g1 g2), h4.2.2⟩
  exact ⟨⟨⟨ws, h1, h2.kept (fun k x hx => hq x.1 ((h2 k x hx).lt)), h3⟩, Nat.le_trans h5 hS.1, hT.moved hS rfl hW⟩, hS.F rfl⟩
/-! METHODS THAT MAY THROW: px E M: what holds where E was thrown -/
def gw_X (K : gw_C) (px : String → gw_M → Prop) : String → State → State → Prop := vx_X (S := gw_M) (fun _ => True) (fun E M t => px E M ∧ gw_I K M t) (gw_A K)
section GwThrows
variable {p : Program} {l : Launch} {e : Env} {R : Room} {s : State} {m : MethodId} {args : Array Value} {below : List Frame} {meth : Method} {c : Code} {H : Heap} {locs : List Loc} {cells slots : Nat} {Q : State → Prop}
variable {cc : ByteArray} {pc : Nat} {ls : Array Slot} {rest st0 : List Value} {K : gw_C} {M : gw_M} {a : Array Value} {mc ms nc ns : Nat} {px py : String → gw_M → Prop} {Qc : Array Value → State → Outcome → State → Prop}
theorem gw_none (h : c.exceptionTable.isEmpty = true) : ∀ x ∈ c.exceptionTable.toList, covers x pc = false := by
  intro x hx
  have h0 : c.exceptionTable = #[] := by simpa using h
  rw [h0] at hx
  cases hx
/-- it isn't caught here -/
theorem gw_out (hemp : c.exceptionTable.isEmpty = true) (hlocks : meth.locks = false) {E : String} {ce : Cell} {q : Addr} (hG : gw_B K M s.heap H locs) (hT : gw_T K s) (hcell : H[q]? = some ce) (hv : ce.vm = .none) (hcl : s.vm.findClass E = some ce.cls) (hx : py E M) (hc : cells ≤ mc) (hs : slots ≤ ms) :
    vx_W p l e R s m args below meth c H locs cells slots (vx_MQ below Qc (gw_X K py) args s mc ms (gw_A K)) (F0 m pc ls rest) q :=
  vx_out (gw_none hemp) hlocks hcell hv hcl (fun t ht hvm => ⟨M, trivial, ⟨hx, hG.I hT ht hvm⟩, hG.S.F ht⟩) hG.S.2.2 hc hs
theorem gw_xcalli {post : Int32 → gw_M → Prop} (hr : vx_Run p l e R s m args below meth c H locs cells slots nc ns (F0 m pc ls st0) rest (va_Qi post (gw_I K) (gw_A K) a) (gw_X K px) (gw_A K)) (hG : gw_B K M s.heap H locs)
    (kx : ∀ (E : String) (ce : Cell) (q : Addr) (M1 : gw_M) (H1 : Heap) (locs1 : List Loc), px E M1 → gw_B K M1 s.heap H1 locs1 → H1[q]? = some ce → ce.vm = .none → s.vm.findClass E = some ce.cls → vx_W p l e R s m args below meth c H1 locs1 (cells + nc) (slots + ns) Q (F0 m pc ls rest) q)
    (kk : ∀ (r : Int32) (M1 : gw_M) (H1 : Heap) (locs1 : List Loc), post r M1 → gw_B K M1 s.heap H1 locs1 → W p l e R s m args below meth c H1 locs1 (cells + nc) (slots + ns) Q (F0 m (pc + 3) ls (.int r :: rest))) : W p l e R s m args below meth c H locs cells slots Q (F0 m pc ls st0) := by
  refine vx_calli hr hG.S (fun q _ h => h) (fun q h => h) (fun q _ h => h) (fun E ce q u t H1 locs1 ht hvm _ hB hz hk hS h1 h2 h3 => ?_) (fun r u t H1 locs1 ht hvm hw hB hz hk hS => ?_)
  · obtain ⟨hp, ⟨ws, g1, g2, g3⟩, g4, -⟩ := hB
    rw [ht] at g2
    exact kx E ce q u H1 locs1 hp ⟨ws, g1, g2, g3, hS, hG.b0⟩ h1 h2 h3
  · obtain ⟨⟨ws, g1, g2, g3⟩, g4, -⟩ := hB
    rw [ht] at g2
    exact kk r u H1 locs1 hw ⟨ws, g1, g2, g3, hS, hG.b0⟩
theorem gw_xcallv {post : gw_M → Prop} (hr : vx_Run p l e R s m args below meth c H locs cells slots nc ns (F0 m pc ls st0) rest (va_Qv post (gw_I K) (gw_A K) a) (gw_X K px) (gw_A K)) (hG : gw_B K M s.heap H locs)
    (kx : ∀ (E : String) (ce : Cell) (q : Addr) (M1 : gw_M) (H1 : Heap) (locs1 : List Loc), px E M1 → gw_B K M1 s.heap H1 locs1 → H1[q]? = some ce → ce.vm = .none → s.vm.findClass E = some ce.cls → vx_W p l e R s m args below meth c H1 locs1 (cells + nc) (slots + ns) Q (F0 m pc ls rest) q)
    (kk : ∀ (M1 : gw_M) (H1 : Heap) (locs1 : List Loc), post M1 → gw_B K M1 s.heap H1 locs1 → W p l e R s m args below meth c H1 locs1 (cells + nc) (slots + ns) Q (F0 m (pc + 3) ls rest)) : W p l e R s m args below meth c H locs cells slots Q (F0 m pc ls st0) := by
  refine vx_callv hr hG.S (fun q _ h => h) (fun q h => h) (fun q _ h => h) (fun E ce q u t H1 locs1 ht hvm _ hB hz hk hS h1 h2 h3 => ?_) (fun u t H1 locs1 ht hvm hw hB hz hk hS => ?_)
  · obtain ⟨hp, ⟨ws, g1, g2, g3⟩, g4, -⟩ := hB
    rw [ht] at g2
    exact kx E ce q u H1 locs1 hp ⟨ws, g1, g2, g3, hS, hG.b0⟩ h1 h2 h3
  · obtain ⟨⟨ws, g1, g2, g3⟩, g4, -⟩ := hB
    rw [ht] at g2
    exact kk u H1 locs1 hw ⟨ws, g1, g2, g3, hS, hG.b0⟩
theorem gw_throw0 (hexec : p.tables.exec = Jvm.exec) (hb : c.code = cc) (hl : l.stackTraces = false) {own cls : String} {ik ic : Nat} (hown : s.vm.findClass own = some m.cls) (hcls : Bundle.fit cls = true) (hk : (Cond.classLink own ik cls).before args s = true) (hini : (Cond.initialized cls).before args s = true)
    (hat : ∀ w ∈ (vx_at0 own ic cls ["java/lang/RuntimeException", "java/lang/Exception"]).filter goodWord, w.before args s = true) (hcast : va_Nw (.castable cls cls) s) (hT : gw_T K s) (hG : gw_B K M s.heap H locs) (hsize : ls.size = c.maxLocals)
    (hbad : ∀ w ∈ (vx_at0 own ic cls ["java/lang/RuntimeException", "java/lang/Exception"]).filter (fun w => !goodWord w), w ∈ [gw_dec "java/lang/RuntimeException", gw_dec "java/lang/Exception", gw_dec "java/lang/Throwable", .castable cls cls])
    (hgood : ∀ w ∈ Cond.classLink own ik cls :: Cond.initialized cls :: vx_at0 own ic cls ["java/lang/RuntimeException", "java/lang/Exception"], vx_ot w = true)
    (d0 : decode cc pc = .ok (.new ik, 3)) (d3 : decode cc (pc + 3) = .ok (.dup, 1)) (d4 : decode cc (pc + 4) = .ok (.invokespecial ic, 3)) (d7 : decode cc (pc + 7) = .ok (.athrow, 1)) (hemp : c.exceptionTable.isEmpty = true)
    (hRframes : 5 < R.frames) (hRlocals : (rest.map fun v => v.category).sum + 81 ≤ R.locals) (hRcells : cells + 1 ≤ R.cells) (hRslots : slots + 6 ≤ R.slots) (hlocks : meth.locks = false) (hc : cells + 1 ≤ mc) (hs : slots + 6 ≤ ms) (hx : py cls M) :
    W p l e R s m args below meth c H locs cells slots (vx_MQ below Qc (gw_X K py) args s mc ms (gw_A K)) (F0 m pc ls rest) := by
  obtain ⟨⟨n1, n2, n3⟩, -⟩ := hT.2.2
  refine vx_throw0 (A := gw_A K) (names := ["java/lang/RuntimeException", "java/lang/Exception"]) hexec hb hl hown hcls (by decide +kernel) hk hini (vx_hat hat hbad (vx_c (va_Nw.use rfl n1) (vx_c (va_Nw.use rfl n2) (vx_c (va_Nw.use rfl n3) (vx_c (va_Nw.use rfl hcast) vx_n))))) hgood hT.2.1.1.1 hT.2.1.1.2 hG.S hsize d0 d3 d4 d7 (gw_none hemp) hRframes hRlocals hRcells hRslots hlocks (fun t hvm hz hq => ?_) hG.S.2.2 hc hs
  obtain ⟨g1, g2⟩ := hG.Iext hT hz hq hvm
  exact ⟨M, trivial, ⟨hx, g1⟩, g2⟩
end GwThrows
end
section
/-! ROWS WHOSE INTS ARE nI n -/
theorem gw_inc (i : Nat) : nI i + Int32.ofInt 1 = nI (i + 1) := by
  have e : Int32.ofInt 1 = 1 := by decide
  rw [e]
  exact nI_1 i
theorem gw_in {j n : Nat} (hj : j < n) (hn : n < 2 ^ 31) : vp_in (nI j) n := vp_in_nI hj hn
section GwNat
variable {p : Program} {l : Launch} {e : Env} {R : Room} {s : State} {m : MethodId} {args : Array Value} {below : List Frame} {meth : Method} {c : Code} {H : Heap} {locs : List Loc} {cells slots : Nat} {Q : State → Prop}
variable {cc : ByteArray} {pc : Nat} {ls : Array Slot} {rest : List Value} {K : gw_C} {M : gw_M} {a : Nat} {tys : List (ClassId × FieldType)} {H0 : Heap}
theorem gw_iadd (hexec : p.tables.exec = Jvm.exec) (hb : c.code = cc) {x y : Nat} (hdg : decode cc pc = .ok (.iadd, 1)) (k : W p l e R s m args below meth c H locs cells slots Q (F0 m (pc + 1) ls (.int (nI (x + y)) :: rest))) : W p l e R s m args below meth c H locs cells slots Q (F0 m pc ls (.int (nI y) :: .int (nI x) :: rest)) :=
  lv_iadd hexec hb hdg (by rw [nI_add]; exact k)
theorem gw_imul (hexec : p.tables.exec = Jvm.exec) (hb : c.code = cc) {x y : Nat} (hdg : decode cc pc = .ok (.imul, 1)) (k : W p l e R s m args below meth c H locs cells slots Q (F0 m (pc + 1) ls (.int (nI (x * y)) :: rest))) : W p l e R s m args below meth c H locs cells slots Q (F0 m pc ls (.int (nI y) :: .int (nI x) :: rest)) :=
  lv_imul hexec hb hdg (by rw [pk_mul]; exact k)
theorem gw_isub (hexec : p.tables.exec = Jvm.exec) (hb : c.code = cc) {x y : Nat} (h : y ≤ x) (hdg : decode cc pc = .ok (.isub, 1)) (k : W p l e R s m args below meth c H locs cells slots Q (F0 m (pc + 1) ls (.int (nI (x - y)) :: rest))) : W p l e R s m args below meth c H locs cells slots Q (F0 m pc ls (.int (nI y) :: .int (nI x) :: rest)) :=
  lv_isub hexec hb hdg (by rw [pk_sub h]; exact k)
/-- any int on the stack, by another name -/
theorem gw_as {x y : Int32} (h : x = y) (k : W p l e R s m args below meth c H locs cells slots Q (F0 m pc ls (.int y :: rest))) : W p l e R s m args below meth c H locs cells slots Q (F0 m pc ls (.int x :: rest)) := by
  rw [h]; exact k
theorem gw_asl {x y : Int64} (h : x = y) (k : W p l e R s m args below meth c H locs cells slots Q (F0 m pc ls (.long y :: rest))) : W p l e R s m args below meth c H locs cells slots Q (F0 m pc ls (.long x :: rest)) := by
  rw [h]; exact k
theorem gw_icmp_ge (hexec : p.tables.exec = Jvm.exec) (hb : c.code = cc) {x y : Nat} (hx : x < 2 ^ 31) (hy : y < 2 ^ 31) {off : Int} {tgt : Nat} (hdg : decode cc pc = .ok (.if_icmp .ge off, 3)) (ht : (pc : Int) + off = (tgt : Int)) (kt : y ≤ x → W p l e R s m args below meth c H locs cells slots Q (F0 m tgt ls rest)) (kf : x < y → W p l e R s m args below meth c H locs cells slots Q (F0 m (pc + 3) ls rest)) : W p l e R s m args below meth c H locs cells slots Q (F0 m pc ls (.int (nI y) :: .int (nI x) :: rest)) :=
  lv_icmp_ge hexec hb hdg ht (fun h => kt ((nI_leI hy hx).mp h)) (fun h => kf (Nat.lt_of_not_le fun q => h ((nI_leI hy hx).mpr q)))
theorem gw_icmp_lt (hexec : p.tables.exec = Jvm.exec) (hb : c.code = cc) {x y : Nat} (hx : x < 2 ^ 31) (hy : y < 2 ^ 31) {off : Int} {tgt : Nat} (hdg : decode cc pc = .ok (.if_icmp .lt off, 3)) (ht : (pc : Int) + off = (tgt : Int)) (kt : x < y → W p l e R s m args below meth c H locs cells slots Q (F0 m tgt ls rest)) (kf : y ≤ x → W p l e R s m args below meth c H locs cells slots Q (F0 m (pc + 3) ls rest)) : W p l e R s m args below meth c H locs cells slots Q (F0 m pc ls (.int (nI y) :: .int (nI x) :: rest)) :=
  lv_icmp_lt hexec hb hdg ht (fun h => kt ((nI_ltI hx hy).mp h)) (fun h => kf (Nat.le_of_not_lt fun q => h ((nI_ltI hx hy).mpr q)))
theorem gw_icmp_gt (hexec : p.tables.exec = Jvm.exec) (hb : c.code = cc) {x y : Nat} (hx : x < 2 ^ 31) (hy : y < 2 ^ 31) {off : Int} {tgt : Nat} (hdg : decode cc pc = .ok (.if_icmp .gt off, 3)) (ht : (pc : Int) + off = (tgt : Int)) (kt : y < x → W p l e R s m args below meth c H locs cells slots Q (F0 m tgt ls rest)) (kf : x ≤ y → W p l e R s m args below meth c H locs cells slots Q (F0 m (pc + 3) ls rest)) : W p l e R s m args below meth c H locs cells slots Q (F0 m pc ls (.int (nI y) :: .int (nI x) :: rest)) :=
  lv_icmp_gt hexec hb hdg ht (fun h => kt ((nI_ltI hy hx).mp h)) (fun h => kf (Nat.le_of_not_lt fun q => h ((nI_ltI hy hx).mpr q)))
theorem gw_icmp_le (hexec : p.tables.exec = Jvm.exec) (hb : c.code = cc) {x y : Nat} (hx : x < 2 ^ 31) (hy : y < 2 ^ 31) {off : Int} {tgt : Nat} (hdg : decode cc pc = .ok (.if_icmp .le off, 3)) (ht : (pc : Int) + off = (tgt : Int)) (kt : x ≤ y → W p l e R s m args below meth c H locs cells slots Q (F0 m tgt ls rest)) (kf : y < x → W p l e R s m args below meth c H locs cells slots Q (F0 m (pc + 3) ls rest)) : W p l e R s m args below meth c H locs cells slots Q (F0 m pc ls (.int (nI y) :: .int (nI x) :: rest)) :=
  lv_icmp_le hexec hb hdg ht (fun h => kt ((nI_leI hx hy).mp h)) (fun h => kf (Nat.lt_of_not_le fun q => h ((nI_leI hx hy).mpr q)))
theorem gw_icmp_ne (hexec : p.tables.exec = Jvm.exec) (hb : c.code = cc) {x y : Nat} (hx : x < 2 ^ 31) (hy : y < 2 ^ 31) {off : Int} {tgt : Nat} (hdg : decode cc pc = .ok (.if_icmp .ne off, 3)) (ht : (pc : Int) + off = (tgt : Int)) (kt : x ≠ y → W p l e R s m args below meth c H locs cells slots Q (F0 m tgt ls rest)) (kf : x = y → W p l e R s m args below meth c H locs cells slots Q (F0 m (pc + 3) ls rest)) : W p l e R s m args below meth c H locs cells slots Q (F0 m pc ls (.int (nI y) :: .int (nI x) :: rest)) :=
  lv_icmp_ne hexec hb hdg ht (fun h => kt (fun q => h ((nI_eq hx hy).mpr q))) (fun h => kf ((nI_eq hx hy).mp h))
theorem gw_iald_n (hexec : p.tables.exec = Jvm.exec) (hb : c.code = cc) (hK : va_K K.1 vwCl tys s) (hG : gw_B K M H0 H locs) {cA : ClassId} {n : Nat} {f : Nat → Int32} (hM : M a = some (.inl (cA, n, .inl f))) (t0 : Nat) (ht : tys[t0]? = some (cA, .int)) {j : Nat} (hj : j < n) (hn : n < 2 ^ 31) (hdg : decode cc pc = .ok (.iaload, 1))
    (kk : W p l e R s m args below meth c H locs cells slots Q (F0 m (pc + 1) ls (.int (f j) :: rest))) : W p l e R s m args below meth c H locs cells slots Q (F0 m pc ls (.int (nI j) :: .ref a :: rest)) :=
  gw_iald hexec hb hK hG hM t0 ht (gw_in hj hn) hdg (by rw [nI_clamp (by omega)]; exact kk)
theorem gw_lald_n (hexec : p.tables.exec = Jvm.exec) (hb : c.code = cc) (hK : va_K K.1 vwCl tys s) (hG : gw_B K M H0 H locs) {cA : ClassId} {n : Nat} {f : Nat → Int64} (hM : M a = some (.inl (cA, n, .inr (.inl f)))) (t0 : Nat) (ht : tys[t0]? = some (cA, .long)) {j : Nat} (hj : j < n) (hn : n < 2 ^ 31) (hdg : decode cc pc = .ok (.laload, 1))
    (kk : W p l e R s m args below meth c H locs cells slots Q (F0 m (pc + 1) ls (.long (f j) :: rest))) : W p l e R s m args below meth c H locs cells slots Q (F0 m pc ls (.int (nI j) :: .ref a :: rest)) :=
  gw_lald hexec hb hK hG hM t0 ht (gw_in hj hn) hdg (by rw [nI_clamp (by omega)]; exact kk)
theorem gw_aldq_n (hexec : p.tables.exec = Jvm.exec) (hb : c.code = cc) (hK : va_K K.1 vwCl tys s) (hG : gw_B K M H0 H locs) {cA : ClassId} {C : String} {n : Nat} {f : Nat → Option Nat} (hM : M a = some (.inl (cA, n, .inr (.inr (.inr (.inr f)))))) (t0 : Nat) (ht : tys[t0]? = some (cA, .object C)) {j : Nat} (hj : j < n) (hn : n < 2 ^ 31) {v : Option Nat} (hv : f j = v) (hdg : decode cc pc = .ok (.aaload, 1))
    (kk : W p l e R s m args below meth c H locs cells slots Q (F0 m (pc + 1) ls (va_rf v :: rest))) : W p l e R s m args below meth c H locs cells slots Q (F0 m pc ls (.int (nI j) :: .ref a :: rest)) :=
  gw_aldq hexec hb hK hG hM t0 ht (gw_in hj hn) hdg (by rw [nI_clamp (by omega), hv]; exact kk)
theorem gw_iast_n (hexec : p.tables.exec = Jvm.exec) (hb : c.code = cc) (hK : va_K K.1 vwCl tys s) (hG : gw_B K M H0 H locs) {cA : ClassId} {n : Nat} {f : Nat → Int32} (hM : M a = some (.inl (cA, n, .inl f))) (t0 : Nat) (ht : tys[t0]? = some (cA, .int)) {j : Nat} {x : Int32} (hj : j < n) (hn : n < 2 ^ 31) (hdg : decode cc pc = .ok (.iastore, 1))
    (kk : ∀ (H1 : Heap) (locs1 : List Loc), gw_B K (gw_up M a (.inl (cA, n, .inl (upd f j x)))) H0 H1 locs1 → W p l e R s m args below meth c H1 locs1 cells slots Q (F0 m (pc + 1) ls rest)) : W p l e R s m args below meth c H locs cells slots Q (F0 m pc ls (.int x :: .int (nI j) :: .ref a :: rest)) :=
  gw_iast hexec hb hK hG hM t0 ht (gw_in hj hn) hdg (fun H1 locs1 h => kk H1 locs1 (by rw [nI_clamp (by omega)] at h; exact h))
theorem gw_last_n (hexec : p.tables.exec = Jvm.exec) (hb : c.code = cc) (hK : va_K K.1 vwCl tys s) (hG : gw_B K M H0 H locs) {cA : ClassId} {n : Nat} {f : Nat → Int64} (hM : M a = some (.inl (cA, n, .inr (.inl f)))) (t0 : Nat) (ht : tys[t0]? = some (cA, .long)) {j : Nat} {x : Int64} (hj : j < n) (hn : n < 2 ^ 31) (hdg : decode cc pc = .ok (.lastore, 1))
    (kk : ∀ (H1 : Heap) (locs1 : List Loc), gw_B K (gw_up M a (.inl (cA, n, .inr (.inl (vp_updL f j x))))) H0 H1 locs1 → W p l e R s m args below meth c H1 locs1 cells slots Q (F0 m (pc + 1) ls rest)) : W p l e R s m args below meth c H locs cells slots Q (F0 m pc ls (.long x :: .int (nI j) :: .ref a :: rest)) :=
  gw_last hexec hb hK hG hM t0 ht (gw_in hj hn) hdg (fun H1 locs1 h => kk H1 locs1 (by rw [nI_clamp (by omega)] at h; exact h))
end GwNat
end
section
section GwCopy
variable {p : Program} {l : Launch} {e : Env} {R : Room} {s : State} {m : MethodId} {args : Array Value} {below : List Frame} {meth : Method} {c : Code} {H : Heap} {locs : List Loc} {cells slots : Nat} {Q : State → Prop}
variable {cc : ByteArray} {pc : Nat} {ls : Array Slot} {rest : List Value} {K : gw_C} {M : gw_M} {a a0 : Nat} {tys : List (ClassId × FieldType)} {H0 : Heap}
/-- System.arraycopy of a whole int array's first nn places into another's -/
theorem gw_copyi (hexec : p.tables.exec = Jvm.exec) (hb : c.code = cc) (hml : c.maxLocals = ls.size) {own : String} {index : Nat} (hown : s.vm.findClass own = some m.cls) (hlink : (Cond.methodLink own index arraycopyName).before args s = true) (hnat : (Cond.native arraycopyName).before args s = true) (hstat : (Cond.static arraycopyName).before args s = true) (hini : (Cond.initialized "java/lang/System").before args s = true)
    (hK : va_K K.1 vwCl tys s) (hG : gw_B K M H0 H locs) {cA : ClassId} {n0 n1 nn : Nat} {f g : Nat → Int32} (hM0 : M a0 = some (.inl (cA, n0, .inl f))) (hM1 : M a = some (.inl (cA, n1, .inl g))) (t0 : Nat) (ht : tys[t0]? = some (cA, .int)) (h4 : nn ≤ n0) (h5 : nn ≤ n1) (hn : nn < 2 ^ 31)
    (hframes : 1 ≤ R.frames) (hlocals : (rest.map fun v => v.category).sum + (nativeFrameWords "java/lang/System" "arraycopy" 5 + 11) ≤ R.locals) (hdg : decode cc pc = .ok (.invokestatic index, 3))
    (kk : ∀ (H1 : Heap) (locs1 : List Loc), gw_B K (gw_up M a (.inl (cA, n1, .inl (va_cpy f g 0 0 nn)))) H0 H1 locs1 → W p l e R s m args below meth c H1 locs1 cells slots Q (F0 m (pc + 3) ls rest)) : W p l e R s m args below meth c H locs cells slots Q (F0 m pc ls (.int (nI nn) :: .int (nI 0) :: .ref a :: .int (nI 0) :: .ref a0 :: rest)) := by
  obtain ⟨ws, hL, hP, hD, hS, h0⟩ := hG
  obtain ⟨q0, hq0⟩ := (hL _ _).mp hM0
  obtain ⟨q1, hq1⟩ := (hL _ _).mp hM1
  have e0 : (nI 0).toNatClampNeg = 0 := by decide
  have en : (nI nn).toNatClampNeg = nn := nI_clamp hn
  refine va_copyi hexec hb hml hown hlink hnat hstat hini hK hP hD hS q0 q1 t0 t0 hq0 hq1 ht ht rfl (by decide) (by decide) (nI_pos hn) (by rw [e0, en]; omega) (by rw [e0, en]; omega) (fun i _ => rfl) hframes hlocals hdg (fun H1 locs1 hP1 hD1 hS1 => ?_)
  rw [e0, en] at hP1 hD1
  exact kk H1 locs1 (gw_B.put hL hD hq1 h0 hP1 hD1 hS1)
theorem gw_copyl (hexec : p.tables.exec = Jvm.exec) (hb : c.code = cc) (hml : c.maxLocals = ls.size) {own : String} {index : Nat} (hown : s.vm.findClass own = some m.cls) (hlink : (Cond.methodLink own index arraycopyName).before args s = true) (hnat : (Cond.native arraycopyName).before args s = true) (hstat : (Cond.static arraycopyName).before args s = true) (hini : (Cond.initialized "java/lang/System").before args s = true)
    (hK : va_K K.1 vwCl tys s) (hG : gw_B K M H0 H locs) {cA : ClassId} {n0 n1 nn : Nat} {f g : Nat → Int64} (hM0 : M a0 = some (.inl (cA, n0, .inr (.inl f)))) (hM1 : M a = some (.inl (cA, n1, .inr (.inl g)))) (t0 : Nat) (ht : tys[t0]? = some (cA, .long)) (h4 : nn ≤ n0) (h5 : nn ≤ n1) (hn : nn < 2 ^ 31)
    (hframes : 1 ≤ R.frames) (hlocals : (rest.map fun v => v.category).sum + (nativeFrameWords "java/lang/System" "arraycopy" 5 + 11) ≤ R.locals) (hdg : decode cc pc = .ok (.invokestatic index, 3))
    (kk : ∀ (H1 : Heap) (locs1 : List Loc), gw_B K (gw_up M a (.inl (cA, n1, .inr (.inl (va_cpy f g 0 0 nn))))) H0 H1 locs1 → W p l e R s m args below meth c H1 locs1 cells slots Q (F0 m (pc + 3) ls rest)) : W p l e R s m args below meth c H locs cells slots Q (F0 m pc ls (.int (nI nn) :: .int (nI 0) :: .ref a :: .int (nI 0) :: .ref a0 :: rest)) := by
  obtain ⟨ws, hL, hP, hD, hS, h0⟩ := hG
  obtain ⟨q0, hq0⟩ := (hL _ _).mp hM0
  obtain ⟨q1, hq1⟩ := (hL _ _).mp hM1
  have e0 : (nI 0).toNatClampNeg = 0 := by decide
  have en : (nI nn).toNatClampNeg = nn := nI_clamp hn
  refine va_copyl hexec hb hml hown hlink hnat hstat hini hK hP hD hS q0 q1 t0 t0 hq0 hq1 ht ht rfl (by decide) (by decide) (nI_pos hn) (by rw [e0, en]; omega) (by rw [e0, en]; omega) (fun i _ => rfl) hframes hlocals hdg (fun H1 locs1 hP1 hD1 hS1 => ?_)
  rw [e0, en] at hP1 hD1
  exact kk H1 locs1 (gw_B.put hL hD hq1 h0 hP1 hD1 hS1)
end GwCopy
end
section
theorem nmX0 : ∀ a, a < 5 → ∀ b, b < 5 → a ≠ b → (TX0 a).2.1 ≠ (TX0 b).2.1 := by decide +kernel
theorem tyX0_ok : ∀ k, k < 5 → parseFieldDescriptor (TX0 k).2.2.1 = some (tyX0 k) := by decide +kernel
theorem nmX1 : ∀ a, a < 3 → ∀ b, b < 3 → a ≠ b → (TX1 a).2.1 ≠ (TX1 b).2.1 := by decide +kernel
theorem tyX1_ok : ∀ k, k < 3 → parseFieldDescriptor (TX1 k).2.2.1 = some (tyX1 k) := by decide +kernel
theorem nmX2 : ∀ a, a < 3 → ∀ b, b < 3 → a ≠ b → (TX2 a).2.1 ≠ (TX2 b).2.1 := by decide +kernel
theorem tyX2_ok : ∀ k, k < 3 → parseFieldDescriptor (TX2 k).2.2.1 = some (tyX2 k) := by decide +kernel
theorem nmX3 : ∀ a, a < 8 → ∀ b, b < 8 → a ≠ b → (TX3 a).2.1 ≠ (TX3 b).2.1 := by decide +kernel
theorem tyX3_ok : ∀ k, k < 8 → parseFieldDescriptor (TX3 k).2.2.1 = some (tyX3 k) := by decide +kernel
theorem nmJx145de : ∀ a, a < 0 → ∀ b, b < 0 → a ≠ b → (TJx145de a).2.1 ≠ (TJx145de b).2.1 := by decide +kernel
theorem tyJx145de_ok : ∀ k, k < 0 → parseFieldDescriptor (TJx145de k).2.2.1 = some (tyJx145de k) := by decide +kernel
theorem nmJx8e188 : ∀ a, a < 0 → ∀ b, b < 0 → a ≠ b → (TJx8e188 a).2.1 ≠ (TJx8e188 b).2.1 := by decide +kernel
theorem tyJx8e188_ok : ∀ k, k < 0 → parseFieldDescriptor (TJx8e188 k).2.2.1 = some (tyJx8e188 k) := by decide +kernel
theorem nmJxab1ab : ∀ a, a < 0 → ∀ b, b < 0 → a ≠ b → (TJxab1ab a).2.1 ≠ (TJxab1ab b).2.1 := by decide +kernel
theorem tyJxab1ab_ok : ∀ k, k < 0 → parseFieldDescriptor (TJxab1ab k).2.2.1 = some (tyJxab1ab k) := by decide +kernel
theorem nmJ9 : ∀ a, a < 0 → ∀ b, b < 0 → a ≠ b → (TJ9 a).2.1 ≠ (TJ9 b).2.1 := by decide +kernel
theorem tyJ9_ok : ∀ k, k < 0 → parseFieldDescriptor (TJ9 k).2.2.1 = some (tyJ9 k) := by decide +kernel
theorem nmJ10 : ∀ a, a < 0 → ∀ b, b < 0 → a ≠ b → (TJ10 a).2.1 ≠ (TJ10 b).2.1 := by decide +kernel
theorem tyJ10_ok : ∀ k, k < 0 → parseFieldDescriptor (TJ10 k).2.2.1 = some (tyJ10 k) := by decide +kernel
theorem nmJxa1e45 : ∀ a, a < 0 → ∀ b, b < 0 → a ≠ b → (TJxa1e45 a).2.1 ≠ (TJxa1e45 b).2.1 := by decide +kernel
theorem tyJxa1e45_ok : ∀ k, k < 0 → parseFieldDescriptor (TJxa1e45 k).2.2.1 = some (tyJxa1e45 k) := by decide +kernel
theorem nmJxc12de : ∀ a, a < 0 → ∀ b, b < 0 → a ≠ b → (TJxc12de a).2.1 ≠ (TJxc12de b).2.1 := by decide +kernel
theorem tyJxc12de_ok : ∀ k, k < 0 → parseFieldDescriptor (TJxc12de k).2.2.1 = some (tyJxc12de k) := by decide +kernel
theorem nmJx4a65c : ∀ a, a < 3 → ∀ b, b < 3 → a ≠ b → (TJx4a65c a).2.1 ≠ (TJx4a65c b).2.1 := by decide +kernel
theorem tyJx4a65c_ok : ∀ k, k < 3 → parseFieldDescriptor (TJx4a65c k).2.2.1 = some (tyJx4a65c k) := by decide +kernel
theorem nmJ7 : ∀ a, a < 0 → ∀ b, b < 0 → a ≠ b → (TJ7 a).2.1 ≠ (TJ7 b).2.1 := by decide +kernel
theorem tyJ7_ok : ∀ k, k < 0 → parseFieldDescriptor (TJ7 k).2.2.1 = some (tyJ7 k) := by decide +kernel
theorem nmJx5ef63 : ∀ a, a < 0 → ∀ b, b < 0 → a ≠ b → (TJx5ef63 a).2.1 ≠ (TJx5ef63 b).2.1 := by decide +kernel
theorem tyJx5ef63_ok : ∀ k, k < 0 → parseFieldDescriptor (TJx5ef63 k).2.2.1 = some (tyJx5ef63 k) := by decide +kernel
theorem nmJxbd725 : ∀ a, a < 0 → ∀ b, b < 0 → a ≠ b → (TJxbd725 a).2.1 ≠ (TJxbd725 b).2.1 := by decide +kernel
theorem tyJxbd725_ok : ∀ k, k < 0 → parseFieldDescriptor (TJxbd725 k).2.2.1 = some (tyJxbd725 k) := by decide +kernel
theorem nmJ15 : ∀ a, a < 0 → ∀ b, b < 0 → a ≠ b → (TJ15 a).2.1 ≠ (TJ15 b).2.1 := by decide +kernel
theorem tyJ15_ok : ∀ k, k < 0 → parseFieldDescriptor (TJ15 k).2.2.1 = some (tyJ15 k) := by decide +kernel
theorem nmJxf0a74 : ∀ a, a < 0 → ∀ b, b < 0 → a ≠ b → (TJxf0a74 a).2.1 ≠ (TJxf0a74 b).2.1 := by decide +kernel
theorem tyJxf0a74_ok : ∀ k, k < 0 → parseFieldDescriptor (TJxf0a74 k).2.2.1 = some (tyJxf0a74 k) := by decide +kernel
theorem nmJxa66e6 : ∀ a, a < 0 → ∀ b, b < 0 → a ≠ b → (TJxa66e6 a).2.1 ≠ (TJxa66e6 b).2.1 := by decide +kernel
theorem tyJxa66e6_ok : ∀ k, k < 0 → parseFieldDescriptor (TJxa66e6 k).2.2.1 = some (tyJxa66e6 k) := by decide +kernel
theorem nmJ8 : ∀ a, a < 0 → ∀ b, b < 0 → a ≠ b → (TJ8 a).2.1 ≠ (TJ8 b).2.1 := by decide +kernel
theorem tyJ8_ok : ∀ k, k < 0 → parseFieldDescriptor (TJ8 k).2.2.1 = some (tyJ8 k) := by decide +kernel
theorem nmJ3 : ∀ a, a < 0 → ∀ b, b < 0 → a ≠ b → (TJ3 a).2.1 ≠ (TJ3 b).2.1 := by decide +kernel
theorem tyJ3_ok : ∀ k, k < 0 → parseFieldDescriptor (TJ3 k).2.2.1 = some (tyJ3 k) := by decide +kernel
theorem dX0_init_0 : decode cX0_init 0 = .ok (.aload_n 0, 1) := by decide +kernel
theorem dX0_init_1 : decode cX0_init 1 = .ok (.invokespecial 3, 3) := by decide +kernel
theorem dX0_init_4 : decode cX0_init 4 = .ok (.aload_n 0, 1) := by decide +kernel
theorem dX0_init_5 : decode cX0_init 5 = .ok (.bipush 6, 2) := by decide +kernel
theorem dX0_init_7 : decode cX0_init 7 = .ok (.newarray .int, 2) := by decide +kernel
theorem dX0_init_9 : decode cX0_init 9 = .ok (.putfield 9, 3) := by decide +kernel
theorem dX0_init_12 : decode cX0_init 12 = .ok (.aload_n 0, 1) := by decide +kernel
theorem dX0_init_13 : decode cX0_init 13 = .ok (.sipush 408, 3) := by decide +kernel
theorem dX0_init_16 : decode cX0_init 16 = .ok (.newarray .int, 2) := by decide +kernel
theorem dX0_init_18 : decode cX0_init 18 = .ok (.putfield 15, 3) := by decide +kernel
theorem dX0_init_21 : decode cX0_init 21 = .ok (.aload_n 0, 1) := by decide +kernel
theorem dX0_init_22 : decode cX0_init 22 = .ok (.bipush 24, 2) := by decide +kernel
theorem dX0_init_24 : decode cX0_init 24 = .ok (.newarray .int, 2) := by decide +kernel
theorem dX0_init_26 : decode cX0_init 26 = .ok (.putfield 18, 3) := by decide +kernel
theorem dX0_init_29 : decode cX0_init 29 = .ok (.aload_n 0, 1) := by decide +kernel
theorem dX0_init_30 : decode cX0_init 30 = .ok (.bipush 24, 2) := by decide +kernel
theorem dX0_init_32 : decode cX0_init 32 = .ok (.newarray .long, 2) := by decide +kernel
theorem dX0_init_34 : decode cX0_init 34 = .ok (.putfield 21, 3) := by decide +kernel
theorem dX0_init_37 : decode cX0_init 37 = .ok (.aload_n 0, 1) := by decide +kernel
theorem dX0_init_38 : decode cX0_init 38 = .ok (.bipush 24, 2) := by decide +kernel
theorem dX0_init_40 : decode cX0_init 40 = .ok (.newarray .long, 2) := by decide +kernel
theorem dX0_init_42 : decode cX0_init 42 = .ok (.putfield 25, 3) := by decide +kernel
theorem dX0_init_45 : decode cX0_init 45 = .ok (.return_, 1) := by decide +kernel
set_option maxRecDepth 20000 in
theorem ggX0_wipe_J7_fill_53178 : GoodIn wsX0_wipe wsJ7_fill_53178 := goodIn_r _ [9] (by decide +kernel) (by decide +kernel)
set_option maxRecDepth 20000 in
theorem gX0_wipe_J7_fill_53178 : GoodIn wsX0_wipe (va_wsS RX0 28 yJ7_fill_53178 wsJ7_fill_53178) := goodIn_app (goodIn_of _ (by decide +kernel)) ggX0_wipe_J7_fill_53178
set_option maxRecDepth 20000 in
theorem ggX0_wipe_J7_fill_d0a16 : GoodIn wsX0_wipe wsJ7_fill_d0a16 := goodIn_r _ [12] (by decide +kernel) (by decide +kernel)
set_option maxRecDepth 20000 in
theorem gX0_wipe_J7_fill_d0a16 : GoodIn wsX0_wipe (va_wsS RX0 34 yJ7_fill_d0a16 wsJ7_fill_d0a16) := goodIn_app (goodIn_of _ (by decide +kernel)) ggX0_wipe_J7_fill_d0a16
theorem dX0_wipe_0 : decode cX0_wipe 0 = .ok (.aload_n 0, 1) := by decide +kernel
theorem dX0_wipe_1 : decode cX0_wipe 1 = .ok (.getfield 9, 3) := by decide +kernel
theorem dX0_wipe_4 : decode cX0_wipe 4 = .ok (.iconst 0, 1) := by decide +kernel
theorem dX0_wipe_5 : decode cX0_wipe 5 = .ok (.invokestatic 28, 3) := by decide +kernel
theorem dX0_wipe_8 : decode cX0_wipe 8 = .ok (.aload_n 0, 1) := by decide +kernel
theorem dX0_wipe_9 : decode cX0_wipe 9 = .ok (.getfield 15, 3) := by decide +kernel
theorem dX0_wipe_12 : decode cX0_wipe 12 = .ok (.iconst 0, 1) := by decide +kernel
theorem dX0_wipe_13 : decode cX0_wipe 13 = .ok (.invokestatic 28, 3) := by decide +kernel
theorem dX0_wipe_16 : decode cX0_wipe 16 = .ok (.aload_n 0, 1) := by decide +kernel
theorem dX0_wipe_17 : decode cX0_wipe 17 = .ok (.getfield 18, 3) := by decide +kernel
theorem dX0_wipe_20 : decode cX0_wipe 20 = .ok (.iconst 0, 1) := by decide +kernel
theorem dX0_wipe_21 : decode cX0_wipe 21 = .ok (.invokestatic 28, 3) := by decide +kernel
theorem dX0_wipe_24 : decode cX0_wipe 24 = .ok (.aload_n 0, 1) := by decide +kernel
theorem dX0_wipe_25 : decode cX0_wipe 25 = .ok (.getfield 21, 3) := by decide +kernel
theorem dX0_wipe_28 : decode cX0_wipe 28 = .ok (.lconst 0, 1) := by decide +kernel
theorem dX0_wipe_29 : decode cX0_wipe 29 = .ok (.invokestatic 34, 3) := by decide +kernel
theorem dX0_wipe_32 : decode cX0_wipe 32 = .ok (.aload_n 0, 1) := by decide +kernel
theorem dX0_wipe_33 : decode cX0_wipe 33 = .ok (.getfield 25, 3) := by decide +kernel
theorem dX0_wipe_36 : decode cX0_wipe 36 = .ok (.lconst 0, 1) := by decide +kernel
theorem dX0_wipe_37 : decode cX0_wipe 37 = .ok (.invokestatic 34, 3) := by decide +kernel
theorem dX0_wipe_40 : decode cX0_wipe 40 = .ok (.return_, 1) := by decide +kernel
set_option maxRecDepth 20000 in
theorem ggX0_snapshot_X0_init : GoodIn wsX0_snapshot wsX0_init := goodIn_r _ [15, 16, 17, 18, 19, 4, 9, 10, 20, 11, 12, 21, 22, 23, 24, 25] (by decide +kernel) (by decide +kernel)
set_option maxRecDepth 20000 in
theorem gX0_snapshot_X0_init : GoodIn wsX0_snapshot (wsX0_init) := ggX0_snapshot_X0_init
theorem dX0_snapshot_0 : decode cX0_snapshot 0 = .ok (.new 10, 3) := by decide +kernel
theorem dX0_snapshot_3 : decode cX0_snapshot 3 = .ok (.dup, 1) := by decide +kernel
theorem dX0_snapshot_4 : decode cX0_snapshot 4 = .ok (.invokespecial 37, 3) := by decide +kernel
theorem dX0_snapshot_7 : decode cX0_snapshot 7 = .ok (.astore_n 1, 1) := by decide +kernel
theorem dX0_snapshot_8 : decode cX0_snapshot 8 = .ok (.aload_n 0, 1) := by decide +kernel
theorem dX0_snapshot_9 : decode cX0_snapshot 9 = .ok (.getfield 9, 3) := by decide +kernel
theorem dX0_snapshot_12 : decode cX0_snapshot 12 = .ok (.iconst 0, 1) := by decide +kernel
theorem dX0_snapshot_13 : decode cX0_snapshot 13 = .ok (.aload_n 1, 1) := by decide +kernel
theorem dX0_snapshot_14 : decode cX0_snapshot 14 = .ok (.getfield 9, 3) := by decide +kernel
theorem dX0_snapshot_17 : decode cX0_snapshot 17 = .ok (.iconst 0, 1) := by decide +kernel
theorem dX0_snapshot_18 : decode cX0_snapshot 18 = .ok (.aload_n 0, 1) := by decide +kernel
theorem dX0_snapshot_19 : decode cX0_snapshot 19 = .ok (.getfield 9, 3) := by decide +kernel
theorem dX0_snapshot_22 : decode cX0_snapshot 22 = .ok (.arraylength, 1) := by decide +kernel
theorem dX0_snapshot_23 : decode cX0_snapshot 23 = .ok (.invokestatic 38, 3) := by decide +kernel
theorem dX0_snapshot_26 : decode cX0_snapshot 26 = .ok (.aload_n 0, 1) := by decide +kernel
theorem dX0_snapshot_27 : decode cX0_snapshot 27 = .ok (.getfield 15, 3) := by decide +kernel
theorem dX0_snapshot_30 : decode cX0_snapshot 30 = .ok (.iconst 0, 1) := by decide +kernel
theorem dX0_snapshot_31 : decode cX0_snapshot 31 = .ok (.aload_n 1, 1) := by decide +kernel
theorem dX0_snapshot_32 : decode cX0_snapshot 32 = .ok (.getfield 15, 3) := by decide +kernel
theorem dX0_snapshot_35 : decode cX0_snapshot 35 = .ok (.iconst 0, 1) := by decide +kernel
theorem dX0_snapshot_36 : decode cX0_snapshot 36 = .ok (.aload_n 0, 1) := by decide +kernel
theorem dX0_snapshot_37 : decode cX0_snapshot 37 = .ok (.getfield 15, 3) := by decide +kernel
theorem dX0_snapshot_40 : decode cX0_snapshot 40 = .ok (.arraylength, 1) := by decide +kernel
theorem dX0_snapshot_41 : decode cX0_snapshot 41 = .ok (.invokestatic 38, 3) := by decide +kernel
theorem dX0_snapshot_44 : decode cX0_snapshot 44 = .ok (.aload_n 0, 1) := by decide +kernel
theorem dX0_snapshot_45 : decode cX0_snapshot 45 = .ok (.getfield 18, 3) := by decide +kernel
theorem dX0_snapshot_48 : decode cX0_snapshot 48 = .ok (.iconst 0, 1) := by decide +kernel
theorem dX0_snapshot_49 : decode cX0_snapshot 49 = .ok (.aload_n 1, 1) := by decide +kernel
theorem dX0_snapshot_50 : decode cX0_snapshot 50 = .ok (.getfield 18, 3) := by decide +kernel
theorem dX0_snapshot_53 : decode cX0_snapshot 53 = .ok (.iconst 0, 1) := by decide +kernel
theorem dX0_snapshot_54 : decode cX0_snapshot 54 = .ok (.aload_n 0, 1) := by decide +kernel
theorem dX0_snapshot_55 : decode cX0_snapshot 55 = .ok (.getfield 18, 3) := by decide +kernel
theorem dX0_snapshot_58 : decode cX0_snapshot 58 = .ok (.arraylength, 1) := by decide +kernel
theorem dX0_snapshot_59 : decode cX0_snapshot 59 = .ok (.invokestatic 38, 3) := by decide +kernel
theorem dX0_snapshot_62 : decode cX0_snapshot 62 = .ok (.aload_n 0, 1) := by decide +kernel
theorem dX0_snapshot_63 : decode cX0_snapshot 63 = .ok (.getfield 21, 3) := by decide +kernel
theorem dX0_snapshot_66 : decode cX0_snapshot 66 = .ok (.iconst 0, 1) := by decide +kernel
theorem dX0_snapshot_67 : decode cX0_snapshot 67 = .ok (.aload_n 1, 1) := by decide +kernel
theorem dX0_snapshot_68 : decode cX0_snapshot 68 = .ok (.getfield 21, 3) := by decide +kernel
theorem dX0_snapshot_71 : decode cX0_snapshot 71 = .ok (.iconst 0, 1) := by decide +kernel
theorem dX0_snapshot_72 : decode cX0_snapshot 72 = .ok (.aload_n 0, 1) := by decide +kernel
theorem dX0_snapshot_73 : decode cX0_snapshot 73 = .ok (.getfield 21, 3) := by decide +kernel
theorem dX0_snapshot_76 : decode cX0_snapshot 76 = .ok (.arraylength, 1) := by decide +kernel
theorem dX0_snapshot_77 : decode cX0_snapshot 77 = .ok (.invokestatic 38, 3) := by decide +kernel
theorem dX0_snapshot_80 : decode cX0_snapshot 80 = .ok (.aload_n 0, 1) := by decide +kernel
theorem dX0_snapshot_81 : decode cX0_snapshot 81 = .ok (.getfield 25, 3) := by decide +kernel
theorem dX0_snapshot_84 : decode cX0_snapshot 84 = .ok (.iconst 0, 1) := by decide +kernel
theorem dX0_snapshot_85 : decode cX0_snapshot 85 = .ok (.aload_n 1, 1) := by decide +kernel
theorem dX0_snapshot_86 : decode cX0_snapshot 86 = .ok (.getfield 25, 3) := by decide +kernel
theorem dX0_snapshot_89 : decode cX0_snapshot 89 = .ok (.iconst 0, 1) := by decide +kernel
theorem dX0_snapshot_90 : decode cX0_snapshot 90 = .ok (.aload_n 0, 1) := by decide +kernel
theorem dX0_snapshot_91 : decode cX0_snapshot 91 = .ok (.getfield 25, 3) := by decide +kernel
theorem dX0_snapshot_94 : decode cX0_snapshot 94 = .ok (.arraylength, 1) := by decide +kernel
theorem dX0_snapshot_95 : decode cX0_snapshot 95 = .ok (.invokestatic 38, 3) := by decide +kernel
theorem dX0_snapshot_98 : decode cX0_snapshot 98 = .ok (.aload_n 1, 1) := by decide +kernel
theorem dX0_snapshot_99 : decode cX0_snapshot 99 = .ok (.areturn, 1) := by decide +kernel
theorem dX0_makeDot_0 : decode cX0_makeDot 0 = .ok (.aload_n 0, 1) := by decide +kernel
theorem dX0_makeDot_1 : decode cX0_makeDot 1 = .ok (.getfield 9, 3) := by decide +kernel
theorem dX0_makeDot_4 : decode cX0_makeDot 4 = .ok (.iload_n 2, 1) := by decide +kernel
theorem dX0_makeDot_5 : decode cX0_makeDot 5 = .ok (.dup2, 1) := by decide +kernel
theorem dX0_makeDot_6 : decode cX0_makeDot 6 = .ok (.iaload, 1) := by decide +kernel
theorem dX0_makeDot_7 : decode cX0_makeDot 7 = .ok (.iconst 1, 1) := by decide +kernel
theorem dX0_makeDot_8 : decode cX0_makeDot 8 = .ok (.iadd, 1) := by decide +kernel
theorem dX0_makeDot_9 : decode cX0_makeDot 9 = .ok (.iastore, 1) := by decide +kernel
theorem dX0_makeDot_10 : decode cX0_makeDot 10 = .ok (.aload_n 0, 1) := by decide +kernel
theorem dX0_makeDot_11 : decode cX0_makeDot 11 = .ok (.getfield 15, 3) := by decide +kernel
theorem dX0_makeDot_14 : decode cX0_makeDot 14 = .ok (.iload_n 1, 1) := by decide +kernel
theorem dX0_makeDot_15 : decode cX0_makeDot 15 = .ok (.bipush 6, 2) := by decide +kernel
theorem dX0_makeDot_17 : decode cX0_makeDot 17 = .ok (.imul, 1) := by decide +kernel
theorem dX0_makeDot_18 : decode cX0_makeDot 18 = .ok (.iload_n 2, 1) := by decide +kernel
theorem dX0_makeDot_19 : decode cX0_makeDot 19 = .ok (.iadd, 1) := by decide +kernel
theorem dX0_makeDot_20 : decode cX0_makeDot 20 = .ok (.aload_n 0, 1) := by decide +kernel
theorem dX0_makeDot_21 : decode cX0_makeDot 21 = .ok (.getfield 9, 3) := by decide +kernel
theorem dX0_makeDot_24 : decode cX0_makeDot 24 = .ok (.iload_n 2, 1) := by decide +kernel
theorem dX0_makeDot_25 : decode cX0_makeDot 25 = .ok (.iaload, 1) := by decide +kernel
theorem dX0_makeDot_26 : decode cX0_makeDot 26 = .ok (.iastore, 1) := by decide +kernel
theorem dX0_makeDot_27 : decode cX0_makeDot 27 = .ok (.aload_n 0, 1) := by decide +kernel
theorem dX0_makeDot_28 : decode cX0_makeDot 28 = .ok (.getfield 9, 3) := by decide +kernel
theorem dX0_makeDot_31 : decode cX0_makeDot 31 = .ok (.iload_n 2, 1) := by decide +kernel
theorem dX0_makeDot_32 : decode cX0_makeDot 32 = .ok (.iaload, 1) := by decide +kernel
theorem dX0_makeDot_33 : decode cX0_makeDot 33 = .ok (.ireturn, 1) := by decide +kernel
set_option maxRecDepth 20000 in
theorem ggX0_forget_X0_dotsAt : GoodIn wsX0_forget wsX0_dotsAt := goodIn_r _ [6, 1, 7, 8, 9, 10, 11] (by decide +kernel) (by decide +kernel)
set_option maxRecDepth 20000 in
theorem gX0_forget_X0_dotsAt : GoodIn wsX0_forget (wsV RX0 44 RX0 yX0_dotsAt wsX0_dotsAt) := goodIn_app (goodIn_of _ (by decide +kernel)) ggX0_forget_X0_dotsAt
theorem dX0_forget_0 : decode cX0_forget 0 = .ok (.aload_n 0, 1) := by decide +kernel
theorem dX0_forget_1 : decode cX0_forget 1 = .ok (.iload_n 1, 1) := by decide +kernel
theorem dX0_forget_2 : decode cX0_forget 2 = .ok (.invokevirtual 44, 3) := by decide +kernel
theorem dX0_forget_5 : decode cX0_forget 5 = .ok (.istore_n 2, 1) := by decide +kernel
theorem dX0_forget_6 : decode cX0_forget 6 = .ok (.iconst 0, 1) := by decide +kernel
theorem dX0_forget_7 : decode cX0_forget 7 = .ok (.istore_n 3, 1) := by decide +kernel
theorem dX0_forget_8 : decode cX0_forget 8 = .ok (.iload_n 3, 1) := by decide +kernel
theorem dX0_forget_9 : decode cX0_forget 9 = .ok (.bipush 6, 2) := by decide +kernel
theorem dX0_forget_11 : decode cX0_forget 11 = .ok (.if_icmp .ge 21, 3) := by decide +kernel
theorem dX0_forget_14 : decode cX0_forget 14 = .ok (.aload_n 0, 1) := by decide +kernel
theorem dX0_forget_15 : decode cX0_forget 15 = .ok (.getfield 15, 3) := by decide +kernel
theorem dX0_forget_18 : decode cX0_forget 18 = .ok (.iload_n 1, 1) := by decide +kernel
theorem dX0_forget_19 : decode cX0_forget 19 = .ok (.bipush 6, 2) := by decide +kernel
theorem dX0_forget_21 : decode cX0_forget 21 = .ok (.imul, 1) := by decide +kernel
theorem dX0_forget_22 : decode cX0_forget 22 = .ok (.iload_n 3, 1) := by decide +kernel
theorem dX0_forget_23 : decode cX0_forget 23 = .ok (.iadd, 1) := by decide +kernel
theorem dX0_forget_24 : decode cX0_forget 24 = .ok (.iconst 0, 1) := by decide +kernel
theorem dX0_forget_25 : decode cX0_forget 25 = .ok (.iastore, 1) := by decide +kernel
theorem dX0_forget_26 : decode cX0_forget 26 = .ok (.iinc 3 1, 3) := by decide +kernel
theorem dX0_forget_29 : decode cX0_forget 29 = .ok (.goto (-21), 3) := by decide +kernel
theorem dX0_forget_32 : decode cX0_forget 32 = .ok (.iload_n 2, 1) := by decide +kernel
theorem dX0_forget_33 : decode cX0_forget 33 = .ok (.ireturn, 1) := by decide +kernel
theorem dX0_dotsAt_0 : decode cX0_dotsAt 0 = .ok (.iconst 0, 1) := by decide +kernel
theorem dX0_dotsAt_1 : decode cX0_dotsAt 1 = .ok (.istore_n 2, 1) := by decide +kernel
theorem dX0_dotsAt_2 : decode cX0_dotsAt 2 = .ok (.iconst 0, 1) := by decide +kernel
theorem dX0_dotsAt_3 : decode cX0_dotsAt 3 = .ok (.istore_n 3, 1) := by decide +kernel
theorem dX0_dotsAt_4 : decode cX0_dotsAt 4 = .ok (.iload_n 3, 1) := by decide +kernel
theorem dX0_dotsAt_5 : decode cX0_dotsAt 5 = .ok (.bipush 6, 2) := by decide +kernel
theorem dX0_dotsAt_7 : decode cX0_dotsAt 7 = .ok (.if_icmp .ge 26, 3) := by decide +kernel
theorem dX0_dotsAt_10 : decode cX0_dotsAt 10 = .ok (.aload_n 0, 1) := by decide +kernel
theorem dX0_dotsAt_11 : decode cX0_dotsAt 11 = .ok (.getfield 15, 3) := by decide +kernel
theorem dX0_dotsAt_14 : decode cX0_dotsAt 14 = .ok (.iload_n 1, 1) := by decide +kernel
theorem dX0_dotsAt_15 : decode cX0_dotsAt 15 = .ok (.bipush 6, 2) := by decide +kernel
theorem dX0_dotsAt_17 : decode cX0_dotsAt 17 = .ok (.imul, 1) := by decide +kernel
theorem dX0_dotsAt_18 : decode cX0_dotsAt 18 = .ok (.iload_n 3, 1) := by decide +kernel
theorem dX0_dotsAt_19 : decode cX0_dotsAt 19 = .ok (.iadd, 1) := by decide +kernel
theorem dX0_dotsAt_20 : decode cX0_dotsAt 20 = .ok (.iaload, 1) := by decide +kernel
theorem dX0_dotsAt_21 : decode cX0_dotsAt 21 = .ok (.ifCond .eq 6, 3) := by decide +kernel
theorem dX0_dotsAt_24 : decode cX0_dotsAt 24 = .ok (.iinc 2 1, 3) := by decide +kernel
theorem dX0_dotsAt_27 : decode cX0_dotsAt 27 = .ok (.iinc 3 1, 3) := by decide +kernel
theorem dX0_dotsAt_30 : decode cX0_dotsAt 30 = .ok (.goto (-26), 3) := by decide +kernel
theorem dX0_dotsAt_33 : decode cX0_dotsAt 33 = .ok (.iload_n 2, 1) := by decide +kernel
theorem dX0_dotsAt_34 : decode cX0_dotsAt 34 = .ok (.ireturn, 1) := by decide +kernel
theorem dX0_makerOf_0 : decode cX0_makerOf 0 = .ok (.iconst 0, 1) := by decide +kernel
theorem dX0_makerOf_1 : decode cX0_makerOf 1 = .ok (.istore_n 3, 1) := by decide +kernel
theorem dX0_makerOf_2 : decode cX0_makerOf 2 = .ok (.iconst 0, 1) := by decide +kernel
theorem dX0_makerOf_3 : decode cX0_makerOf 3 = .ok (.istore 4, 2) := by decide +kernel
theorem dX0_makerOf_5 : decode cX0_makerOf 5 = .ok (.iload 4, 2) := by decide +kernel
theorem dX0_makerOf_7 : decode cX0_makerOf 7 = .ok (.bipush 6, 2) := by decide +kernel
theorem dX0_makerOf_9 : decode cX0_makerOf 9 = .ok (.if_icmp .ge 35, 3) := by decide +kernel
theorem dX0_makerOf_12 : decode cX0_makerOf 12 = .ok (.aload_n 0, 1) := by decide +kernel
theorem dX0_makerOf_13 : decode cX0_makerOf 13 = .ok (.getfield 15, 3) := by decide +kernel
theorem dX0_makerOf_16 : decode cX0_makerOf 16 = .ok (.iload_n 1, 1) := by decide +kernel
theorem dX0_makerOf_17 : decode cX0_makerOf 17 = .ok (.bipush 6, 2) := by decide +kernel
theorem dX0_makerOf_19 : decode cX0_makerOf 19 = .ok (.imul, 1) := by decide +kernel
theorem dX0_makerOf_20 : decode cX0_makerOf 20 = .ok (.iload 4, 2) := by decide +kernel
theorem dX0_makerOf_22 : decode cX0_makerOf 22 = .ok (.iadd, 1) := by decide +kernel
theorem dX0_makerOf_23 : decode cX0_makerOf 23 = .ok (.iaload, 1) := by decide +kernel
theorem dX0_makerOf_24 : decode cX0_makerOf 24 = .ok (.ifCond .eq 14, 3) := by decide +kernel
theorem dX0_makerOf_27 : decode cX0_makerOf 27 = .ok (.iload_n 3, 1) := by decide +kernel
theorem dX0_makerOf_28 : decode cX0_makerOf 28 = .ok (.iload_n 2, 1) := by decide +kernel
theorem dX0_makerOf_29 : decode cX0_makerOf 29 = .ok (.if_icmp .ne 6, 3) := by decide +kernel
theorem dX0_makerOf_32 : decode cX0_makerOf 32 = .ok (.iload 4, 2) := by decide +kernel
theorem dX0_makerOf_34 : decode cX0_makerOf 34 = .ok (.ireturn, 1) := by decide +kernel
theorem dX0_makerOf_35 : decode cX0_makerOf 35 = .ok (.iinc 3 1, 3) := by decide +kernel
theorem dX0_makerOf_38 : decode cX0_makerOf 38 = .ok (.iinc 4 1, 3) := by decide +kernel
theorem dX0_makerOf_41 : decode cX0_makerOf 41 = .ok (.goto (-36), 3) := by decide +kernel
theorem dX0_makerOf_44 : decode cX0_makerOf 44 = .ok (.iconst (-1), 1) := by decide +kernel
theorem dX0_makerOf_45 : decode cX0_makerOf 45 = .ok (.ireturn, 1) := by decide +kernel
theorem dX0_numberBy_0 : decode cX0_numberBy 0 = .ok (.iload_n 2, 1) := by decide +kernel
theorem dX0_numberBy_1 : decode cX0_numberBy 1 = .ok (.iconst (-1), 1) := by decide +kernel
theorem dX0_numberBy_2 : decode cX0_numberBy 2 = .ok (.if_icmp .ne 7, 3) := by decide +kernel
theorem dX0_numberBy_5 : decode cX0_numberBy 5 = .ok (.iconst (-1), 1) := by decide +kernel
theorem dX0_numberBy_6 : decode cX0_numberBy 6 = .ok (.goto 14, 3) := by decide +kernel
theorem dX0_numberBy_9 : decode cX0_numberBy 9 = .ok (.aload_n 0, 1) := by decide +kernel
theorem dX0_numberBy_10 : decode cX0_numberBy 10 = .ok (.getfield 15, 3) := by decide +kernel
theorem dX0_numberBy_13 : decode cX0_numberBy 13 = .ok (.iload_n 1, 1) := by decide +kernel
theorem dX0_numberBy_14 : decode cX0_numberBy 14 = .ok (.bipush 6, 2) := by decide +kernel
theorem dX0_numberBy_16 : decode cX0_numberBy 16 = .ok (.imul, 1) := by decide +kernel
theorem dX0_numberBy_17 : decode cX0_numberBy 17 = .ok (.iload_n 2, 1) := by decide +kernel
theorem dX0_numberBy_18 : decode cX0_numberBy 18 = .ok (.iadd, 1) := by decide +kernel
theorem dX0_numberBy_19 : decode cX0_numberBy 19 = .ok (.iaload, 1) := by decide +kernel
theorem dX0_numberBy_20 : decode cX0_numberBy 20 = .ok (.ireturn, 1) := by decide +kernel
theorem dX0_worth_0 : decode cX0_worth 0 = .ok (.lconst 0, 1) := by decide +kernel
theorem dX0_worth_1 : decode cX0_worth 1 = .ok (.lstore_n 2, 1) := by decide +kernel
theorem dX0_worth_2 : decode cX0_worth 2 = .ok (.iconst 0, 1) := by decide +kernel
theorem dX0_worth_3 : decode cX0_worth 3 = .ok (.istore 4, 2) := by decide +kernel
theorem dX0_worth_5 : decode cX0_worth 5 = .ok (.iload 4, 2) := by decide +kernel
theorem dX0_worth_7 : decode cX0_worth 7 = .ok (.bipush 6, 2) := by decide +kernel
theorem dX0_worth_9 : decode cX0_worth 9 = .ok (.if_icmp .ge 36, 3) := by decide +kernel
theorem dX0_worth_12 : decode cX0_worth 12 = .ok (.iload_n 1, 1) := by decide +kernel
theorem dX0_worth_13 : decode cX0_worth 13 = .ok (.bipush 6, 2) := by decide +kernel
theorem dX0_worth_15 : decode cX0_worth 15 = .ok (.imul, 1) := by decide +kernel
theorem dX0_worth_16 : decode cX0_worth 16 = .ok (.iload 4, 2) := by decide +kernel
theorem dX0_worth_18 : decode cX0_worth 18 = .ok (.iadd, 1) := by decide +kernel
theorem dX0_worth_19 : decode cX0_worth 19 = .ok (.istore 5, 2) := by decide +kernel
theorem dX0_worth_21 : decode cX0_worth 21 = .ok (.lload_n 2, 1) := by decide +kernel
theorem dX0_worth_22 : decode cX0_worth 22 = .ok (.aload_n 0, 1) := by decide +kernel
theorem dX0_worth_23 : decode cX0_worth 23 = .ok (.getfield 21, 3) := by decide +kernel
theorem dX0_worth_26 : decode cX0_worth 26 = .ok (.iload 5, 2) := by decide +kernel
theorem dX0_worth_28 : decode cX0_worth 28 = .ok (.laload, 1) := by decide +kernel
theorem dX0_worth_29 : decode cX0_worth 29 = .ok (.aload_n 0, 1) := by decide +kernel
theorem dX0_worth_30 : decode cX0_worth 30 = .ok (.getfield 25, 3) := by decide +kernel
theorem dX0_worth_33 : decode cX0_worth 33 = .ok (.iload 5, 2) := by decide +kernel
theorem dX0_worth_35 : decode cX0_worth 35 = .ok (.laload, 1) := by decide +kernel
theorem dX0_worth_36 : decode cX0_worth 36 = .ok (.lsub, 1) := by decide +kernel
theorem dX0_worth_37 : decode cX0_worth 37 = .ok (.ladd, 1) := by decide +kernel
theorem dX0_worth_38 : decode cX0_worth 38 = .ok (.lstore_n 2, 1) := by decide +kernel
theorem dX0_worth_39 : decode cX0_worth 39 = .ok (.iinc 4 1, 3) := by decide +kernel
theorem dX0_worth_42 : decode cX0_worth 42 = .ok (.goto (-37), 3) := by decide +kernel
theorem dX0_worth_45 : decode cX0_worth 45 = .ok (.lload_n 2, 1) := by decide +kernel
theorem dX0_worth_46 : decode cX0_worth 46 = .ok (.l2i, 1) := by decide +kernel
theorem dX0_worth_47 : decode cX0_worth 47 = .ok (.ireturn, 1) := by decide +kernel
set_option maxRecDepth 20000 in
theorem ggX0_merge_X0_mergeDot : GoodIn wsX0_merge wsX0_mergeDot := goodIn_r _ [15, 16, 1, 17, 18, 19, 20, 21, 22] (by decide +kernel) (by decide +kernel)
set_option maxRecDepth 20000 in
theorem gX0_merge_X0_mergeDot : GoodIn wsX0_merge (wsV RX0 48 RX0 yX0_mergeDot wsX0_mergeDot) := goodIn_app (goodIn_of _ (by decide +kernel)) ggX0_merge_X0_mergeDot
theorem dX0_merge_0 : decode cX0_merge 0 = .ok (.iconst 0, 1) := by decide +kernel
theorem dX0_merge_1 : decode cX0_merge 1 = .ok (.istore_n 2, 1) := by decide +kernel
theorem dX0_merge_2 : decode cX0_merge 2 = .ok (.iconst 0, 1) := by decide +kernel
theorem dX0_merge_3 : decode cX0_merge 3 = .ok (.istore_n 3, 1) := by decide +kernel
theorem dX0_merge_4 : decode cX0_merge 4 = .ok (.iload_n 3, 1) := by decide +kernel
theorem dX0_merge_5 : decode cX0_merge 5 = .ok (.bipush 68, 2) := by decide +kernel
theorem dX0_merge_7 : decode cX0_merge 7 = .ok (.if_icmp .ge 39, 3) := by decide +kernel
theorem dX0_merge_10 : decode cX0_merge 10 = .ok (.iconst 0, 1) := by decide +kernel
theorem dX0_merge_11 : decode cX0_merge 11 = .ok (.istore 4, 2) := by decide +kernel
theorem dX0_merge_13 : decode cX0_merge 13 = .ok (.iload 4, 2) := by decide +kernel
theorem dX0_merge_15 : decode cX0_merge 15 = .ok (.bipush 6, 2) := by decide +kernel
theorem dX0_merge_17 : decode cX0_merge 17 = .ok (.if_icmp .ge 23, 3) := by decide +kernel
theorem dX0_merge_20 : decode cX0_merge 20 = .ok (.aload_n 0, 1) := by decide +kernel
theorem dX0_merge_21 : decode cX0_merge 21 = .ok (.aload_n 1, 1) := by decide +kernel
theorem dX0_merge_22 : decode cX0_merge 22 = .ok (.iload_n 3, 1) := by decide +kernel
theorem dX0_merge_23 : decode cX0_merge 23 = .ok (.iload 4, 2) := by decide +kernel
theorem dX0_merge_25 : decode cX0_merge 25 = .ok (.invokevirtual 48, 3) := by decide +kernel
theorem dX0_merge_28 : decode cX0_merge 28 = .ok (.ifCond .eq 6, 3) := by decide +kernel
theorem dX0_merge_31 : decode cX0_merge 31 = .ok (.iinc 2 1, 3) := by decide +kernel
theorem dX0_merge_34 : decode cX0_merge 34 = .ok (.iinc 4 1, 3) := by decide +kernel
theorem dX0_merge_37 : decode cX0_merge 37 = .ok (.goto (-24), 3) := by decide +kernel
theorem dX0_merge_40 : decode cX0_merge 40 = .ok (.iinc 3 1, 3) := by decide +kernel
theorem dX0_merge_43 : decode cX0_merge 43 = .ok (.goto (-39), 3) := by decide +kernel
theorem dX0_merge_46 : decode cX0_merge 46 = .ok (.iconst 0, 1) := by decide +kernel
theorem dX0_merge_47 : decode cX0_merge 47 = .ok (.istore_n 3, 1) := by decide +kernel
theorem dX0_merge_48 : decode cX0_merge 48 = .ok (.iload_n 3, 1) := by decide +kernel
theorem dX0_merge_49 : decode cX0_merge 49 = .ok (.bipush 6, 2) := by decide +kernel
theorem dX0_merge_51 : decode cX0_merge 51 = .ok (.if_icmp .ge 30, 3) := by decide +kernel
theorem dX0_merge_54 : decode cX0_merge 54 = .ok (.aload_n 0, 1) := by decide +kernel
theorem dX0_merge_55 : decode cX0_merge 55 = .ok (.getfield 9, 3) := by decide +kernel
theorem dX0_merge_58 : decode cX0_merge 58 = .ok (.iload_n 3, 1) := by decide +kernel
theorem dX0_merge_59 : decode cX0_merge 59 = .ok (.aload_n 0, 1) := by decide +kernel
theorem dX0_merge_60 : decode cX0_merge 60 = .ok (.getfield 9, 3) := by decide +kernel
theorem dX0_merge_63 : decode cX0_merge 63 = .ok (.iload_n 3, 1) := by decide +kernel
theorem dX0_merge_64 : decode cX0_merge 64 = .ok (.iaload, 1) := by decide +kernel
theorem dX0_merge_65 : decode cX0_merge 65 = .ok (.aload_n 1, 1) := by decide +kernel
theorem dX0_merge_66 : decode cX0_merge 66 = .ok (.getfield 9, 3) := by decide +kernel
theorem dX0_merge_69 : decode cX0_merge 69 = .ok (.iload_n 3, 1) := by decide +kernel
theorem dX0_merge_70 : decode cX0_merge 70 = .ok (.iaload, 1) := by decide +kernel
theorem dX0_merge_71 : decode cX0_merge 71 = .ok (.invokestatic 52, 3) := by decide +kernel
theorem dX0_merge_74 : decode cX0_merge 74 = .ok (.iastore, 1) := by decide +kernel
theorem dX0_merge_75 : decode cX0_merge 75 = .ok (.iinc 3 1, 3) := by decide +kernel
theorem dX0_merge_78 : decode cX0_merge 78 = .ok (.goto (-30), 3) := by decide +kernel
theorem dX0_merge_81 : decode cX0_merge 81 = .ok (.iconst 0, 1) := by decide +kernel
theorem dX0_merge_82 : decode cX0_merge 82 = .ok (.istore_n 3, 1) := by decide +kernel
theorem dX0_merge_83 : decode cX0_merge 83 = .ok (.iload_n 3, 1) := by decide +kernel
theorem dX0_merge_84 : decode cX0_merge 84 = .ok (.bipush 24, 2) := by decide +kernel
theorem dX0_merge_86 : decode cX0_merge 86 = .ok (.if_icmp .ge 51, 3) := by decide +kernel
theorem dX0_merge_89 : decode cX0_merge 89 = .ok (.aload_n 0, 1) := by decide +kernel
theorem dX0_merge_90 : decode cX0_merge 90 = .ok (.getfield 21, 3) := by decide +kernel
theorem dX0_merge_93 : decode cX0_merge 93 = .ok (.iload_n 3, 1) := by decide +kernel
theorem dX0_merge_94 : decode cX0_merge 94 = .ok (.aload_n 0, 1) := by decide +kernel
theorem dX0_merge_95 : decode cX0_merge 95 = .ok (.getfield 21, 3) := by decide +kernel
theorem dX0_merge_98 : decode cX0_merge 98 = .ok (.iload_n 3, 1) := by decide +kernel
theorem dX0_merge_99 : decode cX0_merge 99 = .ok (.laload, 1) := by decide +kernel
theorem dX0_merge_100 : decode cX0_merge 100 = .ok (.aload_n 1, 1) := by decide +kernel
theorem dX0_merge_101 : decode cX0_merge 101 = .ok (.getfield 21, 3) := by decide +kernel
theorem dX0_merge_104 : decode cX0_merge 104 = .ok (.iload_n 3, 1) := by decide +kernel
theorem dX0_merge_105 : decode cX0_merge 105 = .ok (.laload, 1) := by decide +kernel
theorem dX0_merge_106 : decode cX0_merge 106 = .ok (.invokestatic 58, 3) := by decide +kernel
theorem dX0_merge_109 : decode cX0_merge 109 = .ok (.lastore, 1) := by decide +kernel
theorem dX0_merge_110 : decode cX0_merge 110 = .ok (.aload_n 0, 1) := by decide +kernel
theorem dX0_merge_111 : decode cX0_merge 111 = .ok (.getfield 25, 3) := by decide +kernel
theorem dX0_merge_114 : decode cX0_merge 114 = .ok (.iload_n 3, 1) := by decide +kernel
theorem dX0_merge_115 : decode cX0_merge 115 = .ok (.aload_n 0, 1) := by decide +kernel
theorem dX0_merge_116 : decode cX0_merge 116 = .ok (.getfield 25, 3) := by decide +kernel
theorem dX0_merge_119 : decode cX0_merge 119 = .ok (.iload_n 3, 1) := by decide +kernel
theorem dX0_merge_120 : decode cX0_merge 120 = .ok (.laload, 1) := by decide +kernel
theorem dX0_merge_121 : decode cX0_merge 121 = .ok (.aload_n 1, 1) := by decide +kernel
theorem dX0_merge_122 : decode cX0_merge 122 = .ok (.getfield 25, 3) := by decide +kernel
theorem dX0_merge_125 : decode cX0_merge 125 = .ok (.iload_n 3, 1) := by decide +kernel
theorem dX0_merge_126 : decode cX0_merge 126 = .ok (.laload, 1) := by decide +kernel
theorem dX0_merge_127 : decode cX0_merge 127 = .ok (.invokestatic 58, 3) := by decide +kernel
theorem dX0_merge_130 : decode cX0_merge 130 = .ok (.lastore, 1) := by decide +kernel
theorem dX0_merge_131 : decode cX0_merge 131 = .ok (.iinc 3 1, 3) := by decide +kernel
theorem dX0_merge_134 : decode cX0_merge 134 = .ok (.goto (-51), 3) := by decide +kernel
theorem dX0_merge_137 : decode cX0_merge 137 = .ok (.iload_n 2, 1) := by decide +kernel
theorem dX0_merge_138 : decode cX0_merge 138 = .ok (.ireturn, 1) := by decide +kernel
theorem dX0_mergeDot_0 : decode cX0_mergeDot 0 = .ok (.iload_n 2, 1) := by decide +kernel
theorem dX0_mergeDot_1 : decode cX0_mergeDot 1 = .ok (.bipush 6, 2) := by decide +kernel
theorem dX0_mergeDot_3 : decode cX0_mergeDot 3 = .ok (.imul, 1) := by decide +kernel
theorem dX0_mergeDot_4 : decode cX0_mergeDot 4 = .ok (.iload_n 3, 1) := by decide +kernel
theorem dX0_mergeDot_5 : decode cX0_mergeDot 5 = .ok (.iadd, 1) := by decide +kernel
theorem dX0_mergeDot_6 : decode cX0_mergeDot 6 = .ok (.istore 4, 2) := by decide +kernel
theorem dX0_mergeDot_8 : decode cX0_mergeDot 8 = .ok (.aload_n 1, 1) := by decide +kernel
theorem dX0_mergeDot_9 : decode cX0_mergeDot 9 = .ok (.getfield 15, 3) := by decide +kernel
theorem dX0_mergeDot_12 : decode cX0_mergeDot 12 = .ok (.iload 4, 2) := by decide +kernel
theorem dX0_mergeDot_14 : decode cX0_mergeDot 14 = .ok (.iaload, 1) := by decide +kernel
theorem dX0_mergeDot_15 : decode cX0_mergeDot 15 = .ok (.istore 5, 2) := by decide +kernel
theorem dX0_mergeDot_17 : decode cX0_mergeDot 17 = .ok (.iload 5, 2) := by decide +kernel
theorem dX0_mergeDot_19 : decode cX0_mergeDot 19 = .ok (.aload_n 0, 1) := by decide +kernel
theorem dX0_mergeDot_20 : decode cX0_mergeDot 20 = .ok (.getfield 9, 3) := by decide +kernel
theorem dX0_mergeDot_23 : decode cX0_mergeDot 23 = .ok (.iload_n 3, 1) := by decide +kernel
theorem dX0_mergeDot_24 : decode cX0_mergeDot 24 = .ok (.iaload, 1) := by decide +kernel
theorem dX0_mergeDot_25 : decode cX0_mergeDot 25 = .ok (.if_icmp .le 42, 3) := by decide +kernel
theorem dX0_mergeDot_28 : decode cX0_mergeDot 28 = .ok (.aload_n 0, 1) := by decide +kernel
theorem dX0_mergeDot_29 : decode cX0_mergeDot 29 = .ok (.getfield 15, 3) := by decide +kernel
theorem dX0_mergeDot_32 : decode cX0_mergeDot 32 = .ok (.iload 4, 2) := by decide +kernel
theorem dX0_mergeDot_34 : decode cX0_mergeDot 34 = .ok (.iload 5, 2) := by decide +kernel
theorem dX0_mergeDot_36 : decode cX0_mergeDot 36 = .ok (.iastore, 1) := by decide +kernel
theorem dX0_mergeDot_37 : decode cX0_mergeDot 37 = .ok (.iload_n 2, 1) := by decide +kernel
theorem dX0_mergeDot_38 : decode cX0_mergeDot 38 = .ok (.bipush 64, 2) := by decide +kernel
theorem dX0_mergeDot_40 : decode cX0_mergeDot 40 = .ok (.if_icmp .lt 25, 3) := by decide +kernel
theorem dX0_mergeDot_43 : decode cX0_mergeDot 43 = .ok (.iload 4, 2) := by decide +kernel
theorem dX0_mergeDot_45 : decode cX0_mergeDot 45 = .ok (.sipush 384, 3) := by decide +kernel
theorem dX0_mergeDot_48 : decode cX0_mergeDot 48 = .ok (.isub, 1) := by decide +kernel
theorem dX0_mergeDot_49 : decode cX0_mergeDot 49 = .ok (.istore 6, 2) := by decide +kernel
theorem dX0_mergeDot_51 : decode cX0_mergeDot 51 = .ok (.aload_n 0, 1) := by decide +kernel
theorem dX0_mergeDot_52 : decode cX0_mergeDot 52 = .ok (.getfield 18, 3) := by decide +kernel
theorem dX0_mergeDot_55 : decode cX0_mergeDot 55 = .ok (.iload 6, 2) := by decide +kernel
theorem dX0_mergeDot_57 : decode cX0_mergeDot 57 = .ok (.aload_n 1, 1) := by decide +kernel
theorem dX0_mergeDot_58 : decode cX0_mergeDot 58 = .ok (.getfield 18, 3) := by decide +kernel
theorem dX0_mergeDot_61 : decode cX0_mergeDot 61 = .ok (.iload 6, 2) := by decide +kernel
theorem dX0_mergeDot_63 : decode cX0_mergeDot 63 = .ok (.iaload, 1) := by decide +kernel
theorem dX0_mergeDot_64 : decode cX0_mergeDot 64 = .ok (.iastore, 1) := by decide +kernel
theorem dX0_mergeDot_65 : decode cX0_mergeDot 65 = .ok (.iconst 1, 1) := by decide +kernel
theorem dX0_mergeDot_66 : decode cX0_mergeDot 66 = .ok (.ireturn, 1) := by decide +kernel
theorem dX0_mergeDot_67 : decode cX0_mergeDot 67 = .ok (.aload_n 0, 1) := by decide +kernel
theorem dX0_mergeDot_68 : decode cX0_mergeDot 68 = .ok (.getfield 15, 3) := by decide +kernel
theorem dX0_mergeDot_71 : decode cX0_mergeDot 71 = .ok (.iload 4, 2) := by decide +kernel
theorem dX0_mergeDot_73 : decode cX0_mergeDot 73 = .ok (.iaload, 1) := by decide +kernel
theorem dX0_mergeDot_74 : decode cX0_mergeDot 74 = .ok (.iload 5, 2) := by decide +kernel
theorem dX0_mergeDot_76 : decode cX0_mergeDot 76 = .ok (.if_icmp .eq 27, 3) := by decide +kernel
theorem dX0_mergeDot_79 : decode cX0_mergeDot 79 = .ok (.aload_n 0, 1) := by decide +kernel
theorem dX0_mergeDot_80 : decode cX0_mergeDot 80 = .ok (.getfield 15, 3) := by decide +kernel
theorem dX0_mergeDot_83 : decode cX0_mergeDot 83 = .ok (.iload 4, 2) := by decide +kernel
theorem dX0_mergeDot_85 : decode cX0_mergeDot 85 = .ok (.iaload, 1) := by decide +kernel
theorem dX0_mergeDot_86 : decode cX0_mergeDot 86 = .ok (.aload_n 1, 1) := by decide +kernel
theorem dX0_mergeDot_87 : decode cX0_mergeDot 87 = .ok (.getfield 9, 3) := by decide +kernel
theorem dX0_mergeDot_90 : decode cX0_mergeDot 90 = .ok (.iload_n 3, 1) := by decide +kernel
theorem dX0_mergeDot_91 : decode cX0_mergeDot 91 = .ok (.iaload, 1) := by decide +kernel
theorem dX0_mergeDot_92 : decode cX0_mergeDot 92 = .ok (.if_icmp .gt 11, 3) := by decide +kernel
theorem dX0_mergeDot_95 : decode cX0_mergeDot 95 = .ok (.aload_n 0, 1) := by decide +kernel
theorem dX0_mergeDot_96 : decode cX0_mergeDot 96 = .ok (.getfield 15, 3) := by decide +kernel
theorem dX0_mergeDot_99 : decode cX0_mergeDot 99 = .ok (.iload 4, 2) := by decide +kernel
theorem dX0_mergeDot_101 : decode cX0_mergeDot 101 = .ok (.iconst 0, 1) := by decide +kernel
theorem dX0_mergeDot_102 : decode cX0_mergeDot 102 = .ok (.iastore, 1) := by decide +kernel
theorem dX0_mergeDot_103 : decode cX0_mergeDot 103 = .ok (.iconst 0, 1) := by decide +kernel
theorem dX0_mergeDot_104 : decode cX0_mergeDot 104 = .ok (.ireturn, 1) := by decide +kernel
set_option maxRecDepth 20000 in
theorem ggX0_matches_X0_equalInts : GoodIn wsX0_matches wsX0_equalInts := goodIn_r _ [8] (by decide +kernel) (by decide +kernel)
set_option maxRecDepth 20000 in
theorem gX0_matches_X0_equalInts : GoodIn wsX0_matches (va_wsS RX0 61 yX0_equalInts wsX0_equalInts) := goodIn_app (goodIn_of _ (by decide +kernel)) ggX0_matches_X0_equalInts
set_option maxRecDepth 20000 in
theorem ggX0_matches_X0_equalLongs : GoodIn wsX0_matches wsX0_equalLongs := goodIn_r _ [11] (by decide +kernel) (by decide +kernel)
set_option maxRecDepth 20000 in
theorem gX0_matches_X0_equalLongs : GoodIn wsX0_matches (va_wsS RX0 65 yX0_equalLongs wsX0_equalLongs) := goodIn_app (goodIn_of _ (by decide +kernel)) ggX0_matches_X0_equalLongs
theorem dX0_matches_0 : decode cX0_matches 0 = .ok (.aload_n 0, 1) := by decide +kernel
theorem dX0_matches_1 : decode cX0_matches 1 = .ok (.getfield 9, 3) := by decide +kernel
theorem dX0_matches_4 : decode cX0_matches 4 = .ok (.aload_n 1, 1) := by decide +kernel
theorem dX0_matches_5 : decode cX0_matches 5 = .ok (.getfield 9, 3) := by decide +kernel
theorem dX0_matches_8 : decode cX0_matches 8 = .ok (.invokestatic 61, 3) := by decide +kernel
theorem dX0_matches_11 : decode cX0_matches 11 = .ok (.ifCond .eq 49, 3) := by decide +kernel
theorem dX0_matches_14 : decode cX0_matches 14 = .ok (.aload_n 0, 1) := by decide +kernel
theorem dX0_matches_15 : decode cX0_matches 15 = .ok (.getfield 15, 3) := by decide +kernel
theorem dX0_matches_18 : decode cX0_matches 18 = .ok (.aload_n 1, 1) := by decide +kernel
theorem dX0_matches_19 : decode cX0_matches 19 = .ok (.getfield 15, 3) := by decide +kernel
theorem dX0_matches_22 : decode cX0_matches 22 = .ok (.invokestatic 61, 3) := by decide +kernel
theorem dX0_matches_25 : decode cX0_matches 25 = .ok (.ifCond .eq 35, 3) := by decide +kernel
theorem dX0_matches_28 : decode cX0_matches 28 = .ok (.aload_n 0, 1) := by decide +kernel
theorem dX0_matches_29 : decode cX0_matches 29 = .ok (.getfield 21, 3) := by decide +kernel
theorem dX0_matches_32 : decode cX0_matches 32 = .ok (.aload_n 1, 1) := by decide +kernel
theorem dX0_matches_33 : decode cX0_matches 33 = .ok (.getfield 21, 3) := by decide +kernel
theorem dX0_matches_36 : decode cX0_matches 36 = .ok (.invokestatic 65, 3) := by decide +kernel
theorem dX0_matches_39 : decode cX0_matches 39 = .ok (.ifCond .eq 21, 3) := by decide +kernel
theorem dX0_matches_42 : decode cX0_matches 42 = .ok (.aload_n 0, 1) := by decide +kernel
theorem dX0_matches_43 : decode cX0_matches 43 = .ok (.getfield 25, 3) := by decide +kernel
theorem dX0_matches_46 : decode cX0_matches 46 = .ok (.aload_n 1, 1) := by decide +kernel
theorem dX0_matches_47 : decode cX0_matches 47 = .ok (.getfield 25, 3) := by decide +kernel
theorem dX0_matches_50 : decode cX0_matches 50 = .ok (.invokestatic 65, 3) := by decide +kernel
theorem dX0_matches_53 : decode cX0_matches 53 = .ok (.ifCond .eq 7, 3) := by decide +kernel
theorem dX0_matches_56 : decode cX0_matches 56 = .ok (.iconst 1, 1) := by decide +kernel
theorem dX0_matches_57 : decode cX0_matches 57 = .ok (.goto 4, 3) := by decide +kernel
theorem dX0_matches_60 : decode cX0_matches 60 = .ok (.iconst 0, 1) := by decide +kernel
theorem dX0_matches_61 : decode cX0_matches 61 = .ok (.ireturn, 1) := by decide +kernel
theorem dX0_equalInts_0 : decode cX0_equalInts 0 = .ok (.iconst 0, 1) := by decide +kernel
theorem dX0_equalInts_1 : decode cX0_equalInts 1 = .ok (.istore_n 2, 1) := by decide +kernel
theorem dX0_equalInts_2 : decode cX0_equalInts 2 = .ok (.iload_n 2, 1) := by decide +kernel
theorem dX0_equalInts_3 : decode cX0_equalInts 3 = .ok (.aload_n 0, 1) := by decide +kernel
theorem dX0_equalInts_4 : decode cX0_equalInts 4 = .ok (.arraylength, 1) := by decide +kernel
theorem dX0_equalInts_5 : decode cX0_equalInts 5 = .ok (.if_icmp .ge 26, 3) := by decide +kernel
theorem dX0_equalInts_8 : decode cX0_equalInts 8 = .ok (.iload_n 2, 1) := by decide +kernel
theorem dX0_equalInts_9 : decode cX0_equalInts 9 = .ok (.aload_n 1, 1) := by decide +kernel
theorem dX0_equalInts_10 : decode cX0_equalInts 10 = .ok (.arraylength, 1) := by decide +kernel
theorem dX0_equalInts_11 : decode cX0_equalInts 11 = .ok (.if_icmp .ge 20, 3) := by decide +kernel
theorem dX0_equalInts_14 : decode cX0_equalInts 14 = .ok (.aload_n 0, 1) := by decide +kernel
theorem dX0_equalInts_15 : decode cX0_equalInts 15 = .ok (.iload_n 2, 1) := by decide +kernel
theorem dX0_equalInts_16 : decode cX0_equalInts 16 = .ok (.iaload, 1) := by decide +kernel
theorem dX0_equalInts_17 : decode cX0_equalInts 17 = .ok (.aload_n 1, 1) := by decide +kernel
theorem dX0_equalInts_18 : decode cX0_equalInts 18 = .ok (.iload_n 2, 1) := by decide +kernel
theorem dX0_equalInts_19 : decode cX0_equalInts 19 = .ok (.iaload, 1) := by decide +kernel
theorem dX0_equalInts_20 : decode cX0_equalInts 20 = .ok (.if_icmp .eq 5, 3) := by decide +kernel
theorem dX0_equalInts_23 : decode cX0_equalInts 23 = .ok (.iconst 0, 1) := by decide +kernel
theorem dX0_equalInts_24 : decode cX0_equalInts 24 = .ok (.ireturn, 1) := by decide +kernel
theorem dX0_equalInts_25 : decode cX0_equalInts 25 = .ok (.iinc 2 1, 3) := by decide +kernel
theorem dX0_equalInts_28 : decode cX0_equalInts 28 = .ok (.goto (-26), 3) := by decide +kernel
theorem dX0_equalInts_31 : decode cX0_equalInts 31 = .ok (.iconst 1, 1) := by decide +kernel
theorem dX0_equalInts_32 : decode cX0_equalInts 32 = .ok (.ireturn, 1) := by decide +kernel
theorem dX0_equalLongs_0 : decode cX0_equalLongs 0 = .ok (.iconst 0, 1) := by decide +kernel
theorem dX0_equalLongs_1 : decode cX0_equalLongs 1 = .ok (.istore_n 2, 1) := by decide +kernel
theorem dX0_equalLongs_2 : decode cX0_equalLongs 2 = .ok (.iload_n 2, 1) := by decide +kernel
theorem dX0_equalLongs_3 : decode cX0_equalLongs 3 = .ok (.aload_n 0, 1) := by decide +kernel
theorem dX0_equalLongs_4 : decode cX0_equalLongs 4 = .ok (.arraylength, 1) := by decide +kernel
theorem dX0_equalLongs_5 : decode cX0_equalLongs 5 = .ok (.if_icmp .ge 27, 3) := by decide +kernel
theorem dX0_equalLongs_8 : decode cX0_equalLongs 8 = .ok (.iload_n 2, 1) := by decide +kernel
theorem dX0_equalLongs_9 : decode cX0_equalLongs 9 = .ok (.aload_n 1, 1) := by decide +kernel
theorem dX0_equalLongs_10 : decode cX0_equalLongs 10 = .ok (.arraylength, 1) := by decide +kernel
theorem dX0_equalLongs_11 : decode cX0_equalLongs 11 = .ok (.if_icmp .ge 21, 3) := by decide +kernel
theorem dX0_equalLongs_14 : decode cX0_equalLongs 14 = .ok (.aload_n 0, 1) := by decide +kernel
theorem dX0_equalLongs_15 : decode cX0_equalLongs 15 = .ok (.iload_n 2, 1) := by decide +kernel
theorem dX0_equalLongs_16 : decode cX0_equalLongs 16 = .ok (.laload, 1) := by decide +kernel
theorem dX0_equalLongs_17 : decode cX0_equalLongs 17 = .ok (.aload_n 1, 1) := by decide +kernel
theorem dX0_equalLongs_18 : decode cX0_equalLongs 18 = .ok (.iload_n 2, 1) := by decide +kernel
theorem dX0_equalLongs_19 : decode cX0_equalLongs 19 = .ok (.laload, 1) := by decide +kernel
theorem dX0_equalLongs_20 : decode cX0_equalLongs 20 = .ok (.lcmp, 1) := by decide +kernel
theorem dX0_equalLongs_21 : decode cX0_equalLongs 21 = .ok (.ifCond .eq 5, 3) := by decide +kernel
theorem dX0_equalLongs_24 : decode cX0_equalLongs 24 = .ok (.iconst 0, 1) := by decide +kernel
theorem dX0_equalLongs_25 : decode cX0_equalLongs 25 = .ok (.ireturn, 1) := by decide +kernel
theorem dX0_equalLongs_26 : decode cX0_equalLongs 26 = .ok (.iinc 2 1, 3) := by decide +kernel
theorem dX0_equalLongs_29 : decode cX0_equalLongs 29 = .ok (.goto (-27), 3) := by decide +kernel
theorem dX0_equalLongs_32 : decode cX0_equalLongs 32 = .ok (.iconst 1, 1) := by decide +kernel
theorem dX0_equalLongs_33 : decode cX0_equalLongs 33 = .ok (.ireturn, 1) := by decide +kernel
theorem dX1_init_0 : decode cX1_init 0 = .ok (.aload_n 0, 1) := by decide +kernel
theorem dX1_init_1 : decode cX1_init 1 = .ok (.invokespecial 1, 3) := by decide +kernel
theorem dX1_init_4 : decode cX1_init 4 = .ok (.aload_n 0, 1) := by decide +kernel
theorem dX1_init_5 : decode cX1_init 5 = .ok (.iload_n 1, 1) := by decide +kernel
theorem dX1_init_6 : decode cX1_init 6 = .ok (.putfield 7, 3) := by decide +kernel
theorem dX1_init_9 : decode cX1_init 9 = .ok (.aload_n 0, 1) := by decide +kernel
theorem dX1_init_10 : decode cX1_init 10 = .ok (.iload_n 2, 1) := by decide +kernel
theorem dX1_init_11 : decode cX1_init 11 = .ok (.putfield 13, 3) := by decide +kernel
theorem dX1_init_14 : decode cX1_init 14 = .ok (.aload_n 0, 1) := by decide +kernel
theorem dX1_init_15 : decode cX1_init 15 = .ok (.aload_n 3, 1) := by decide +kernel
theorem dX1_init_16 : decode cX1_init 16 = .ok (.putfield 16, 3) := by decide +kernel
theorem dX1_init_19 : decode cX1_init 19 = .ok (.return_, 1) := by decide +kernel
set_option maxRecDepth 20000 in
theorem ggX2_init_X0_init : GoodIn wsX2_init wsX0_init := goodIn_r _ [15, 16, 2, 3, 17, 18, 19, 20, 21, 22, 23, 42, 43, 44, 45, 46] (by decide +kernel) (by decide +kernel)
set_option maxRecDepth 20000 in
theorem gX2_init_X0_init : GoodIn wsX2_init (wsX0_init) := ggX2_init_X0_init
set_option maxRecDepth 20000 in
theorem ggX2_init_Jx4a65c_init_da8c8 : GoodIn wsX2_init wsJx4a65c_init_da8c8 := goodIn_r _ [26, 27, 28, 29, 30, 31, 32, 33, 34, 35, 36, 37, 38, 2, 3, 47, 48, 49] (by decide +kernel) (by decide +kernel)
set_option maxRecDepth 20000 in
theorem gX2_init_Jx4a65c_init_da8c8 : GoodIn wsX2_init (wsJx4a65c_init_da8c8) := ggX2_init_Jx4a65c_init_da8c8
theorem dX2_init_0 : decode cX2_init 0 = .ok (.aload_n 0, 1) := by decide +kernel
theorem dX2_init_1 : decode cX2_init 1 = .ok (.invokespecial 3, 3) := by decide +kernel
theorem dX2_init_4 : decode cX2_init 4 = .ok (.aload_n 0, 1) := by decide +kernel
theorem dX2_init_5 : decode cX2_init 5 = .ok (.bipush 6, 2) := by decide +kernel
theorem dX2_init_7 : decode cX2_init 7 = .ok (.anewarray 9, 3) := by decide +kernel
theorem dX2_init_10 : decode cX2_init 10 = .ok (.putfield 11, 3) := by decide +kernel
theorem dX2_init_13 : decode cX2_init 13 = .ok (.iconst 0, 1) := by decide +kernel
theorem dX2_init_14 : decode cX2_init 14 = .ok (.istore_n 1, 1) := by decide +kernel
theorem dX2_init_15 : decode cX2_init 15 = .ok (.iload_n 1, 1) := by decide +kernel
theorem dX2_init_16 : decode cX2_init 16 = .ok (.bipush 6, 2) := by decide +kernel
theorem dX2_init_18 : decode cX2_init 18 = .ok (.if_icmp .ge 22, 3) := by decide +kernel
theorem dX2_init_21 : decode cX2_init 21 = .ok (.aload_n 0, 1) := by decide +kernel
theorem dX2_init_22 : decode cX2_init 22 = .ok (.getfield 11, 3) := by decide +kernel
theorem dX2_init_25 : decode cX2_init 25 = .ok (.iload_n 1, 1) := by decide +kernel
theorem dX2_init_26 : decode cX2_init 26 = .ok (.new 9, 3) := by decide +kernel
theorem dX2_init_29 : decode cX2_init 29 = .ok (.dup, 1) := by decide +kernel
theorem dX2_init_30 : decode cX2_init 30 = .ok (.invokespecial 15, 3) := by decide +kernel
theorem dX2_init_33 : decode cX2_init 33 = .ok (.aastore, 1) := by decide +kernel
theorem dX2_init_34 : decode cX2_init 34 = .ok (.iinc 1 1, 3) := by decide +kernel
theorem dX2_init_37 : decode cX2_init 37 = .ok (.goto (-22), 3) := by decide +kernel
theorem dX2_init_40 : decode cX2_init 40 = .ok (.aload_n 0, 1) := by decide +kernel
theorem dX2_init_41 : decode cX2_init 41 = .ok (.new 16, 3) := by decide +kernel
theorem dX2_init_44 : decode cX2_init 44 = .ok (.dup, 1) := by decide +kernel
theorem dX2_init_45 : decode cX2_init 45 = .ok (.invokespecial 18, 3) := by decide +kernel
theorem dX2_init_48 : decode cX2_init 48 = .ok (.putfield 19, 3) := by decide +kernel
theorem dX2_init_51 : decode cX2_init 51 = .ok (.aload_n 0, 1) := by decide +kernel
theorem dX2_init_52 : decode cX2_init 52 = .ok (.iconst 2, 1) := by decide +kernel
theorem dX2_init_53 : decode cX2_init 53 = .ok (.putfield 23, 3) := by decide +kernel
theorem dX2_init_56 : decode cX2_init 56 = .ok (.return_, 1) := by decide +kernel
set_option maxRecDepth 20000 in
theorem ggX2_open_X2_require : GoodIn wsX2_open wsX2_require := goodIn_ca (goodIn_r _ [7, 8, 9] (by decide +kernel) (by decide +kernel)) (goodIn_sub (fun _ h => List.mem_cons_of_mem _ (List.mem_append_right _ h)) (by decide +kernel))
set_option maxRecDepth 20000 in
theorem gX2_open_X2_require : GoodIn wsX2_open (va_wsS RX2 27 yX2_require wsX2_require) := goodIn_app (goodIn_of _ (by decide +kernel)) ggX2_open_X2_require
set_option maxRecDepth 20000 in
theorem ggX2_open_X0_wipe : GoodIn wsX2_open wsX0_wipe := goodIn_r _ [14, 15, 16, 17, 18, 19, 20, 21, 22, 23, 24, 25, 26, 39, 40, 41, 42, 43] (by decide +kernel) (by decide +kernel)
set_option maxRecDepth 20000 in
theorem gX2_open_X0_wipe : GoodIn wsX2_open (wsV RX2 31 RX0 yX0_wipe wsX0_wipe) := goodIn_app (goodIn_of _ (by decide +kernel)) ggX2_open_X0_wipe
set_option maxRecDepth 20000 in
theorem ggX2_open_Jx4a65c_clear_da8c8 : GoodIn wsX2_open wsJx4a65c_clear_da8c8 := goodIn_r _ [31, 32, 33, 34, 35, 44, 45, 46] (by decide +kernel) (by decide +kernel)
set_option maxRecDepth 20000 in
theorem gX2_open_Jx4a65c_clear_da8c8 : GoodIn wsX2_open (wsV RX2 34 RJx4a65c yJx4a65c_clear_da8c8 wsJx4a65c_clear_da8c8) := goodIn_app (goodIn_of _ (by decide +kernel)) ggX2_open_Jx4a65c_clear_da8c8
theorem dX2_open_0 : decode cX2_open 0 = .ok (.iload_n 1, 1) := by decide +kernel
theorem dX2_open_1 : decode cX2_open 1 = .ok (.iconst 2, 1) := by decide +kernel
theorem dX2_open_2 : decode cX2_open 2 = .ok (.if_icmp .lt 13, 3) := by decide +kernel
theorem dX2_open_5 : decode cX2_open 5 = .ok (.iload_n 1, 1) := by decide +kernel
theorem dX2_open_6 : decode cX2_open 6 = .ok (.bipush 6, 2) := by decide +kernel
theorem dX2_open_8 : decode cX2_open 8 = .ok (.if_icmp .gt 7, 3) := by decide +kernel
theorem dX2_open_11 : decode cX2_open 11 = .ok (.iconst 1, 1) := by decide +kernel
theorem dX2_open_12 : decode cX2_open 12 = .ok (.goto 4, 3) := by decide +kernel
theorem dX2_open_15 : decode cX2_open 15 = .ok (.iconst 0, 1) := by decide +kernel
theorem dX2_open_16 : decode cX2_open 16 = .ok (.invokestatic 27, 3) := by decide +kernel
theorem dX2_open_19 : decode cX2_open 19 = .ok (.iconst 0, 1) := by decide +kernel
theorem dX2_open_20 : decode cX2_open 20 = .ok (.istore_n 2, 1) := by decide +kernel
theorem dX2_open_21 : decode cX2_open 21 = .ok (.iload_n 2, 1) := by decide +kernel
theorem dX2_open_22 : decode cX2_open 22 = .ok (.bipush 6, 2) := by decide +kernel
theorem dX2_open_24 : decode cX2_open 24 = .ok (.if_icmp .ge 18, 3) := by decide +kernel
theorem dX2_open_27 : decode cX2_open 27 = .ok (.aload_n 0, 1) := by decide +kernel
theorem dX2_open_28 : decode cX2_open 28 = .ok (.getfield 11, 3) := by decide +kernel
theorem dX2_open_31 : decode cX2_open 31 = .ok (.iload_n 2, 1) := by decide +kernel
theorem dX2_open_32 : decode cX2_open 32 = .ok (.aaload, 1) := by decide +kernel
theorem dX2_open_33 : decode cX2_open 33 = .ok (.invokevirtual 31, 3) := by decide +kernel
theorem dX2_open_36 : decode cX2_open 36 = .ok (.iinc 2 1, 3) := by decide +kernel
theorem dX2_open_39 : decode cX2_open 39 = .ok (.goto (-18), 3) := by decide +kernel
theorem dX2_open_42 : decode cX2_open 42 = .ok (.aload_n 0, 1) := by decide +kernel
theorem dX2_open_43 : decode cX2_open 43 = .ok (.getfield 19, 3) := by decide +kernel
theorem dX2_open_46 : decode cX2_open 46 = .ok (.invokevirtual 34, 3) := by decide +kernel
theorem dX2_open_49 : decode cX2_open 49 = .ok (.aload_n 0, 1) := by decide +kernel
theorem dX2_open_50 : decode cX2_open 50 = .ok (.iload_n 1, 1) := by decide +kernel
theorem dX2_open_51 : decode cX2_open 51 = .ok (.putfield 23, 3) := by decide +kernel
theorem dX2_open_54 : decode cX2_open 54 = .ok (.return_, 1) := by decide +kernel
set_option maxRecDepth 20000 in
theorem ggX2_add_X2_requireElement : GoodIn wsX2_add wsX2_requireElement := goodIn_ca (goodIn_r _ [6, 7, 8, 9, 5, 10, 11, 12, 13, 14, 15, 16, 17, 18, 19, 38, 39, 40] (by decide +kernel) (by decide +kernel)) (goodIn_sub (fun _ h => List.mem_cons_of_mem _ (List.mem_append_right _ h)) (by decide +kernel))
set_option maxRecDepth 20000 in
theorem gX2_add_X2_requireElement : GoodIn wsX2_add (wsV RX2 37 RX2 yX2_requireElement wsX2_requireElement) := goodIn_app (goodIn_of _ (by decide +kernel)) ggX2_add_X2_requireElement
set_option maxRecDepth 20000 in
theorem ggX2_add_X2_placeOfElement : GoodIn wsX2_add wsX2_placeOfElement := goodIn_r _ [22] (by decide +kernel) (by decide +kernel)
set_option maxRecDepth 20000 in
theorem gX2_add_X2_placeOfElement : GoodIn wsX2_add (va_wsS RX2 41 yX2_placeOfElement wsX2_placeOfElement) := goodIn_app (goodIn_of _ (by decide +kernel)) ggX2_add_X2_placeOfElement
set_option maxRecDepth 20000 in
theorem ggX2_add_X0_forget : GoodIn wsX2_add wsX0_forget := goodIn_r _ [27, 28, 29, 30, 31, 26, 32, 41, 42, 43, 44, 45] (by decide +kernel) (by decide +kernel)
set_option maxRecDepth 20000 in
theorem gX2_add_X0_forget : GoodIn wsX2_add (wsV RX2 45 RX0 yX0_forget wsX0_forget) := goodIn_app (goodIn_of _ (by decide +kernel)) ggX2_add_X0_forget
set_option maxRecDepth 20000 in
theorem ggX2_add_X0_makeDot : GoodIn wsX2_add wsX0_makeDot := goodIn_r _ [36, 37, 28, 41, 42, 43, 44, 45] (by decide +kernel) (by decide +kernel)
set_option maxRecDepth 20000 in
theorem gX2_add_X0_makeDot : GoodIn wsX2_add (wsV RX2 49 RX0 yX0_makeDot wsX0_makeDot) := goodIn_app (goodIn_of _ (by decide +kernel)) ggX2_add_X0_makeDot
theorem dX2_add_0 : decode cX2_add 0 = .ok (.aload_n 0, 1) := by decide +kernel
theorem dX2_add_1 : decode cX2_add 1 = .ok (.iload_n 1, 1) := by decide +kernel
theorem dX2_add_2 : decode cX2_add 2 = .ok (.iload_n 2, 1) := by decide +kernel
theorem dX2_add_3 : decode cX2_add 3 = .ok (.iload_n 3, 1) := by decide +kernel
theorem dX2_add_4 : decode cX2_add 4 = .ok (.invokevirtual 37, 3) := by decide +kernel
theorem dX2_add_7 : decode cX2_add 7 = .ok (.aload_n 0, 1) := by decide +kernel
theorem dX2_add_8 : decode cX2_add 8 = .ok (.getfield 11, 3) := by decide +kernel
theorem dX2_add_11 : decode cX2_add 11 = .ok (.iload_n 1, 1) := by decide +kernel
theorem dX2_add_12 : decode cX2_add 12 = .ok (.aaload, 1) := by decide +kernel
theorem dX2_add_13 : decode cX2_add 13 = .ok (.astore 4, 2) := by decide +kernel
theorem dX2_add_15 : decode cX2_add 15 = .ok (.iload_n 2, 1) := by decide +kernel
theorem dX2_add_16 : decode cX2_add 16 = .ok (.iload_n 3, 1) := by decide +kernel
theorem dX2_add_17 : decode cX2_add 17 = .ok (.invokestatic 41, 3) := by decide +kernel
theorem dX2_add_20 : decode cX2_add 20 = .ok (.istore 5, 2) := by decide +kernel
theorem dX2_add_22 : decode cX2_add 22 = .ok (.aload 4, 2) := by decide +kernel
theorem dX2_add_24 : decode cX2_add 24 = .ok (.iload 5, 2) := by decide +kernel
theorem dX2_add_26 : decode cX2_add 26 = .ok (.invokevirtual 45, 3) := by decide +kernel
theorem dX2_add_29 : decode cX2_add 29 = .ok (.pop, 1) := by decide +kernel
theorem dX2_add_30 : decode cX2_add 30 = .ok (.aload 4, 2) := by decide +kernel
theorem dX2_add_32 : decode cX2_add 32 = .ok (.iload 5, 2) := by decide +kernel
theorem dX2_add_34 : decode cX2_add 34 = .ok (.iload_n 1, 1) := by decide +kernel
theorem dX2_add_35 : decode cX2_add 35 = .ok (.invokevirtual 49, 3) := by decide +kernel
theorem dX2_add_38 : decode cX2_add 38 = .ok (.ireturn, 1) := by decide +kernel
set_option maxRecDepth 20000 in
theorem ggX2_remove_X2_requireElement : GoodIn wsX2_remove wsX2_requireElement := goodIn_ca (goodIn_r _ [6, 7, 8, 9, 5, 10, 11, 12, 13, 14, 15, 16, 17, 18, 19, 33, 34, 35] (by decide +kernel) (by decide +kernel)) (goodIn_sub (fun _ h => List.mem_cons_of_mem _ (List.mem_append_right _ h)) (by decide +kernel))
set_option maxRecDepth 20000 in
theorem gX2_remove_X2_requireElement : GoodIn wsX2_remove (wsV RX2 37 RX2 yX2_requireElement wsX2_requireElement) := goodIn_app (goodIn_of _ (by decide +kernel)) ggX2_remove_X2_requireElement
set_option maxRecDepth 20000 in
theorem ggX2_remove_X2_placeOfElement : GoodIn wsX2_remove wsX2_placeOfElement := goodIn_r _ [22] (by decide +kernel) (by decide +kernel)
set_option maxRecDepth 20000 in
theorem gX2_remove_X2_placeOfElement : GoodIn wsX2_remove (va_wsS RX2 41 yX2_placeOfElement wsX2_placeOfElement) := goodIn_app (goodIn_of _ (by decide +kernel)) ggX2_remove_X2_placeOfElement
set_option maxRecDepth 20000 in
theorem ggX2_remove_X0_forget : GoodIn wsX2_remove wsX0_forget := goodIn_r _ [27, 28, 29, 30, 31, 26, 32, 36, 37, 38, 39, 40] (by decide +kernel) (by decide +kernel)
set_option maxRecDepth 20000 in
theorem gX2_remove_X0_forget : GoodIn wsX2_remove (wsV RX2 45 RX0 yX0_forget wsX0_forget) := goodIn_app (goodIn_of _ (by decide +kernel)) ggX2_remove_X0_forget
theorem dX2_remove_0 : decode cX2_remove 0 = .ok (.aload_n 0, 1) := by decide +kernel
theorem dX2_remove_1 : decode cX2_remove 1 = .ok (.iload_n 1, 1) := by decide +kernel
theorem dX2_remove_2 : decode cX2_remove 2 = .ok (.iload_n 2, 1) := by decide +kernel
theorem dX2_remove_3 : decode cX2_remove 3 = .ok (.iload_n 3, 1) := by decide +kernel
theorem dX2_remove_4 : decode cX2_remove 4 = .ok (.invokevirtual 37, 3) := by decide +kernel
theorem dX2_remove_7 : decode cX2_remove 7 = .ok (.aload_n 0, 1) := by decide +kernel
theorem dX2_remove_8 : decode cX2_remove 8 = .ok (.getfield 11, 3) := by decide +kernel
theorem dX2_remove_11 : decode cX2_remove 11 = .ok (.iload_n 1, 1) := by decide +kernel
theorem dX2_remove_12 : decode cX2_remove 12 = .ok (.aaload, 1) := by decide +kernel
theorem dX2_remove_13 : decode cX2_remove 13 = .ok (.iload_n 2, 1) := by decide +kernel
theorem dX2_remove_14 : decode cX2_remove 14 = .ok (.iload_n 3, 1) := by decide +kernel
theorem dX2_remove_15 : decode cX2_remove 15 = .ok (.invokestatic 41, 3) := by decide +kernel
theorem dX2_remove_18 : decode cX2_remove 18 = .ok (.invokevirtual 45, 3) := by decide +kernel
theorem dX2_remove_21 : decode cX2_remove 21 = .ok (.ireturn, 1) := by decide +kernel
set_option maxRecDepth 20000 in
theorem ggX2_clear_X2_requireReplica : GoodIn wsX2_clear wsX2_requireReplica := goodIn_ca (goodIn_r _ [6, 7, 8, 9, 5, 10, 11, 12, 13, 14, 15, 29, 30, 31] (by decide +kernel) (by decide +kernel)) (goodIn_sub (fun _ h => List.mem_cons_of_mem _ (List.mem_append_right _ h)) (by decide +kernel))
set_option maxRecDepth 20000 in
theorem gX2_clear_X2_requireReplica : GoodIn wsX2_clear (wsV RX2 52 RX2 yX2_requireReplica wsX2_requireReplica) := goodIn_app (goodIn_of _ (by decide +kernel)) ggX2_clear_X2_requireReplica
set_option maxRecDepth 20000 in
theorem ggX2_clear_X2_requireIndex : GoodIn wsX2_clear wsX2_requireIndex := goodIn_ca (goodIn_r _ [10, 11, 12, 5, 13, 14, 15] (by decide +kernel) (by decide +kernel)) (goodIn_sub (fun _ h => List.mem_cons_of_mem _ (List.mem_append_right _ h)) (by decide +kernel))
set_option maxRecDepth 20000 in
theorem gX2_clear_X2_requireIndex : GoodIn wsX2_clear (va_wsS RX2 56 yX2_requireIndex wsX2_requireIndex) := goodIn_app (goodIn_of _ (by decide +kernel)) ggX2_clear_X2_requireIndex
set_option maxRecDepth 20000 in
theorem ggX2_clear_X2_placeOfElement : GoodIn wsX2_clear wsX2_placeOfElement := goodIn_r _ [18] (by decide +kernel) (by decide +kernel)
set_option maxRecDepth 20000 in
theorem gX2_clear_X2_placeOfElement : GoodIn wsX2_clear (va_wsS RX2 41 yX2_placeOfElement wsX2_placeOfElement) := goodIn_app (goodIn_of _ (by decide +kernel)) ggX2_clear_X2_placeOfElement
set_option maxRecDepth 20000 in
theorem ggX2_clear_X0_forget : GoodIn wsX2_clear wsX0_forget := goodIn_r _ [23, 24, 25, 26, 27, 22, 28, 32, 33, 34, 35, 36] (by decide +kernel) (by decide +kernel)
set_option maxRecDepth 20000 in
theorem gX2_clear_X0_forget : GoodIn wsX2_clear (wsV RX2 45 RX0 yX0_forget wsX0_forget) := goodIn_app (goodIn_of _ (by decide +kernel)) ggX2_clear_X0_forget
theorem dX2_clear_0 : decode cX2_clear 0 = .ok (.aload_n 0, 1) := by decide +kernel
theorem dX2_clear_1 : decode cX2_clear 1 = .ok (.iload_n 1, 1) := by decide +kernel
theorem dX2_clear_2 : decode cX2_clear 2 = .ok (.invokevirtual 52, 3) := by decide +kernel
theorem dX2_clear_5 : decode cX2_clear 5 = .ok (.iload_n 2, 1) := by decide +kernel
theorem dX2_clear_6 : decode cX2_clear 6 = .ok (.iconst 4, 1) := by decide +kernel
theorem dX2_clear_7 : decode cX2_clear 7 = .ok (.invokestatic 56, 3) := by decide +kernel
theorem dX2_clear_10 : decode cX2_clear 10 = .ok (.iconst 0, 1) := by decide +kernel
theorem dX2_clear_11 : decode cX2_clear 11 = .ok (.istore_n 3, 1) := by decide +kernel
theorem dX2_clear_12 : decode cX2_clear 12 = .ok (.iconst 0, 1) := by decide +kernel
theorem dX2_clear_13 : decode cX2_clear 13 = .ok (.istore 4, 2) := by decide +kernel
theorem dX2_clear_15 : decode cX2_clear 15 = .ok (.iload 4, 2) := by decide +kernel
theorem dX2_clear_17 : decode cX2_clear 17 = .ok (.bipush 16, 2) := by decide +kernel
theorem dX2_clear_19 : decode cX2_clear 19 = .ok (.if_icmp .ge 30, 3) := by decide +kernel
theorem dX2_clear_22 : decode cX2_clear 22 = .ok (.aload_n 0, 1) := by decide +kernel
theorem dX2_clear_23 : decode cX2_clear 23 = .ok (.getfield 11, 3) := by decide +kernel
theorem dX2_clear_26 : decode cX2_clear 26 = .ok (.iload_n 1, 1) := by decide +kernel
theorem dX2_clear_27 : decode cX2_clear 27 = .ok (.aaload, 1) := by decide +kernel
theorem dX2_clear_28 : decode cX2_clear 28 = .ok (.iload_n 2, 1) := by decide +kernel
theorem dX2_clear_29 : decode cX2_clear 29 = .ok (.iload 4, 2) := by decide +kernel
theorem dX2_clear_31 : decode cX2_clear 31 = .ok (.invokestatic 41, 3) := by decide +kernel
theorem dX2_clear_34 : decode cX2_clear 34 = .ok (.invokevirtual 45, 3) := by decide +kernel
theorem dX2_clear_37 : decode cX2_clear 37 = .ok (.ifCond .le 6, 3) := by decide +kernel
theorem dX2_clear_40 : decode cX2_clear 40 = .ok (.iinc 3 1, 3) := by decide +kernel
theorem dX2_clear_43 : decode cX2_clear 43 = .ok (.iinc 4 1, 3) := by decide +kernel
theorem dX2_clear_46 : decode cX2_clear 46 = .ok (.goto (-31), 3) := by decide +kernel
theorem dX2_clear_49 : decode cX2_clear 49 = .ok (.iload_n 3, 1) := by decide +kernel
theorem dX2_clear_50 : decode cX2_clear 50 = .ok (.ireturn, 1) := by decide +kernel
set_option maxRecDepth 20000 in
theorem ggX2_write_X2_requireReplica : GoodIn wsX2_write wsX2_requireReplica := goodIn_ca (goodIn_r _ [7, 8, 9, 10, 6, 11, 12, 13, 14, 15, 16, 32, 33, 34] (by decide +kernel) (by decide +kernel)) (goodIn_sub (fun _ h => List.mem_cons_of_mem _ (List.mem_append_right _ h)) (by decide +kernel))
set_option maxRecDepth 20000 in
theorem gX2_write_X2_requireReplica : GoodIn wsX2_write (wsV RX2 52 RX2 yX2_requireReplica wsX2_requireReplica) := goodIn_app (goodIn_of _ (by decide +kernel)) ggX2_write_X2_requireReplica
set_option maxRecDepth 20000 in
theorem ggX2_write_X2_requireIndex : GoodIn wsX2_write wsX2_requireIndex := goodIn_ca (goodIn_r _ [11, 12, 13, 6, 14, 15, 16] (by decide +kernel) (by decide +kernel)) (goodIn_sub (fun _ h => List.mem_cons_of_mem _ (List.mem_append_right _ h)) (by decide +kernel))
set_option maxRecDepth 20000 in
theorem gX2_write_X2_requireIndex : GoodIn wsX2_write (va_wsS RX2 56 yX2_requireIndex wsX2_requireIndex) := goodIn_app (goodIn_of _ (by decide +kernel)) ggX2_write_X2_requireIndex
set_option maxRecDepth 20000 in
theorem ggX2_write_X0_forget : GoodIn wsX2_write wsX0_forget := goodIn_r _ [21, 22, 23, 24, 25, 20, 26, 35, 36, 37, 38, 39] (by decide +kernel) (by decide +kernel)
set_option maxRecDepth 20000 in
theorem gX2_write_X0_forget : GoodIn wsX2_write (wsV RX2 45 RX0 yX0_forget wsX0_forget) := goodIn_app (goodIn_of _ (by decide +kernel)) ggX2_write_X0_forget
set_option maxRecDepth 20000 in
theorem ggX2_write_X0_makeDot : GoodIn wsX2_write wsX0_makeDot := goodIn_r _ [30, 31, 22, 35, 36, 37, 38, 39] (by decide +kernel) (by decide +kernel)
set_option maxRecDepth 20000 in
theorem gX2_write_X0_makeDot : GoodIn wsX2_write (wsV RX2 49 RX0 yX0_makeDot wsX0_makeDot) := goodIn_app (goodIn_of _ (by decide +kernel)) ggX2_write_X0_makeDot
theorem dX2_write_0 : decode cX2_write 0 = .ok (.aload_n 0, 1) := by decide +kernel
theorem dX2_write_1 : decode cX2_write 1 = .ok (.iload_n 1, 1) := by decide +kernel
theorem dX2_write_2 : decode cX2_write 2 = .ok (.invokevirtual 52, 3) := by decide +kernel
theorem dX2_write_5 : decode cX2_write 5 = .ok (.iload_n 2, 1) := by decide +kernel
theorem dX2_write_6 : decode cX2_write 6 = .ok (.iconst 4, 1) := by decide +kernel
theorem dX2_write_7 : decode cX2_write 7 = .ok (.invokestatic 56, 3) := by decide +kernel
theorem dX2_write_10 : decode cX2_write 10 = .ok (.aload_n 0, 1) := by decide +kernel
theorem dX2_write_11 : decode cX2_write 11 = .ok (.getfield 11, 3) := by decide +kernel
theorem dX2_write_14 : decode cX2_write 14 = .ok (.iload_n 1, 1) := by decide +kernel
theorem dX2_write_15 : decode cX2_write 15 = .ok (.aaload, 1) := by decide +kernel
theorem dX2_write_16 : decode cX2_write 16 = .ok (.astore 4, 2) := by decide +kernel
theorem dX2_write_18 : decode cX2_write 18 = .ok (.bipush 64, 2) := by decide +kernel
theorem dX2_write_20 : decode cX2_write 20 = .ok (.iload_n 2, 1) := by decide +kernel
theorem dX2_write_21 : decode cX2_write 21 = .ok (.iadd, 1) := by decide +kernel
theorem dX2_write_22 : decode cX2_write 22 = .ok (.istore 5, 2) := by decide +kernel
theorem dX2_write_24 : decode cX2_write 24 = .ok (.aload 4, 2) := by decide +kernel
theorem dX2_write_26 : decode cX2_write 26 = .ok (.iload 5, 2) := by decide +kernel
theorem dX2_write_28 : decode cX2_write 28 = .ok (.invokevirtual 45, 3) := by decide +kernel
theorem dX2_write_31 : decode cX2_write 31 = .ok (.istore 6, 2) := by decide +kernel
theorem dX2_write_33 : decode cX2_write 33 = .ok (.aload 4, 2) := by decide +kernel
end
section
theorem dX2_write_35 : decode cX2_write 35 = .ok (.iload 5, 2) := by decide +kernel
theorem dX2_write_37 : decode cX2_write 37 = .ok (.iload_n 1, 1) := by decide +kernel
theorem dX2_write_38 : decode cX2_write 38 = .ok (.invokevirtual 49, 3) := by decide +kernel
theorem dX2_write_41 : decode cX2_write 41 = .ok (.pop, 1) := by decide +kernel
theorem dX2_write_42 : decode cX2_write 42 = .ok (.aload 4, 2) := by decide +kernel
theorem dX2_write_44 : decode cX2_write 44 = .ok (.getfield 60, 3) := by decide +kernel
theorem dX2_write_47 : decode cX2_write 47 = .ok (.iload_n 2, 1) := by decide +kernel
theorem dX2_write_48 : decode cX2_write 48 = .ok (.bipush 6, 2) := by decide +kernel
theorem dX2_write_50 : decode cX2_write 50 = .ok (.imul, 1) := by decide +kernel
theorem dX2_write_51 : decode cX2_write 51 = .ok (.iload_n 1, 1) := by decide +kernel
theorem dX2_write_52 : decode cX2_write 52 = .ok (.iadd, 1) := by decide +kernel
theorem dX2_write_53 : decode cX2_write 53 = .ok (.iload_n 3, 1) := by decide +kernel
theorem dX2_write_54 : decode cX2_write 54 = .ok (.iastore, 1) := by decide +kernel
theorem dX2_write_55 : decode cX2_write 55 = .ok (.iload 6, 2) := by decide +kernel
theorem dX2_write_57 : decode cX2_write 57 = .ok (.ireturn, 1) := by decide +kernel
set_option maxRecDepth 20000 in
theorem ggX2_count_X2_requireReplica : GoodIn wsX2_count wsX2_requireReplica := goodIn_ca (goodIn_r _ [8, 9, 10, 11, 7, 12, 13, 14, 15, 16, 17, 25, 26, 27] (by decide +kernel) (by decide +kernel)) (goodIn_sub (fun _ h => List.mem_cons_of_mem _ (List.mem_append_right _ h)) (by decide +kernel))
set_option maxRecDepth 20000 in
theorem gX2_count_X2_requireReplica : GoodIn wsX2_count (wsV RX2 52 RX2 yX2_requireReplica wsX2_requireReplica) := goodIn_app (goodIn_of _ (by decide +kernel)) ggX2_count_X2_requireReplica
set_option maxRecDepth 20000 in
theorem ggX2_count_X2_requireIndex : GoodIn wsX2_count wsX2_requireIndex := goodIn_ca (goodIn_r _ [12, 13, 14, 7, 15, 16, 17] (by decide +kernel) (by decide +kernel)) (goodIn_sub (fun _ h => List.mem_cons_of_mem _ (List.mem_append_right _ h)) (by decide +kernel))
set_option maxRecDepth 20000 in
theorem gX2_count_X2_requireIndex : GoodIn wsX2_count (va_wsS RX2 56 yX2_requireIndex wsX2_requireIndex) := goodIn_app (goodIn_of _ (by decide +kernel)) ggX2_count_X2_requireIndex
set_option maxRecDepth 20000 in
theorem ggX2_count_X0_worth : GoodIn wsX2_count wsX0_worth := goodIn_r _ [22, 23, 24, 28, 29, 30, 31, 32] (by decide +kernel) (by decide +kernel)
set_option maxRecDepth 20000 in
theorem gX2_count_X0_worth : GoodIn wsX2_count (wsV RX2 71 RX0 yX0_worth wsX0_worth) := goodIn_app (goodIn_of _ (by decide +kernel)) ggX2_count_X0_worth
theorem dX2_count_0 : decode cX2_count 0 = .ok (.aload_n 0, 1) := by decide +kernel
theorem dX2_count_1 : decode cX2_count 1 = .ok (.iload_n 1, 1) := by decide +kernel
theorem dX2_count_2 : decode cX2_count 2 = .ok (.invokevirtual 52, 3) := by decide +kernel
theorem dX2_count_5 : decode cX2_count 5 = .ok (.iload_n 2, 1) := by decide +kernel
theorem dX2_count_6 : decode cX2_count 6 = .ok (.iconst 4, 1) := by decide +kernel
theorem dX2_count_7 : decode cX2_count 7 = .ok (.invokestatic 56, 3) := by decide +kernel
theorem dX2_count_10 : decode cX2_count 10 = .ok (.aload_n 0, 1) := by decide +kernel
theorem dX2_count_11 : decode cX2_count 11 = .ok (.getfield 11, 3) := by decide +kernel
theorem dX2_count_14 : decode cX2_count 14 = .ok (.iload_n 1, 1) := by decide +kernel
theorem dX2_count_15 : decode cX2_count 15 = .ok (.aaload, 1) := by decide +kernel
theorem dX2_count_16 : decode cX2_count 16 = .ok (.astore 4, 2) := by decide +kernel
theorem dX2_count_18 : decode cX2_count 18 = .ok (.iload_n 2, 1) := by decide +kernel
theorem dX2_count_19 : decode cX2_count 19 = .ok (.bipush 6, 2) := by decide +kernel
theorem dX2_count_21 : decode cX2_count 21 = .ok (.imul, 1) := by decide +kernel
theorem dX2_count_22 : decode cX2_count 22 = .ok (.iload_n 1, 1) := by decide +kernel
theorem dX2_count_23 : decode cX2_count 23 = .ok (.iadd, 1) := by decide +kernel
theorem dX2_count_24 : decode cX2_count 24 = .ok (.istore 5, 2) := by decide +kernel
theorem dX2_count_26 : decode cX2_count 26 = .ok (.iload_n 3, 1) := by decide +kernel
theorem dX2_count_27 : decode cX2_count 27 = .ok (.ifCond .lt 19, 3) := by decide +kernel
theorem dX2_count_30 : decode cX2_count 30 = .ok (.aload 4, 2) := by decide +kernel
theorem dX2_count_32 : decode cX2_count 32 = .ok (.getfield 64, 3) := by decide +kernel
theorem dX2_count_35 : decode cX2_count 35 = .ok (.iload 5, 2) := by decide +kernel
theorem dX2_count_37 : decode cX2_count 37 = .ok (.dup2, 1) := by decide +kernel
theorem dX2_count_38 : decode cX2_count 38 = .ok (.laload, 1) := by decide +kernel
theorem dX2_count_39 : decode cX2_count 39 = .ok (.iload_n 3, 1) := by decide +kernel
theorem dX2_count_40 : decode cX2_count 40 = .ok (.i2l, 1) := by decide +kernel
theorem dX2_count_41 : decode cX2_count 41 = .ok (.ladd, 1) := by decide +kernel
theorem dX2_count_42 : decode cX2_count 42 = .ok (.lastore, 1) := by decide +kernel
theorem dX2_count_43 : decode cX2_count 43 = .ok (.goto 16, 3) := by decide +kernel
theorem dX2_count_46 : decode cX2_count 46 = .ok (.aload 4, 2) := by decide +kernel
theorem dX2_count_48 : decode cX2_count 48 = .ok (.getfield 68, 3) := by decide +kernel
theorem dX2_count_51 : decode cX2_count 51 = .ok (.iload 5, 2) := by decide +kernel
theorem dX2_count_53 : decode cX2_count 53 = .ok (.dup2, 1) := by decide +kernel
theorem dX2_count_54 : decode cX2_count 54 = .ok (.laload, 1) := by decide +kernel
theorem dX2_count_55 : decode cX2_count 55 = .ok (.iload_n 3, 1) := by decide +kernel
theorem dX2_count_56 : decode cX2_count 56 = .ok (.i2l, 1) := by decide +kernel
theorem dX2_count_57 : decode cX2_count 57 = .ok (.lsub, 1) := by decide +kernel
theorem dX2_count_58 : decode cX2_count 58 = .ok (.lastore, 1) := by decide +kernel
theorem dX2_count_59 : decode cX2_count 59 = .ok (.aload 4, 2) := by decide +kernel
theorem dX2_count_61 : decode cX2_count 61 = .ok (.iload_n 2, 1) := by decide +kernel
theorem dX2_count_62 : decode cX2_count 62 = .ok (.invokevirtual 71, 3) := by decide +kernel
theorem dX2_count_65 : decode cX2_count 65 = .ok (.ireturn, 1) := by decide +kernel
set_option maxRecDepth 20000 in
theorem ggX2_gossip_X2_requireReplica : GoodIn wsX2_gossip wsX2_requireReplica := goodIn_ca (goodIn_r _ [12, 13, 14, 15, 11, 16, 17, 18, 19, 20, 21, 110, 111, 112] (by decide +kernel) (by decide +kernel)) (goodIn_sub (fun _ h => List.mem_cons_of_mem _ (List.mem_append_right _ h)) (by decide +kernel))
set_option maxRecDepth 20000 in
theorem gX2_gossip_X2_requireReplica : GoodIn wsX2_gossip (wsV RX2 52 RX2 yX2_requireReplica wsX2_requireReplica) := goodIn_app (goodIn_of _ (by decide +kernel)) ggX2_gossip_X2_requireReplica
set_option maxRecDepth 20000 in
theorem ggX2_gossip_X2_require : GoodIn wsX2_gossip wsX2_require := goodIn_ca (goodIn_r _ [19, 20, 21] (by decide +kernel) (by decide +kernel)) (goodIn_sub (fun _ h => List.mem_cons_of_mem _ (List.mem_append_right _ h)) (by decide +kernel))
set_option maxRecDepth 20000 in
theorem gX2_gossip_X2_require : GoodIn wsX2_gossip (va_wsS RX2 27 yX2_require wsX2_require) := goodIn_app (goodIn_of _ (by decide +kernel)) ggX2_gossip_X2_require
set_option maxRecDepth 20000 in
theorem ggX2_gossip_Jx4a65c_size_8abf5 : GoodIn wsX2_gossip wsJx4a65c_size_8abf5 := goodIn_r _ [26, 27, 116, 117, 118] (by decide +kernel) (by decide +kernel)
set_option maxRecDepth 20000 in
theorem gX2_gossip_Jx4a65c_size_8abf5 : GoodIn wsX2_gossip (wsV RX2 74 RJx4a65c yJx4a65c_size_8abf5 wsJx4a65c_size_8abf5) := goodIn_app (goodIn_of _ (by decide +kernel)) ggX2_gossip_Jx4a65c_size_8abf5
set_option maxRecDepth 20000 in
theorem ggX2_gossip_X0_snapshot : GoodIn wsX2_gossip wsX0_snapshot := goodIn_r _ [32, 33, 34, 31, 35, 36, 37, 38, 39, 40, 41, 42, 43, 44, 45, 46, 47, 48, 49, 50, 51, 119, 120, 121, 122, 123] (by decide +kernel) (by decide +kernel)
set_option maxRecDepth 20000 in
theorem gX2_gossip_X0_snapshot : GoodIn wsX2_gossip (wsV RX2 83 RX0 yX0_snapshot wsX0_snapshot) := goodIn_app (goodIn_of _ (by decide +kernel)) ggX2_gossip_X0_snapshot
set_option maxRecDepth 20000 in
theorem ggX2_gossip_X1_init : GoodIn wsX2_gossip wsX1_init := goodIn_r _ [54, 55, 48, 49, 56, 57, 58, 113, 114, 115] (by decide +kernel) (by decide +kernel)
set_option maxRecDepth 20000 in
theorem gX2_gossip_X1_init : GoodIn wsX2_gossip (wsX1_init) := ggX2_gossip_X1_init
set_option maxRecDepth 20000 in
theorem ggX2_gossip_Jx4a65c_add_9ea2d : GoodIn wsX2_gossip wsJx4a65c_add_9ea2d := goodIn_r _ [62, 63, 64, 65, 27, 66, 67, 68, 25, 69, 70, 71, 72, 73, 74, 75, 76, 77, 78, 79, 80, 81, 82, 83, 84, 85, 86, 87, 88, 89, 90, 91, 92, 93, 94, 95, 96, 97, 98, 99, 100, 101, 102, 103, 104, 105, 106, 107, 108, 109, 37, 38, 39, 116, 117, 118] (by decide +kernel) (by decide +kernel)
set_option maxRecDepth 20000 in
theorem gX2_gossip_Jx4a65c_add_9ea2d : GoodIn wsX2_gossip (wsV RX2 90 RJx4a65c yJx4a65c_add_9ea2d wsJx4a65c_add_9ea2d) := goodIn_app (goodIn_of _ (by decide +kernel)) ggX2_gossip_Jx4a65c_add_9ea2d
theorem dX2_gossip_0 : decode cX2_gossip 0 = .ok (.aload_n 0, 1) := by decide +kernel
theorem dX2_gossip_1 : decode cX2_gossip 1 = .ok (.iload_n 1, 1) := by decide +kernel
theorem dX2_gossip_2 : decode cX2_gossip 2 = .ok (.invokevirtual 52, 3) := by decide +kernel
theorem dX2_gossip_5 : decode cX2_gossip 5 = .ok (.aload_n 0, 1) := by decide +kernel
theorem dX2_gossip_6 : decode cX2_gossip 6 = .ok (.iload_n 2, 1) := by decide +kernel
theorem dX2_gossip_7 : decode cX2_gossip 7 = .ok (.invokevirtual 52, 3) := by decide +kernel
theorem dX2_gossip_10 : decode cX2_gossip 10 = .ok (.iload_n 1, 1) := by decide +kernel
theorem dX2_gossip_11 : decode cX2_gossip 11 = .ok (.iload_n 2, 1) := by decide +kernel
theorem dX2_gossip_12 : decode cX2_gossip 12 = .ok (.if_icmp .eq 7, 3) := by decide +kernel
theorem dX2_gossip_15 : decode cX2_gossip 15 = .ok (.iconst 1, 1) := by decide +kernel
theorem dX2_gossip_16 : decode cX2_gossip 16 = .ok (.goto 4, 3) := by decide +kernel
theorem dX2_gossip_19 : decode cX2_gossip 19 = .ok (.iconst 0, 1) := by decide +kernel
theorem dX2_gossip_20 : decode cX2_gossip 20 = .ok (.invokestatic 27, 3) := by decide +kernel
theorem dX2_gossip_23 : decode cX2_gossip 23 = .ok (.aload_n 0, 1) := by decide +kernel
theorem dX2_gossip_24 : decode cX2_gossip 24 = .ok (.getfield 19, 3) := by decide +kernel
theorem dX2_gossip_27 : decode cX2_gossip 27 = .ok (.invokevirtual 74, 3) := by decide +kernel
theorem dX2_gossip_30 : decode cX2_gossip 30 = .ok (.bipush 100, 2) := by decide +kernel
theorem dX2_gossip_32 : decode cX2_gossip 32 = .ok (.if_icmp .lt 11, 3) := by decide +kernel
theorem dX2_gossip_35 : decode cX2_gossip 35 = .ok (.new 78, 3) := by decide +kernel
theorem dX2_gossip_38 : decode cX2_gossip 38 = .ok (.dup, 1) := by decide +kernel
theorem dX2_gossip_39 : decode cX2_gossip 39 = .ok (.invokespecial 80, 3) := by decide +kernel
theorem dX2_gossip_42 : decode cX2_gossip 42 = .ok (.athrow, 1) := by decide +kernel
theorem dX2_gossip_43 : decode cX2_gossip 43 = .ok (.aload_n 0, 1) := by decide +kernel
theorem dX2_gossip_44 : decode cX2_gossip 44 = .ok (.getfield 19, 3) := by decide +kernel
theorem dX2_gossip_47 : decode cX2_gossip 47 = .ok (.new 81, 3) := by decide +kernel
theorem dX2_gossip_50 : decode cX2_gossip 50 = .ok (.dup, 1) := by decide +kernel
theorem dX2_gossip_51 : decode cX2_gossip 51 = .ok (.iload_n 1, 1) := by decide +kernel
theorem dX2_gossip_52 : decode cX2_gossip 52 = .ok (.iload_n 2, 1) := by decide +kernel
theorem dX2_gossip_53 : decode cX2_gossip 53 = .ok (.aload_n 0, 1) := by decide +kernel
theorem dX2_gossip_54 : decode cX2_gossip 54 = .ok (.getfield 11, 3) := by decide +kernel
theorem dX2_gossip_57 : decode cX2_gossip 57 = .ok (.iload_n 1, 1) := by decide +kernel
theorem dX2_gossip_58 : decode cX2_gossip 58 = .ok (.aaload, 1) := by decide +kernel
theorem dX2_gossip_59 : decode cX2_gossip 59 = .ok (.invokevirtual 83, 3) := by decide +kernel
theorem dX2_gossip_62 : decode cX2_gossip 62 = .ok (.invokespecial 87, 3) := by decide +kernel
theorem dX2_gossip_65 : decode cX2_gossip 65 = .ok (.invokevirtual 90, 3) := by decide +kernel
theorem dX2_gossip_68 : decode cX2_gossip 68 = .ok (.pop, 1) := by decide +kernel
theorem dX2_gossip_69 : decode cX2_gossip 69 = .ok (.aload_n 0, 1) := by decide +kernel
theorem dX2_gossip_70 : decode cX2_gossip 70 = .ok (.getfield 19, 3) := by decide +kernel
theorem dX2_gossip_73 : decode cX2_gossip 73 = .ok (.invokevirtual 74, 3) := by decide +kernel
theorem dX2_gossip_76 : decode cX2_gossip 76 = .ok (.ireturn, 1) := by decide +kernel
set_option maxRecDepth 20000 in
theorem ggX2_deliver_Jx4a65c_size_8abf5 : GoodIn wsX2_deliver wsJx4a65c_size_8abf5 := goodIn_r _ [10, 11, 71, 72, 73] (by decide +kernel) (by decide +kernel)
set_option maxRecDepth 20000 in
theorem gX2_deliver_Jx4a65c_size_8abf5 : GoodIn wsX2_deliver (wsV RX2 74 RJx4a65c yJx4a65c_size_8abf5 wsJx4a65c_size_8abf5) := goodIn_app (goodIn_of _ (by decide +kernel)) ggX2_deliver_Jx4a65c_size_8abf5
set_option maxRecDepth 20000 in
theorem ggX2_deliver_X2_requireIndex : GoodIn wsX2_deliver wsX2_requireIndex := goodIn_ca (goodIn_r _ [15, 16, 17, 14, 18, 19, 20] (by decide +kernel) (by decide +kernel)) (goodIn_sub (fun _ h => List.mem_cons_of_mem _ (List.mem_append_right _ h)) (by decide +kernel))
set_option maxRecDepth 20000 in
theorem gX2_deliver_X2_requireIndex : GoodIn wsX2_deliver (va_wsS RX2 56 yX2_requireIndex wsX2_requireIndex) := goodIn_app (goodIn_of _ (by decide +kernel)) ggX2_deliver_X2_requireIndex
set_option maxRecDepth 20000 in
theorem ggX2_deliver_Jx4a65c_remove_915e3 : GoodIn wsX2_deliver wsJx4a65c_remove_915e3 := goodIn_r _ [24, 11, 25, 26, 27, 28, 29, 30, 31, 32, 33, 34, 35, 36, 9, 37, 38, 39, 40, 41, 42, 43, 71, 72, 73] (by decide +kernel) (by decide +kernel)
set_option maxRecDepth 20000 in
theorem gX2_deliver_Jx4a65c_remove_915e3 : GoodIn wsX2_deliver (wsV RX2 94 RJx4a65c yJx4a65c_remove_915e3 wsJx4a65c_remove_915e3) := goodIn_app (goodIn_of _ (by decide +kernel)) ggX2_deliver_Jx4a65c_remove_915e3
set_option maxRecDepth 20000 in
theorem ggX2_deliver_X0_merge : GoodIn wsX2_deliver wsX0_merge := goodIn_r _ [48, 49, 50, 51, 52, 53, 54, 55, 56, 57, 58, 59, 60, 61, 47, 62, 63, 64, 74, 75, 76, 77, 78] (by decide +kernel) (by decide +kernel)
set_option maxRecDepth 20000 in
theorem gX2_deliver_X0_merge : GoodIn wsX2_deliver (wsV RX2 105 RX0 yX0_merge wsX0_merge) := goodIn_app (goodIn_of _ (by decide +kernel)) ggX2_deliver_X0_merge
theorem dX2_deliver_0 : decode cX2_deliver 0 = .ok (.iload_n 1, 1) := by decide +kernel
theorem dX2_deliver_1 : decode cX2_deliver 1 = .ok (.aload_n 0, 1) := by decide +kernel
theorem dX2_deliver_2 : decode cX2_deliver 2 = .ok (.getfield 19, 3) := by decide +kernel
theorem dX2_deliver_5 : decode cX2_deliver 5 = .ok (.invokevirtual 74, 3) := by decide +kernel
theorem dX2_deliver_8 : decode cX2_deliver 8 = .ok (.invokestatic 56, 3) := by decide +kernel
theorem dX2_deliver_11 : decode cX2_deliver 11 = .ok (.aload_n 0, 1) := by decide +kernel
theorem dX2_deliver_12 : decode cX2_deliver 12 = .ok (.getfield 19, 3) := by decide +kernel
theorem dX2_deliver_15 : decode cX2_deliver 15 = .ok (.iload_n 1, 1) := by decide +kernel
theorem dX2_deliver_16 : decode cX2_deliver 16 = .ok (.invokevirtual 94, 3) := by decide +kernel
theorem dX2_deliver_19 : decode cX2_deliver 19 = .ok (.checkcast 81, 3) := by decide +kernel
theorem dX2_deliver_22 : decode cX2_deliver 22 = .ok (.astore_n 2, 1) := by decide +kernel
theorem dX2_deliver_23 : decode cX2_deliver 23 = .ok (.aload_n 0, 1) := by decide +kernel
theorem dX2_deliver_24 : decode cX2_deliver 24 = .ok (.getfield 11, 3) := by decide +kernel
theorem dX2_deliver_27 : decode cX2_deliver 27 = .ok (.aload_n 2, 1) := by decide +kernel
theorem dX2_deliver_28 : decode cX2_deliver 28 = .ok (.getfield 98, 3) := by decide +kernel
theorem dX2_deliver_31 : decode cX2_deliver 31 = .ok (.aaload, 1) := by decide +kernel
theorem dX2_deliver_32 : decode cX2_deliver 32 = .ok (.aload_n 2, 1) := by decide +kernel
theorem dX2_deliver_33 : decode cX2_deliver 33 = .ok (.getfield 101, 3) := by decide +kernel
theorem dX2_deliver_36 : decode cX2_deliver 36 = .ok (.invokevirtual 105, 3) := by decide +kernel
theorem dX2_deliver_39 : decode cX2_deliver 39 = .ok (.ireturn, 1) := by decide +kernel
set_option maxRecDepth 20000 in
theorem ggX2_drop_Jx4a65c_size_8abf5 : GoodIn wsX2_drop wsJx4a65c_size_8abf5 := goodIn_r _ [8, 9, 48, 49, 50] (by decide +kernel) (by decide +kernel)
set_option maxRecDepth 20000 in
theorem gX2_drop_Jx4a65c_size_8abf5 : GoodIn wsX2_drop (wsV RX2 74 RJx4a65c yJx4a65c_size_8abf5 wsJx4a65c_size_8abf5) := goodIn_app (goodIn_of _ (by decide +kernel)) ggX2_drop_Jx4a65c_size_8abf5
set_option maxRecDepth 20000 in
theorem ggX2_drop_X2_requireIndex : GoodIn wsX2_drop wsX2_requireIndex := goodIn_ca (goodIn_r _ [13, 14, 15, 12, 16, 17, 18] (by decide +kernel) (by decide +kernel)) (goodIn_sub (fun _ h => List.mem_cons_of_mem _ (List.mem_append_right _ h)) (by decide +kernel))
set_option maxRecDepth 20000 in
theorem gX2_drop_X2_requireIndex : GoodIn wsX2_drop (va_wsS RX2 56 yX2_requireIndex wsX2_requireIndex) := goodIn_app (goodIn_of _ (by decide +kernel)) ggX2_drop_X2_requireIndex
set_option maxRecDepth 20000 in
theorem ggX2_drop_Jx4a65c_remove_915e3 : GoodIn wsX2_drop wsJx4a65c_remove_915e3 := goodIn_r _ [22, 9, 23, 24, 25, 26, 27, 28, 29, 30, 31, 32, 33, 34, 7, 35, 36, 37, 38, 39, 40, 41, 48, 49, 50] (by decide +kernel) (by decide +kernel)
set_option maxRecDepth 20000 in
theorem gX2_drop_Jx4a65c_remove_915e3 : GoodIn wsX2_drop (wsV RX2 94 RJx4a65c yJx4a65c_remove_915e3 wsJx4a65c_remove_915e3) := goodIn_app (goodIn_of _ (by decide +kernel)) ggX2_drop_Jx4a65c_remove_915e3
theorem dX2_drop_0 : decode cX2_drop 0 = .ok (.iload_n 1, 1) := by decide +kernel
theorem dX2_drop_1 : decode cX2_drop 1 = .ok (.aload_n 0, 1) := by decide +kernel
theorem dX2_drop_2 : decode cX2_drop 2 = .ok (.getfield 19, 3) := by decide +kernel
theorem dX2_drop_5 : decode cX2_drop 5 = .ok (.invokevirtual 74, 3) := by decide +kernel
theorem dX2_drop_8 : decode cX2_drop 8 = .ok (.invokestatic 56, 3) := by decide +kernel
theorem dX2_drop_11 : decode cX2_drop 11 = .ok (.aload_n 0, 1) := by decide +kernel
theorem dX2_drop_12 : decode cX2_drop 12 = .ok (.getfield 19, 3) := by decide +kernel
theorem dX2_drop_15 : decode cX2_drop 15 = .ok (.iload_n 1, 1) := by decide +kernel
theorem dX2_drop_16 : decode cX2_drop 16 = .ok (.invokevirtual 94, 3) := by decide +kernel
theorem dX2_drop_19 : decode cX2_drop 19 = .ok (.checkcast 81, 3) := by decide +kernel
theorem dX2_drop_22 : decode cX2_drop 22 = .ok (.getfield 98, 3) := by decide +kernel
theorem dX2_drop_25 : decode cX2_drop 25 = .ok (.ireturn, 1) := by decide +kernel
set_option maxRecDepth 20000 in
theorem ggX2_copy_Jx4a65c_size_8abf5 : GoodIn wsX2_copy wsJx4a65c_size_8abf5 := goodIn_r _ [13, 14, 109, 110, 111] (by decide +kernel) (by decide +kernel)
set_option maxRecDepth 20000 in
theorem gX2_copy_Jx4a65c_size_8abf5 : GoodIn wsX2_copy (wsV RX2 74 RJx4a65c yJx4a65c_size_8abf5 wsJx4a65c_size_8abf5) := goodIn_app (goodIn_of _ (by decide +kernel)) ggX2_copy_Jx4a65c_size_8abf5
set_option maxRecDepth 20000 in
theorem ggX2_copy_X2_requireIndex : GoodIn wsX2_copy wsX2_requireIndex := goodIn_ca (goodIn_r _ [18, 19, 20, 17, 21, 22, 23] (by decide +kernel) (by decide +kernel)) (goodIn_sub (fun _ h => List.mem_cons_of_mem _ (List.mem_append_right _ h)) (by decide +kernel))
set_option maxRecDepth 20000 in
theorem gX2_copy_X2_requireIndex : GoodIn wsX2_copy (va_wsS RX2 56 yX2_requireIndex wsX2_requireIndex) := goodIn_app (goodIn_of _ (by decide +kernel)) ggX2_copy_X2_requireIndex
set_option maxRecDepth 20000 in
theorem ggX2_copy_Jx4a65c_get_915e3 : GoodIn wsX2_copy wsJx4a65c_get_915e3 := goodIn_r _ [27, 14, 28, 29, 30, 31, 32, 33, 34, 35, 36, 37, 38, 12, 39, 40, 109, 110, 111] (by decide +kernel) (by decide +kernel)
set_option maxRecDepth 20000 in
theorem gX2_copy_Jx4a65c_get_915e3 : GoodIn wsX2_copy (wsV RX2 109 RJx4a65c yJx4a65c_get_915e3 wsJx4a65c_get_915e3) := goodIn_app (goodIn_of _ (by decide +kernel)) ggX2_copy_Jx4a65c_get_915e3
set_option maxRecDepth 20000 in
theorem ggX2_copy_X1_init : GoodIn wsX2_copy wsX1_init := goodIn_r _ [43, 44, 45, 46, 47, 48, 49, 106, 107, 108] (by decide +kernel) (by decide +kernel)
set_option maxRecDepth 20000 in
theorem gX2_copy_X1_init : GoodIn wsX2_copy (wsX1_init) := ggX2_copy_X1_init
set_option maxRecDepth 20000 in
theorem ggX2_copy_Jx4a65c_add_9ea2d : GoodIn wsX2_copy wsJx4a65c_add_9ea2d := goodIn_r _ [53, 54, 55, 40, 14, 56, 57, 58, 12, 59, 60, 61, 62, 63, 64, 65, 66, 67, 68, 69, 70, 71, 72, 73, 74, 75, 76, 77, 78, 79, 80, 81, 82, 83, 84, 85, 86, 87, 88, 89, 90, 91, 92, 93, 94, 95, 96, 97, 98, 99, 100, 101, 102, 109, 110, 111] (by decide +kernel) (by decide +kernel)
set_option maxRecDepth 20000 in
theorem gX2_copy_Jx4a65c_add_9ea2d : GoodIn wsX2_copy (wsV RX2 90 RJx4a65c yJx4a65c_add_9ea2d wsJx4a65c_add_9ea2d) := goodIn_app (goodIn_of _ (by decide +kernel)) ggX2_copy_Jx4a65c_add_9ea2d
theorem dX2_copy_0 : decode cX2_copy 0 = .ok (.iload_n 1, 1) := by decide +kernel
theorem dX2_copy_1 : decode cX2_copy 1 = .ok (.aload_n 0, 1) := by decide +kernel
theorem dX2_copy_2 : decode cX2_copy 2 = .ok (.getfield 19, 3) := by decide +kernel
theorem dX2_copy_5 : decode cX2_copy 5 = .ok (.invokevirtual 74, 3) := by decide +kernel
theorem dX2_copy_8 : decode cX2_copy 8 = .ok (.invokestatic 56, 3) := by decide +kernel
theorem dX2_copy_11 : decode cX2_copy 11 = .ok (.aload_n 0, 1) := by decide +kernel
theorem dX2_copy_12 : decode cX2_copy 12 = .ok (.getfield 19, 3) := by decide +kernel
theorem dX2_copy_15 : decode cX2_copy 15 = .ok (.invokevirtual 74, 3) := by decide +kernel
theorem dX2_copy_18 : decode cX2_copy 18 = .ok (.bipush 100, 2) := by decide +kernel
theorem dX2_copy_20 : decode cX2_copy 20 = .ok (.if_icmp .lt 5, 3) := by decide +kernel
theorem dX2_copy_23 : decode cX2_copy 23 = .ok (.iconst 0, 1) := by decide +kernel
theorem dX2_copy_24 : decode cX2_copy 24 = .ok (.ireturn, 1) := by decide +kernel
theorem dX2_copy_25 : decode cX2_copy 25 = .ok (.aload_n 0, 1) := by decide +kernel
theorem dX2_copy_26 : decode cX2_copy 26 = .ok (.getfield 19, 3) := by decide +kernel
theorem dX2_copy_29 : decode cX2_copy 29 = .ok (.iload_n 1, 1) := by decide +kernel
theorem dX2_copy_30 : decode cX2_copy 30 = .ok (.invokevirtual 109, 3) := by decide +kernel
theorem dX2_copy_33 : decode cX2_copy 33 = .ok (.checkcast 81, 3) := by decide +kernel
theorem dX2_copy_36 : decode cX2_copy 36 = .ok (.astore_n 2, 1) := by decide +kernel
theorem dX2_copy_37 : decode cX2_copy 37 = .ok (.aload_n 0, 1) := by decide +kernel
theorem dX2_copy_38 : decode cX2_copy 38 = .ok (.getfield 19, 3) := by decide +kernel
theorem dX2_copy_41 : decode cX2_copy 41 = .ok (.new 81, 3) := by decide +kernel
theorem dX2_copy_44 : decode cX2_copy 44 = .ok (.dup, 1) := by decide +kernel
theorem dX2_copy_45 : decode cX2_copy 45 = .ok (.aload_n 2, 1) := by decide +kernel
theorem dX2_copy_46 : decode cX2_copy 46 = .ok (.getfield 112, 3) := by decide +kernel
theorem dX2_copy_49 : decode cX2_copy 49 = .ok (.aload_n 2, 1) := by decide +kernel
theorem dX2_copy_50 : decode cX2_copy 50 = .ok (.getfield 98, 3) := by decide +kernel
theorem dX2_copy_53 : decode cX2_copy 53 = .ok (.aload_n 2, 1) := by decide +kernel
theorem dX2_copy_54 : decode cX2_copy 54 = .ok (.getfield 101, 3) := by decide +kernel
theorem dX2_copy_57 : decode cX2_copy 57 = .ok (.invokespecial 87, 3) := by decide +kernel
theorem dX2_copy_60 : decode cX2_copy 60 = .ok (.invokevirtual 90, 3) := by decide +kernel
theorem dX2_copy_63 : decode cX2_copy 63 = .ok (.pop, 1) := by decide +kernel
theorem dX2_copy_64 : decode cX2_copy 64 = .ok (.iconst 1, 1) := by decide +kernel
theorem dX2_copy_65 : decode cX2_copy 65 = .ok (.ireturn, 1) := by decide +kernel
set_option maxRecDepth 20000 in
theorem ggX2_turn_Jx4a65c_size_8abf5 : GoodIn wsX2_turn wsJx4a65c_size_8abf5 := goodIn_r _ [8, 9, 47, 48, 49] (by decide +kernel) (by decide +kernel)
set_option maxRecDepth 20000 in
theorem gX2_turn_Jx4a65c_size_8abf5 : GoodIn wsX2_turn (wsV RX2 74 RJx4a65c yJx4a65c_size_8abf5 wsJx4a65c_size_8abf5) := goodIn_app (goodIn_of _ (by decide +kernel)) ggX2_turn_Jx4a65c_size_8abf5
set_option maxRecDepth 20000 in
theorem ggX2_turn_X2_requireIndex : GoodIn wsX2_turn wsX2_requireIndex := goodIn_ca (goodIn_r _ [13, 14, 15, 12, 16, 17, 18] (by decide +kernel) (by decide +kernel)) (goodIn_sub (fun _ h => List.mem_cons_of_mem _ (List.mem_append_right _ h)) (by decide +kernel))
set_option maxRecDepth 20000 in
theorem gX2_turn_X2_requireIndex : GoodIn wsX2_turn (va_wsS RX2 56 yX2_requireIndex wsX2_requireIndex) := goodIn_app (goodIn_of _ (by decide +kernel)) ggX2_turn_X2_requireIndex
set_option maxRecDepth 20000 in
theorem ggX2_turn_X2_requireReplica : GoodIn wsX2_turn wsX2_requireReplica := goodIn_ca (goodIn_r _ [22, 23, 10, 11, 12, 13, 14, 15, 16, 17, 18, 41, 42, 43] (by decide +kernel) (by decide +kernel)) (goodIn_sub (fun _ h => List.mem_cons_of_mem _ (List.mem_append_right _ h)) (by decide +kernel))
set_option maxRecDepth 20000 in
theorem gX2_turn_X2_requireReplica : GoodIn wsX2_turn (wsV RX2 52 RX2 yX2_requireReplica wsX2_requireReplica) := goodIn_app (goodIn_of _ (by decide +kernel)) ggX2_turn_X2_requireReplica
set_option maxRecDepth 20000 in
theorem ggX2_turn_Jx4a65c_get_915e3 : GoodIn wsX2_turn wsJx4a65c_get_915e3 := goodIn_r _ [27, 9, 28, 29, 30, 31, 32, 33, 34, 35, 36, 37, 38, 7, 39, 40, 47, 48, 49] (by decide +kernel) (by decide +kernel)
set_option maxRecDepth 20000 in
theorem gX2_turn_Jx4a65c_get_915e3 : GoodIn wsX2_turn (wsV RX2 109 RJx4a65c yJx4a65c_get_915e3 wsJx4a65c_get_915e3) := goodIn_app (goodIn_of _ (by decide +kernel)) ggX2_turn_Jx4a65c_get_915e3
theorem dX2_turn_0 : decode cX2_turn 0 = .ok (.iload_n 1, 1) := by decide +kernel
theorem dX2_turn_1 : decode cX2_turn 1 = .ok (.aload_n 0, 1) := by decide +kernel
theorem dX2_turn_2 : decode cX2_turn 2 = .ok (.getfield 19, 3) := by decide +kernel
theorem dX2_turn_5 : decode cX2_turn 5 = .ok (.invokevirtual 74, 3) := by decide +kernel
theorem dX2_turn_8 : decode cX2_turn 8 = .ok (.invokestatic 56, 3) := by decide +kernel
theorem dX2_turn_11 : decode cX2_turn 11 = .ok (.aload_n 0, 1) := by decide +kernel
theorem dX2_turn_12 : decode cX2_turn 12 = .ok (.iload_n 2, 1) := by decide +kernel
theorem dX2_turn_13 : decode cX2_turn 13 = .ok (.invokevirtual 52, 3) := by decide +kernel
theorem dX2_turn_16 : decode cX2_turn 16 = .ok (.aload_n 0, 1) := by decide +kernel
theorem dX2_turn_17 : decode cX2_turn 17 = .ok (.getfield 19, 3) := by decide +kernel
theorem dX2_turn_20 : decode cX2_turn 20 = .ok (.iload_n 1, 1) := by decide +kernel
theorem dX2_turn_21 : decode cX2_turn 21 = .ok (.invokevirtual 109, 3) := by decide +kernel
theorem dX2_turn_24 : decode cX2_turn 24 = .ok (.checkcast 81, 3) := by decide +kernel
theorem dX2_turn_27 : decode cX2_turn 27 = .ok (.iload_n 2, 1) := by decide +kernel
theorem dX2_turn_28 : decode cX2_turn 28 = .ok (.putfield 98, 3) := by decide +kernel
theorem dX2_turn_31 : decode cX2_turn 31 = .ok (.return_, 1) := by decide +kernel
set_option maxRecDepth 20000 in
theorem ggX2_contains_X2_requireElement : GoodIn wsX2_contains wsX2_requireElement := goodIn_ca (goodIn_r _ [6, 7, 8, 9, 5, 10, 11, 12, 13, 14, 15, 16, 17, 18, 19, 29, 30, 31] (by decide +kernel) (by decide +kernel)) (goodIn_sub (fun _ h => List.mem_cons_of_mem _ (List.mem_append_right _ h)) (by decide +kernel))
set_option maxRecDepth 20000 in
theorem gX2_contains_X2_requireElement : GoodIn wsX2_contains (wsV RX2 37 RX2 yX2_requireElement wsX2_requireElement) := goodIn_app (goodIn_of _ (by decide +kernel)) ggX2_contains_X2_requireElement
set_option maxRecDepth 20000 in
theorem ggX2_contains_X2_placeOfElement : GoodIn wsX2_contains wsX2_placeOfElement := goodIn_r _ [22] (by decide +kernel) (by decide +kernel)
set_option maxRecDepth 20000 in
theorem gX2_contains_X2_placeOfElement : GoodIn wsX2_contains (va_wsS RX2 41 yX2_placeOfElement wsX2_placeOfElement) := goodIn_app (goodIn_of _ (by decide +kernel)) ggX2_contains_X2_placeOfElement
set_option maxRecDepth 20000 in
theorem ggX2_contains_X0_dotsAt : GoodIn wsX2_contains wsX0_dotsAt := goodIn_r _ [27, 28, 32, 33, 34, 35, 36] (by decide +kernel) (by decide +kernel)
set_option maxRecDepth 20000 in
theorem gX2_contains_X0_dotsAt : GoodIn wsX2_contains (wsV RX2 115 RX0 yX0_dotsAt wsX0_dotsAt) := goodIn_app (goodIn_of _ (by decide +kernel)) ggX2_contains_X0_dotsAt
theorem dX2_contains_0 : decode cX2_contains 0 = .ok (.aload_n 0, 1) := by decide +kernel
theorem dX2_contains_1 : decode cX2_contains 1 = .ok (.iload_n 1, 1) := by decide +kernel
theorem dX2_contains_2 : decode cX2_contains 2 = .ok (.iload_n 2, 1) := by decide +kernel
theorem dX2_contains_3 : decode cX2_contains 3 = .ok (.iload_n 3, 1) := by decide +kernel
theorem dX2_contains_4 : decode cX2_contains 4 = .ok (.invokevirtual 37, 3) := by decide +kernel
theorem dX2_contains_7 : decode cX2_contains 7 = .ok (.aload_n 0, 1) := by decide +kernel
theorem dX2_contains_8 : decode cX2_contains 8 = .ok (.getfield 11, 3) := by decide +kernel
theorem dX2_contains_11 : decode cX2_contains 11 = .ok (.iload_n 1, 1) := by decide +kernel
theorem dX2_contains_12 : decode cX2_contains 12 = .ok (.aaload, 1) := by decide +kernel
theorem dX2_contains_13 : decode cX2_contains 13 = .ok (.iload_n 2, 1) := by decide +kernel
theorem dX2_contains_14 : decode cX2_contains 14 = .ok (.iload_n 3, 1) := by decide +kernel
theorem dX2_contains_15 : decode cX2_contains 15 = .ok (.invokestatic 41, 3) := by decide +kernel
theorem dX2_contains_18 : decode cX2_contains 18 = .ok (.invokevirtual 115, 3) := by decide +kernel
theorem dX2_contains_21 : decode cX2_contains 21 = .ok (.ifCond .le 7, 3) := by decide +kernel
theorem dX2_contains_24 : decode cX2_contains 24 = .ok (.iconst 1, 1) := by decide +kernel
theorem dX2_contains_25 : decode cX2_contains 25 = .ok (.goto 4, 3) := by decide +kernel
theorem dX2_contains_28 : decode cX2_contains 28 = .ok (.iconst 0, 1) := by decide +kernel
theorem dX2_contains_29 : decode cX2_contains 29 = .ok (.ireturn, 1) := by decide +kernel
set_option maxRecDepth 20000 in
theorem ggX2_size_X2_requireReplica : GoodIn wsX2_size wsX2_requireReplica := goodIn_ca (goodIn_r _ [6, 7, 8, 9, 5, 10, 11, 12, 13, 14, 15, 25, 26, 27] (by decide +kernel) (by decide +kernel)) (goodIn_sub (fun _ h => List.mem_cons_of_mem _ (List.mem_append_right _ h)) (by decide +kernel))
set_option maxRecDepth 20000 in
theorem gX2_size_X2_requireReplica : GoodIn wsX2_size (wsV RX2 52 RX2 yX2_requireReplica wsX2_requireReplica) := goodIn_app (goodIn_of _ (by decide +kernel)) ggX2_size_X2_requireReplica
set_option maxRecDepth 20000 in
theorem ggX2_size_X2_requireIndex : GoodIn wsX2_size wsX2_requireIndex := goodIn_ca (goodIn_r _ [10, 11, 12, 5, 13, 14, 15] (by decide +kernel) (by decide +kernel)) (goodIn_sub (fun _ h => List.mem_cons_of_mem _ (List.mem_append_right _ h)) (by decide +kernel))
set_option maxRecDepth 20000 in
theorem gX2_size_X2_requireIndex : GoodIn wsX2_size (va_wsS RX2 56 yX2_requireIndex wsX2_requireIndex) := goodIn_app (goodIn_of _ (by decide +kernel)) ggX2_size_X2_requireIndex
set_option maxRecDepth 20000 in
theorem ggX2_size_X2_placeOfElement : GoodIn wsX2_size wsX2_placeOfElement := goodIn_r _ [18] (by decide +kernel) (by decide +kernel)
set_option maxRecDepth 20000 in
theorem gX2_size_X2_placeOfElement : GoodIn wsX2_size (va_wsS RX2 41 yX2_placeOfElement wsX2_placeOfElement) := goodIn_app (goodIn_of _ (by decide +kernel)) ggX2_size_X2_placeOfElement
set_option maxRecDepth 20000 in
theorem ggX2_size_X0_dotsAt : GoodIn wsX2_size wsX0_dotsAt := goodIn_r _ [23, 24, 28, 29, 30, 31, 32] (by decide +kernel) (by decide +kernel)
set_option maxRecDepth 20000 in
theorem gX2_size_X0_dotsAt : GoodIn wsX2_size (wsV RX2 115 RX0 yX0_dotsAt wsX0_dotsAt) := goodIn_app (goodIn_of _ (by decide +kernel)) ggX2_size_X0_dotsAt
theorem dX2_size_0 : decode cX2_size 0 = .ok (.aload_n 0, 1) := by decide +kernel
theorem dX2_size_1 : decode cX2_size 1 = .ok (.iload_n 1, 1) := by decide +kernel
theorem dX2_size_2 : decode cX2_size 2 = .ok (.invokevirtual 52, 3) := by decide +kernel
theorem dX2_size_5 : decode cX2_size 5 = .ok (.iload_n 2, 1) := by decide +kernel
theorem dX2_size_6 : decode cX2_size 6 = .ok (.iconst 4, 1) := by decide +kernel
theorem dX2_size_7 : decode cX2_size 7 = .ok (.invokestatic 56, 3) := by decide +kernel
theorem dX2_size_10 : decode cX2_size 10 = .ok (.iconst 0, 1) := by decide +kernel
theorem dX2_size_11 : decode cX2_size 11 = .ok (.istore_n 3, 1) := by decide +kernel
theorem dX2_size_12 : decode cX2_size 12 = .ok (.iconst 0, 1) := by decide +kernel
theorem dX2_size_13 : decode cX2_size 13 = .ok (.istore 4, 2) := by decide +kernel
theorem dX2_size_15 : decode cX2_size 15 = .ok (.iload 4, 2) := by decide +kernel
theorem dX2_size_17 : decode cX2_size 17 = .ok (.bipush 16, 2) := by decide +kernel
theorem dX2_size_19 : decode cX2_size 19 = .ok (.if_icmp .ge 30, 3) := by decide +kernel
theorem dX2_size_22 : decode cX2_size 22 = .ok (.aload_n 0, 1) := by decide +kernel
theorem dX2_size_23 : decode cX2_size 23 = .ok (.getfield 11, 3) := by decide +kernel
theorem dX2_size_26 : decode cX2_size 26 = .ok (.iload_n 1, 1) := by decide +kernel
theorem dX2_size_27 : decode cX2_size 27 = .ok (.aaload, 1) := by decide +kernel
theorem dX2_size_28 : decode cX2_size 28 = .ok (.iload_n 2, 1) := by decide +kernel
theorem dX2_size_29 : decode cX2_size 29 = .ok (.iload 4, 2) := by decide +kernel
theorem dX2_size_31 : decode cX2_size 31 = .ok (.invokestatic 41, 3) := by decide +kernel
theorem dX2_size_34 : decode cX2_size 34 = .ok (.invokevirtual 115, 3) := by decide +kernel
theorem dX2_size_37 : decode cX2_size 37 = .ok (.ifCond .le 6, 3) := by decide +kernel
theorem dX2_size_40 : decode cX2_size 40 = .ok (.iinc 3 1, 3) := by decide +kernel
theorem dX2_size_43 : decode cX2_size 43 = .ok (.iinc 4 1, 3) := by decide +kernel
theorem dX2_size_46 : decode cX2_size 46 = .ok (.goto (-31), 3) := by decide +kernel
theorem dX2_size_49 : decode cX2_size 49 = .ok (.iload_n 3, 1) := by decide +kernel
theorem dX2_size_50 : decode cX2_size 50 = .ok (.ireturn, 1) := by decide +kernel
set_option maxRecDepth 20000 in
theorem ggX2_dot_X2_requireElement : GoodIn wsX2_dot wsX2_requireElement := goodIn_ca (goodIn_r _ [6, 7, 8, 9, 5, 10, 11, 12, 13, 14, 15, 16, 17, 18, 19, 33, 34, 35] (by decide +kernel) (by decide +kernel)) (goodIn_sub (fun _ h => List.mem_cons_of_mem _ (List.mem_append_right _ h)) (by decide +kernel))
set_option maxRecDepth 20000 in
theorem gX2_dot_X2_requireElement : GoodIn wsX2_dot (wsV RX2 37 RX2 yX2_requireElement wsX2_requireElement) := goodIn_app (goodIn_of _ (by decide +kernel)) ggX2_dot_X2_requireElement
set_option maxRecDepth 20000 in
theorem ggX2_dot_X2_require : GoodIn wsX2_dot wsX2_require := goodIn_ca (goodIn_r _ [17, 18, 19] (by decide +kernel) (by decide +kernel)) (goodIn_sub (fun _ h => List.mem_cons_of_mem _ (List.mem_append_right _ h)) (by decide +kernel))
set_option maxRecDepth 20000 in
theorem gX2_dot_X2_require : GoodIn wsX2_dot (va_wsS RX2 27 yX2_require wsX2_require) := goodIn_app (goodIn_of _ (by decide +kernel)) ggX2_dot_X2_require
set_option maxRecDepth 20000 in
theorem ggX2_dot_X2_placeOfElement : GoodIn wsX2_dot wsX2_placeOfElement := goodIn_r _ [22] (by decide +kernel) (by decide +kernel)
set_option maxRecDepth 20000 in
theorem gX2_dot_X2_placeOfElement : GoodIn wsX2_dot (va_wsS RX2 41 yX2_placeOfElement wsX2_placeOfElement) := goodIn_app (goodIn_of _ (by decide +kernel)) ggX2_dot_X2_placeOfElement
set_option maxRecDepth 20000 in
theorem ggX2_dot_X0_makerOf : GoodIn wsX2_dot wsX0_makerOf := goodIn_r _ [27, 28, 36, 37, 38, 39, 40] (by decide +kernel) (by decide +kernel)
set_option maxRecDepth 20000 in
theorem gX2_dot_X0_makerOf : GoodIn wsX2_dot (wsV RX2 118 RX0 yX0_makerOf wsX0_makerOf) := goodIn_app (goodIn_of _ (by decide +kernel)) ggX2_dot_X0_makerOf
set_option maxRecDepth 20000 in
theorem ggX2_dot_X0_numberBy : GoodIn wsX2_dot wsX0_numberBy := goodIn_r _ [32, 28, 36, 37, 38, 39, 40] (by decide +kernel) (by decide +kernel)
set_option maxRecDepth 20000 in
theorem gX2_dot_X0_numberBy : GoodIn wsX2_dot (wsV RX2 121 RX0 yX0_numberBy wsX0_numberBy) := goodIn_app (goodIn_of _ (by decide +kernel)) ggX2_dot_X0_numberBy
theorem dX2_dot_0 : decode cX2_dot 0 = .ok (.aload_n 0, 1) := by decide +kernel
theorem dX2_dot_1 : decode cX2_dot 1 = .ok (.iload_n 1, 1) := by decide +kernel
theorem dX2_dot_2 : decode cX2_dot 2 = .ok (.iload_n 2, 1) := by decide +kernel
theorem dX2_dot_3 : decode cX2_dot 3 = .ok (.iload_n 3, 1) := by decide +kernel
theorem dX2_dot_4 : decode cX2_dot 4 = .ok (.invokevirtual 37, 3) := by decide +kernel
theorem dX2_dot_7 : decode cX2_dot 7 = .ok (.iload 5, 2) := by decide +kernel
theorem dX2_dot_9 : decode cX2_dot 9 = .ok (.ifCond .eq 9, 3) := by decide +kernel
theorem dX2_dot_12 : decode cX2_dot 12 = .ok (.iload 5, 2) := by decide +kernel
theorem dX2_dot_14 : decode cX2_dot 14 = .ok (.iconst 1, 1) := by decide +kernel
theorem dX2_dot_15 : decode cX2_dot 15 = .ok (.if_icmp .ne 7, 3) := by decide +kernel
theorem dX2_dot_18 : decode cX2_dot 18 = .ok (.iconst 1, 1) := by decide +kernel
theorem dX2_dot_19 : decode cX2_dot 19 = .ok (.goto 4, 3) := by decide +kernel
theorem dX2_dot_22 : decode cX2_dot 22 = .ok (.iconst 0, 1) := by decide +kernel
theorem dX2_dot_23 : decode cX2_dot 23 = .ok (.invokestatic 27, 3) := by decide +kernel
theorem dX2_dot_26 : decode cX2_dot 26 = .ok (.aload_n 0, 1) := by decide +kernel
theorem dX2_dot_27 : decode cX2_dot 27 = .ok (.getfield 11, 3) := by decide +kernel
theorem dX2_dot_30 : decode cX2_dot 30 = .ok (.iload_n 1, 1) := by decide +kernel
theorem dX2_dot_31 : decode cX2_dot 31 = .ok (.aaload, 1) := by decide +kernel
theorem dX2_dot_32 : decode cX2_dot 32 = .ok (.astore 6, 2) := by decide +kernel
theorem dX2_dot_34 : decode cX2_dot 34 = .ok (.iload_n 2, 1) := by decide +kernel
theorem dX2_dot_35 : decode cX2_dot 35 = .ok (.iload_n 3, 1) := by decide +kernel
theorem dX2_dot_36 : decode cX2_dot 36 = .ok (.invokestatic 41, 3) := by decide +kernel
theorem dX2_dot_39 : decode cX2_dot 39 = .ok (.istore 7, 2) := by decide +kernel
theorem dX2_dot_41 : decode cX2_dot 41 = .ok (.aload 6, 2) := by decide +kernel
theorem dX2_dot_43 : decode cX2_dot 43 = .ok (.iload 7, 2) := by decide +kernel
theorem dX2_dot_45 : decode cX2_dot 45 = .ok (.iload 4, 2) := by decide +kernel
theorem dX2_dot_47 : decode cX2_dot 47 = .ok (.invokevirtual 118, 3) := by decide +kernel
theorem dX2_dot_50 : decode cX2_dot 50 = .ok (.istore 8, 2) := by decide +kernel
theorem dX2_dot_52 : decode cX2_dot 52 = .ok (.iload 5, 2) := by decide +kernel
theorem dX2_dot_54 : decode cX2_dot 54 = .ok (.ifCond .ne 8, 3) := by decide +kernel
theorem dX2_dot_57 : decode cX2_dot 57 = .ok (.iload 8, 2) := by decide +kernel
theorem dX2_dot_59 : decode cX2_dot 59 = .ok (.goto 12, 3) := by decide +kernel
theorem dX2_dot_62 : decode cX2_dot 62 = .ok (.aload 6, 2) := by decide +kernel
theorem dX2_dot_64 : decode cX2_dot 64 = .ok (.iload 7, 2) := by decide +kernel
theorem dX2_dot_66 : decode cX2_dot 66 = .ok (.iload 8, 2) := by decide +kernel
theorem dX2_dot_68 : decode cX2_dot 68 = .ok (.invokevirtual 121, 3) := by decide +kernel
theorem dX2_dot_71 : decode cX2_dot 71 = .ok (.ireturn, 1) := by decide +kernel
set_option maxRecDepth 20000 in
theorem ggX2_value_X2_requireReplica : GoodIn wsX2_value wsX2_requireReplica := goodIn_ca (goodIn_r _ [7, 8, 9, 10, 6, 11, 12, 13, 14, 15, 16, 27, 28, 29] (by decide +kernel) (by decide +kernel)) (goodIn_sub (fun _ h => List.mem_cons_of_mem _ (List.mem_append_right _ h)) (by decide +kernel))
set_option maxRecDepth 20000 in
theorem gX2_value_X2_requireReplica : GoodIn wsX2_value (wsV RX2 52 RX2 yX2_requireReplica wsX2_requireReplica) := goodIn_app (goodIn_of _ (by decide +kernel)) ggX2_value_X2_requireReplica
set_option maxRecDepth 20000 in
theorem ggX2_value_X2_requireIndex : GoodIn wsX2_value wsX2_requireIndex := goodIn_ca (goodIn_r _ [11, 12, 13, 6, 14, 15, 16] (by decide +kernel) (by decide +kernel)) (goodIn_sub (fun _ h => List.mem_cons_of_mem _ (List.mem_append_right _ h)) (by decide +kernel))
set_option maxRecDepth 20000 in
theorem gX2_value_X2_requireIndex : GoodIn wsX2_value (va_wsS RX2 56 yX2_requireIndex wsX2_requireIndex) := goodIn_app (goodIn_of _ (by decide +kernel)) ggX2_value_X2_requireIndex
set_option maxRecDepth 20000 in
theorem ggX2_value_X2_require : GoodIn wsX2_value wsX2_require := goodIn_ca (goodIn_r _ [14, 15, 16] (by decide +kernel) (by decide +kernel)) (goodIn_sub (fun _ h => List.mem_cons_of_mem _ (List.mem_append_right _ h)) (by decide +kernel))
set_option maxRecDepth 20000 in
theorem gX2_value_X2_require : GoodIn wsX2_value (va_wsS RX2 27 yX2_require wsX2_require) := goodIn_app (goodIn_of _ (by decide +kernel)) ggX2_value_X2_require
set_option maxRecDepth 20000 in
theorem ggX2_value_X0_makerOf : GoodIn wsX2_value wsX0_makerOf := goodIn_r _ [21, 22, 30, 31, 32, 33, 34] (by decide +kernel) (by decide +kernel)
set_option maxRecDepth 20000 in
theorem gX2_value_X0_makerOf : GoodIn wsX2_value (wsV RX2 118 RX0 yX0_makerOf wsX0_makerOf) := goodIn_app (goodIn_of _ (by decide +kernel)) ggX2_value_X0_makerOf
set_option maxRecDepth 20000 in
theorem ggX2_value_X0_numberBy : GoodIn wsX2_value wsX0_numberBy := goodIn_r _ [26, 22, 30, 31, 32, 33, 34] (by decide +kernel) (by decide +kernel)
set_option maxRecDepth 20000 in
theorem gX2_value_X0_numberBy : GoodIn wsX2_value (wsV RX2 121 RX0 yX0_numberBy wsX0_numberBy) := goodIn_app (goodIn_of _ (by decide +kernel)) ggX2_value_X0_numberBy
theorem dX2_value_0 : decode cX2_value 0 = .ok (.aload_n 0, 1) := by decide +kernel
theorem dX2_value_1 : decode cX2_value 1 = .ok (.iload_n 1, 1) := by decide +kernel
theorem dX2_value_2 : decode cX2_value 2 = .ok (.invokevirtual 52, 3) := by decide +kernel
theorem dX2_value_5 : decode cX2_value 5 = .ok (.iload_n 2, 1) := by decide +kernel
theorem dX2_value_6 : decode cX2_value 6 = .ok (.iconst 4, 1) := by decide +kernel
theorem dX2_value_7 : decode cX2_value 7 = .ok (.invokestatic 56, 3) := by decide +kernel
theorem dX2_value_10 : decode cX2_value 10 = .ok (.iload 4, 2) := by decide +kernel
theorem dX2_value_12 : decode cX2_value 12 = .ok (.ifCond .eq 15, 3) := by decide +kernel
theorem dX2_value_15 : decode cX2_value 15 = .ok (.iload 4, 2) := by decide +kernel
theorem dX2_value_17 : decode cX2_value 17 = .ok (.iconst 1, 1) := by decide +kernel
theorem dX2_value_18 : decode cX2_value 18 = .ok (.if_icmp .eq 9, 3) := by decide +kernel
theorem dX2_value_21 : decode cX2_value 21 = .ok (.iload 4, 2) := by decide +kernel
theorem dX2_value_23 : decode cX2_value 23 = .ok (.iconst 2, 1) := by decide +kernel
theorem dX2_value_24 : decode cX2_value 24 = .ok (.if_icmp .ne 7, 3) := by decide +kernel
theorem dX2_value_27 : decode cX2_value 27 = .ok (.iconst 1, 1) := by decide +kernel
theorem dX2_value_28 : decode cX2_value 28 = .ok (.goto 4, 3) := by decide +kernel
theorem dX2_value_31 : decode cX2_value 31 = .ok (.iconst 0, 1) := by decide +kernel
theorem dX2_value_32 : decode cX2_value 32 = .ok (.invokestatic 27, 3) := by decide +kernel
theorem dX2_value_35 : decode cX2_value 35 = .ok (.aload_n 0, 1) := by decide +kernel
theorem dX2_value_36 : decode cX2_value 36 = .ok (.getfield 11, 3) := by decide +kernel
theorem dX2_value_39 : decode cX2_value 39 = .ok (.iload_n 1, 1) := by decide +kernel
theorem dX2_value_40 : decode cX2_value 40 = .ok (.aaload, 1) := by decide +kernel
theorem dX2_value_41 : decode cX2_value 41 = .ok (.astore 5, 2) := by decide +kernel
theorem dX2_value_43 : decode cX2_value 43 = .ok (.bipush 64, 2) := by decide +kernel
theorem dX2_value_45 : decode cX2_value 45 = .ok (.iload_n 2, 1) := by decide +kernel
theorem dX2_value_46 : decode cX2_value 46 = .ok (.iadd, 1) := by decide +kernel
theorem dX2_value_47 : decode cX2_value 47 = .ok (.istore 6, 2) := by decide +kernel
theorem dX2_value_49 : decode cX2_value 49 = .ok (.aload 5, 2) := by decide +kernel
theorem dX2_value_51 : decode cX2_value 51 = .ok (.iload 6, 2) := by decide +kernel
theorem dX2_value_53 : decode cX2_value 53 = .ok (.iload_n 3, 1) := by decide +kernel
theorem dX2_value_54 : decode cX2_value 54 = .ok (.invokevirtual 118, 3) := by decide +kernel
theorem dX2_value_57 : decode cX2_value 57 = .ok (.istore 7, 2) := by decide +kernel
theorem dX2_value_59 : decode cX2_value 59 = .ok (.iload 4, 2) := by decide +kernel
theorem dX2_value_61 : decode cX2_value 61 = .ok (.iconst 2, 1) := by decide +kernel
theorem dX2_value_62 : decode cX2_value 62 = .ok (.if_icmp .ne 27, 3) := by decide +kernel
theorem dX2_value_65 : decode cX2_value 65 = .ok (.iload 7, 2) := by decide +kernel
theorem dX2_value_67 : decode cX2_value 67 = .ok (.iconst (-1), 1) := by decide +kernel
theorem dX2_value_68 : decode cX2_value 68 = .ok (.if_icmp .ne 7, 3) := by decide +kernel
theorem dX2_value_71 : decode cX2_value 71 = .ok (.iconst 0, 1) := by decide +kernel
theorem dX2_value_72 : decode cX2_value 72 = .ok (.goto 16, 3) := by decide +kernel
theorem dX2_value_75 : decode cX2_value 75 = .ok (.aload 5, 2) := by decide +kernel
theorem dX2_value_77 : decode cX2_value 77 = .ok (.getfield 60, 3) := by decide +kernel
theorem dX2_value_80 : decode cX2_value 80 = .ok (.iload_n 2, 1) := by decide +kernel
theorem dX2_value_81 : decode cX2_value 81 = .ok (.bipush 6, 2) := by decide +kernel
theorem dX2_value_83 : decode cX2_value 83 = .ok (.imul, 1) := by decide +kernel
theorem dX2_value_84 : decode cX2_value 84 = .ok (.iload 7, 2) := by decide +kernel
theorem dX2_value_86 : decode cX2_value 86 = .ok (.iadd, 1) := by decide +kernel
theorem dX2_value_87 : decode cX2_value 87 = .ok (.iaload, 1) := by decide +kernel
theorem dX2_value_88 : decode cX2_value 88 = .ok (.ireturn, 1) := by decide +kernel
theorem dX2_value_89 : decode cX2_value 89 = .ok (.iload 4, 2) := by decide +kernel
theorem dX2_value_91 : decode cX2_value 91 = .ok (.ifCond .ne 8, 3) := by decide +kernel
theorem dX2_value_94 : decode cX2_value 94 = .ok (.iload 7, 2) := by decide +kernel
theorem dX2_value_96 : decode cX2_value 96 = .ok (.goto 12, 3) := by decide +kernel
theorem dX2_value_99 : decode cX2_value 99 = .ok (.aload 5, 2) := by decide +kernel
theorem dX2_value_101 : decode cX2_value 101 = .ok (.iload 6, 2) := by decide +kernel
theorem dX2_value_103 : decode cX2_value 103 = .ok (.iload 7, 2) := by decide +kernel
theorem dX2_value_105 : decode cX2_value 105 = .ok (.invokevirtual 121, 3) := by decide +kernel
theorem dX2_value_108 : decode cX2_value 108 = .ok (.ireturn, 1) := by decide +kernel
set_option maxRecDepth 20000 in
theorem ggX2_values_X2_requireReplica : GoodIn wsX2_values wsX2_requireReplica := goodIn_ca (goodIn_r _ [6, 7, 8, 9, 5, 10, 11, 12, 13, 14, 15, 22, 23, 24] (by decide +kernel) (by decide +kernel)) (goodIn_sub (fun _ h => List.mem_cons_of_mem _ (List.mem_append_right _ h)) (by decide +kernel))
set_option maxRecDepth 20000 in
theorem gX2_values_X2_requireReplica : GoodIn wsX2_values (wsV RX2 52 RX2 yX2_requireReplica wsX2_requireReplica) := goodIn_app (goodIn_of _ (by decide +kernel)) ggX2_values_X2_requireReplica
set_option maxRecDepth 20000 in
theorem ggX2_values_X2_requireIndex : GoodIn wsX2_values wsX2_requireIndex := goodIn_ca (goodIn_r _ [10, 11, 12, 5, 13, 14, 15] (by decide +kernel) (by decide +kernel)) (goodIn_sub (fun _ h => List.mem_cons_of_mem _ (List.mem_append_right _ h)) (by decide +kernel))
set_option maxRecDepth 20000 in
theorem gX2_values_X2_requireIndex : GoodIn wsX2_values (va_wsS RX2 56 yX2_requireIndex wsX2_requireIndex) := goodIn_app (goodIn_of _ (by decide +kernel)) ggX2_values_X2_requireIndex
set_option maxRecDepth 20000 in
theorem ggX2_values_X0_dotsAt : GoodIn wsX2_values wsX0_dotsAt := goodIn_r _ [20, 21, 25, 26, 27, 28, 29] (by decide +kernel) (by decide +kernel)
set_option maxRecDepth 20000 in
theorem gX2_values_X0_dotsAt : GoodIn wsX2_values (wsV RX2 115 RX0 yX0_dotsAt wsX0_dotsAt) := goodIn_app (goodIn_of _ (by decide +kernel)) ggX2_values_X0_dotsAt
theorem dX2_values_0 : decode cX2_values 0 = .ok (.aload_n 0, 1) := by decide +kernel
theorem dX2_values_1 : decode cX2_values 1 = .ok (.iload_n 1, 1) := by decide +kernel
theorem dX2_values_2 : decode cX2_values 2 = .ok (.invokevirtual 52, 3) := by decide +kernel
theorem dX2_values_5 : decode cX2_values 5 = .ok (.iload_n 2, 1) := by decide +kernel
theorem dX2_values_6 : decode cX2_values 6 = .ok (.iconst 4, 1) := by decide +kernel
theorem dX2_values_7 : decode cX2_values 7 = .ok (.invokestatic 56, 3) := by decide +kernel
theorem dX2_values_10 : decode cX2_values 10 = .ok (.aload_n 0, 1) := by decide +kernel
theorem dX2_values_11 : decode cX2_values 11 = .ok (.getfield 11, 3) := by decide +kernel
theorem dX2_values_14 : decode cX2_values 14 = .ok (.iload_n 1, 1) := by decide +kernel
theorem dX2_values_15 : decode cX2_values 15 = .ok (.aaload, 1) := by decide +kernel
theorem dX2_values_16 : decode cX2_values 16 = .ok (.bipush 64, 2) := by decide +kernel
theorem dX2_values_18 : decode cX2_values 18 = .ok (.iload_n 2, 1) := by decide +kernel
theorem dX2_values_19 : decode cX2_values 19 = .ok (.iadd, 1) := by decide +kernel
theorem dX2_values_20 : decode cX2_values 20 = .ok (.invokevirtual 115, 3) := by decide +kernel
theorem dX2_values_23 : decode cX2_values 23 = .ok (.ireturn, 1) := by decide +kernel
set_option maxRecDepth 20000 in
theorem ggX2_total_X2_requireReplica : GoodIn wsX2_total wsX2_requireReplica := goodIn_ca (goodIn_r _ [6, 7, 8, 9, 5, 10, 11, 12, 13, 14, 15, 23, 24, 25] (by decide +kernel) (by decide +kernel)) (goodIn_sub (fun _ h => List.mem_cons_of_mem _ (List.mem_append_right _ h)) (by decide +kernel))
set_option maxRecDepth 20000 in
theorem gX2_total_X2_requireReplica : GoodIn wsX2_total (wsV RX2 52 RX2 yX2_requireReplica wsX2_requireReplica) := goodIn_app (goodIn_of _ (by decide +kernel)) ggX2_total_X2_requireReplica
set_option maxRecDepth 20000 in
theorem ggX2_total_X2_requireIndex : GoodIn wsX2_total wsX2_requireIndex := goodIn_ca (goodIn_r _ [10, 11, 12, 5, 13, 14, 15] (by decide +kernel) (by decide +kernel)) (goodIn_sub (fun _ h => List.mem_cons_of_mem _ (List.mem_append_right _ h)) (by decide +kernel))
set_option maxRecDepth 20000 in
theorem gX2_total_X2_requireIndex : GoodIn wsX2_total (va_wsS RX2 56 yX2_requireIndex wsX2_requireIndex) := goodIn_app (goodIn_of _ (by decide +kernel)) ggX2_total_X2_requireIndex
set_option maxRecDepth 20000 in
theorem ggX2_total_X0_worth : GoodIn wsX2_total wsX0_worth := goodIn_r _ [20, 21, 22, 26, 27, 28, 29, 30] (by decide +kernel) (by decide +kernel)
set_option maxRecDepth 20000 in
theorem gX2_total_X0_worth : GoodIn wsX2_total (wsV RX2 71 RX0 yX0_worth wsX0_worth) := goodIn_app (goodIn_of _ (by decide +kernel)) ggX2_total_X0_worth
theorem dX2_total_0 : decode cX2_total 0 = .ok (.aload_n 0, 1) := by decide +kernel
theorem dX2_total_1 : decode cX2_total 1 = .ok (.iload_n 1, 1) := by decide +kernel
theorem dX2_total_2 : decode cX2_total 2 = .ok (.invokevirtual 52, 3) := by decide +kernel
theorem dX2_total_5 : decode cX2_total 5 = .ok (.iload_n 2, 1) := by decide +kernel
theorem dX2_total_6 : decode cX2_total 6 = .ok (.iconst 4, 1) := by decide +kernel
theorem dX2_total_7 : decode cX2_total 7 = .ok (.invokestatic 56, 3) := by decide +kernel
theorem dX2_total_10 : decode cX2_total 10 = .ok (.aload_n 0, 1) := by decide +kernel
theorem dX2_total_11 : decode cX2_total 11 = .ok (.getfield 11, 3) := by decide +kernel
theorem dX2_total_14 : decode cX2_total 14 = .ok (.iload_n 1, 1) := by decide +kernel
theorem dX2_total_15 : decode cX2_total 15 = .ok (.aaload, 1) := by decide +kernel
theorem dX2_total_16 : decode cX2_total 16 = .ok (.iload_n 2, 1) := by decide +kernel
theorem dX2_total_17 : decode cX2_total 17 = .ok (.invokevirtual 71, 3) := by decide +kernel
theorem dX2_total_20 : decode cX2_total 20 = .ok (.ireturn, 1) := by decide +kernel
set_option maxRecDepth 20000 in
theorem ggX2_vector_X2_requireReplica : GoodIn wsX2_vector wsX2_requireReplica := goodIn_ca (goodIn_r _ [7, 8, 9, 10, 6, 11, 12, 13, 14, 15, 16, 17, 18, 19] (by decide +kernel) (by decide +kernel)) (goodIn_sub (fun _ h => List.mem_cons_of_mem _ (List.mem_append_right _ h)) (by decide +kernel))
set_option maxRecDepth 20000 in
theorem gX2_vector_X2_requireReplica : GoodIn wsX2_vector (wsV RX2 52 RX2 yX2_requireReplica wsX2_requireReplica) := goodIn_app (goodIn_of _ (by decide +kernel)) ggX2_vector_X2_requireReplica
theorem dX2_vector_0 : decode cX2_vector 0 = .ok (.aload_n 0, 1) := by decide +kernel
theorem dX2_vector_1 : decode cX2_vector 1 = .ok (.iload_n 1, 1) := by decide +kernel
theorem dX2_vector_2 : decode cX2_vector 2 = .ok (.invokevirtual 52, 3) := by decide +kernel
theorem dX2_vector_5 : decode cX2_vector 5 = .ok (.aload_n 0, 1) := by decide +kernel
theorem dX2_vector_6 : decode cX2_vector 6 = .ok (.iload_n 2, 1) := by decide +kernel
theorem dX2_vector_7 : decode cX2_vector 7 = .ok (.invokevirtual 52, 3) := by decide +kernel
theorem dX2_vector_10 : decode cX2_vector 10 = .ok (.aload_n 0, 1) := by decide +kernel
theorem dX2_vector_11 : decode cX2_vector 11 = .ok (.getfield 11, 3) := by decide +kernel
theorem dX2_vector_14 : decode cX2_vector 14 = .ok (.iload_n 1, 1) := by decide +kernel
theorem dX2_vector_15 : decode cX2_vector 15 = .ok (.aaload, 1) := by decide +kernel
theorem dX2_vector_16 : decode cX2_vector 16 = .ok (.getfield 124, 3) := by decide +kernel
theorem dX2_vector_19 : decode cX2_vector 19 = .ok (.iload_n 2, 1) := by decide +kernel
theorem dX2_vector_20 : decode cX2_vector 20 = .ok (.iaload, 1) := by decide +kernel
theorem dX2_vector_21 : decode cX2_vector 21 = .ok (.ireturn, 1) := by decide +kernel
set_option maxRecDepth 20000 in
theorem ggX2_same_X2_requireReplica : GoodIn wsX2_same wsX2_requireReplica := goodIn_ca (goodIn_r _ [6, 7, 8, 9, 5, 10, 11, 12, 13, 14, 15, 31, 32, 33] (by decide +kernel) (by decide +kernel)) (goodIn_sub (fun _ h => List.mem_cons_of_mem _ (List.mem_append_right _ h)) (by decide +kernel))
set_option maxRecDepth 20000 in
theorem gX2_same_X2_requireReplica : GoodIn wsX2_same (wsV RX2 52 RX2 yX2_requireReplica wsX2_requireReplica) := goodIn_app (goodIn_of _ (by decide +kernel)) ggX2_same_X2_requireReplica
set_option maxRecDepth 20000 in
theorem ggX2_same_X0_matches : GoodIn wsX2_same wsX0_matches := goodIn_r _ [20, 21, 22, 23, 24, 25, 26, 19, 27, 28, 29, 30, 34, 35, 36, 37, 38] (by decide +kernel) (by decide +kernel)
set_option maxRecDepth 20000 in
theorem gX2_same_X0_matches : GoodIn wsX2_same (wsV RX2 127 RX0 yX0_matches wsX0_matches) := goodIn_app (goodIn_of _ (by decide +kernel)) ggX2_same_X0_matches
theorem dX2_same_0 : decode cX2_same 0 = .ok (.aload_n 0, 1) := by decide +kernel
theorem dX2_same_1 : decode cX2_same 1 = .ok (.iload_n 1, 1) := by decide +kernel
theorem dX2_same_2 : decode cX2_same 2 = .ok (.invokevirtual 52, 3) := by decide +kernel
theorem dX2_same_5 : decode cX2_same 5 = .ok (.aload_n 0, 1) := by decide +kernel
theorem dX2_same_6 : decode cX2_same 6 = .ok (.iload_n 2, 1) := by decide +kernel
theorem dX2_same_7 : decode cX2_same 7 = .ok (.invokevirtual 52, 3) := by decide +kernel
theorem dX2_same_10 : decode cX2_same 10 = .ok (.aload_n 0, 1) := by decide +kernel
theorem dX2_same_11 : decode cX2_same 11 = .ok (.getfield 11, 3) := by decide +kernel
theorem dX2_same_14 : decode cX2_same 14 = .ok (.iload_n 1, 1) := by decide +kernel
theorem dX2_same_15 : decode cX2_same 15 = .ok (.aaload, 1) := by decide +kernel
theorem dX2_same_16 : decode cX2_same 16 = .ok (.aload_n 0, 1) := by decide +kernel
theorem dX2_same_17 : decode cX2_same 17 = .ok (.getfield 11, 3) := by decide +kernel
theorem dX2_same_20 : decode cX2_same 20 = .ok (.iload_n 2, 1) := by decide +kernel
theorem dX2_same_21 : decode cX2_same 21 = .ok (.aaload, 1) := by decide +kernel
theorem dX2_same_22 : decode cX2_same 22 = .ok (.invokevirtual 127, 3) := by decide +kernel
theorem dX2_same_25 : decode cX2_same 25 = .ok (.ireturn, 1) := by decide +kernel
set_option maxRecDepth 20000 in
theorem ggX2_message_Jx4a65c_size_8abf5 : GoodIn wsX2_message wsJx4a65c_size_8abf5 := goodIn_r _ [12, 13, 51, 52, 53] (by decide +kernel) (by decide +kernel)
set_option maxRecDepth 20000 in
theorem gX2_message_Jx4a65c_size_8abf5 : GoodIn wsX2_message (wsV RX2 74 RJx4a65c yJx4a65c_size_8abf5 wsJx4a65c_size_8abf5) := goodIn_app (goodIn_of _ (by decide +kernel)) ggX2_message_Jx4a65c_size_8abf5
set_option maxRecDepth 20000 in
theorem ggX2_message_X2_requireIndex : GoodIn wsX2_message wsX2_requireIndex := goodIn_ca (goodIn_r _ [17, 18, 19, 16, 20, 21, 22] (by decide +kernel) (by decide +kernel)) (goodIn_sub (fun _ h => List.mem_cons_of_mem _ (List.mem_append_right _ h)) (by decide +kernel))
set_option maxRecDepth 20000 in
theorem gX2_message_X2_requireIndex : GoodIn wsX2_message (va_wsS RX2 56 yX2_requireIndex wsX2_requireIndex) := goodIn_app (goodIn_of _ (by decide +kernel)) ggX2_message_X2_requireIndex
set_option maxRecDepth 20000 in
theorem ggX2_message_X2_require : GoodIn wsX2_message wsX2_require := goodIn_ca (goodIn_r _ [20, 21, 22] (by decide +kernel) (by decide +kernel)) (goodIn_sub (fun _ h => List.mem_cons_of_mem _ (List.mem_append_right _ h)) (by decide +kernel))
set_option maxRecDepth 20000 in
theorem gX2_message_X2_require : GoodIn wsX2_message (va_wsS RX2 27 yX2_require wsX2_require) := goodIn_app (goodIn_of _ (by decide +kernel)) ggX2_message_X2_require
set_option maxRecDepth 20000 in
theorem ggX2_message_Jx4a65c_get_915e3 : GoodIn wsX2_message wsJx4a65c_get_915e3 := goodIn_r _ [26, 13, 27, 28, 29, 30, 31, 32, 33, 34, 35, 36, 37, 11, 38, 39, 51, 52, 53] (by decide +kernel) (by decide +kernel)
set_option maxRecDepth 20000 in
theorem gX2_message_Jx4a65c_get_915e3 : GoodIn wsX2_message (wsV RX2 109 RJx4a65c yJx4a65c_get_915e3 wsJx4a65c_get_915e3) := goodIn_app (goodIn_of _ (by decide +kernel)) ggX2_message_Jx4a65c_get_915e3
theorem dX2_message_0 : decode cX2_message 0 = .ok (.iload_n 2, 1) := by decide +kernel
theorem dX2_message_1 : decode cX2_message 1 = .ok (.iconst (-1), 1) := by decide +kernel
theorem dX2_message_2 : decode cX2_message 2 = .ok (.if_icmp .ne 8, 3) := by decide +kernel
theorem dX2_message_5 : decode cX2_message 5 = .ok (.aload_n 0, 1) := by decide +kernel
theorem dX2_message_6 : decode cX2_message 6 = .ok (.getfield 23, 3) := by decide +kernel
theorem dX2_message_9 : decode cX2_message 9 = .ok (.ireturn, 1) := by decide +kernel
theorem dX2_message_10 : decode cX2_message 10 = .ok (.iload_n 2, 1) := by decide +kernel
theorem dX2_message_11 : decode cX2_message 11 = .ok (.bipush (-2), 2) := by decide +kernel
theorem dX2_message_13 : decode cX2_message 13 = .ok (.if_icmp .ne 11, 3) := by decide +kernel
theorem dX2_message_16 : decode cX2_message 16 = .ok (.aload_n 0, 1) := by decide +kernel
theorem dX2_message_17 : decode cX2_message 17 = .ok (.getfield 19, 3) := by decide +kernel
theorem dX2_message_20 : decode cX2_message 20 = .ok (.invokevirtual 74, 3) := by decide +kernel
theorem dX2_message_23 : decode cX2_message 23 = .ok (.ireturn, 1) := by decide +kernel
theorem dX2_message_24 : decode cX2_message 24 = .ok (.iload_n 1, 1) := by decide +kernel
theorem dX2_message_25 : decode cX2_message 25 = .ok (.aload_n 0, 1) := by decide +kernel
theorem dX2_message_26 : decode cX2_message 26 = .ok (.getfield 19, 3) := by decide +kernel
theorem dX2_message_29 : decode cX2_message 29 = .ok (.invokevirtual 74, 3) := by decide +kernel
theorem dX2_message_32 : decode cX2_message 32 = .ok (.invokestatic 56, 3) := by decide +kernel
theorem dX2_message_35 : decode cX2_message 35 = .ok (.iload_n 2, 1) := by decide +kernel
theorem dX2_message_36 : decode cX2_message 36 = .ok (.ifCond .lt 17, 3) := by decide +kernel
theorem dX2_message_39 : decode cX2_message 39 = .ok (.iload_n 2, 1) := by decide +kernel
theorem dX2_message_40 : decode cX2_message 40 = .ok (.iconst 2, 1) := by decide +kernel
theorem dX2_message_41 : decode cX2_message 41 = .ok (.aload_n 0, 1) := by decide +kernel
theorem dX2_message_42 : decode cX2_message 42 = .ok (.getfield 23, 3) := by decide +kernel
theorem dX2_message_45 : decode cX2_message 45 = .ok (.iadd, 1) := by decide +kernel
theorem dX2_message_46 : decode cX2_message 46 = .ok (.if_icmp .ge 7, 3) := by decide +kernel
theorem dX2_message_49 : decode cX2_message 49 = .ok (.iconst 1, 1) := by decide +kernel
theorem dX2_message_50 : decode cX2_message 50 = .ok (.goto 4, 3) := by decide +kernel
theorem dX2_message_53 : decode cX2_message 53 = .ok (.iconst 0, 1) := by decide +kernel
theorem dX2_message_54 : decode cX2_message 54 = .ok (.invokestatic 27, 3) := by decide +kernel
theorem dX2_message_57 : decode cX2_message 57 = .ok (.aload_n 0, 1) := by decide +kernel
theorem dX2_message_58 : decode cX2_message 58 = .ok (.getfield 19, 3) := by decide +kernel
theorem dX2_message_61 : decode cX2_message 61 = .ok (.iload_n 1, 1) := by decide +kernel
theorem dX2_message_62 : decode cX2_message 62 = .ok (.invokevirtual 109, 3) := by decide +kernel
theorem dX2_message_65 : decode cX2_message 65 = .ok (.checkcast 81, 3) := by decide +kernel
theorem dX2_message_68 : decode cX2_message 68 = .ok (.astore_n 3, 1) := by decide +kernel
theorem dX2_message_69 : decode cX2_message 69 = .ok (.iload_n 2, 1) := by decide +kernel
theorem dX2_message_70 : decode cX2_message 70 = .ok (.ifCond .ne 8, 3) := by decide +kernel
theorem dX2_message_73 : decode cX2_message 73 = .ok (.aload_n 3, 1) := by decide +kernel
theorem dX2_message_74 : decode cX2_message 74 = .ok (.getfield 112, 3) := by decide +kernel
theorem dX2_message_77 : decode cX2_message 77 = .ok (.ireturn, 1) := by decide +kernel
theorem dX2_message_78 : decode cX2_message 78 = .ok (.iload_n 2, 1) := by decide +kernel
theorem dX2_message_79 : decode cX2_message 79 = .ok (.iconst 1, 1) := by decide +kernel
theorem dX2_message_80 : decode cX2_message 80 = .ok (.if_icmp .ne 10, 3) := by decide +kernel
theorem dX2_message_83 : decode cX2_message 83 = .ok (.aload_n 3, 1) := by decide +kernel
theorem dX2_message_84 : decode cX2_message 84 = .ok (.getfield 98, 3) := by decide +kernel
theorem dX2_message_87 : decode cX2_message 87 = .ok (.goto 14, 3) := by decide +kernel
theorem dX2_message_90 : decode cX2_message 90 = .ok (.aload_n 3, 1) := by decide +kernel
theorem dX2_message_91 : decode cX2_message 91 = .ok (.getfield 101, 3) := by decide +kernel
theorem dX2_message_94 : decode cX2_message 94 = .ok (.getfield 124, 3) := by decide +kernel
theorem dX2_message_97 : decode cX2_message 97 = .ok (.iload_n 2, 1) := by decide +kernel
theorem dX2_message_98 : decode cX2_message 98 = .ok (.iconst 2, 1) := by decide +kernel
theorem dX2_message_99 : decode cX2_message 99 = .ok (.isub, 1) := by decide +kernel
theorem dX2_message_100 : decode cX2_message 100 = .ok (.iaload, 1) := by decide +kernel
theorem dX2_message_101 : decode cX2_message 101 = .ok (.ireturn, 1) := by decide +kernel
theorem dX2_placeOfElement_0 : decode cX2_placeOfElement 0 = .ok (.iload_n 0, 1) := by decide +kernel
theorem dX2_placeOfElement_1 : decode cX2_placeOfElement 1 = .ok (.bipush 16, 2) := by decide +kernel
theorem dX2_placeOfElement_3 : decode cX2_placeOfElement 3 = .ok (.imul, 1) := by decide +kernel
theorem dX2_placeOfElement_4 : decode cX2_placeOfElement 4 = .ok (.iload_n 1, 1) := by decide +kernel
theorem dX2_placeOfElement_5 : decode cX2_placeOfElement 5 = .ok (.iadd, 1) := by decide +kernel
theorem dX2_placeOfElement_6 : decode cX2_placeOfElement 6 = .ok (.ireturn, 1) := by decide +kernel
set_option maxRecDepth 20000 in
theorem ggX2_requireElement_X2_requireReplica : GoodIn wsX2_requireElement wsX2_requireReplica := goodIn_ca (goodIn_r _ [5, 6, 7, 8, 4, 9, 10, 11, 12, 13, 14, 15, 16, 17] (by decide +kernel) (by decide +kernel)) (goodIn_sub (fun _ h => List.mem_cons_of_mem _ (List.mem_append_right _ h)) (by decide +kernel))
set_option maxRecDepth 20000 in
theorem gX2_requireElement_X2_requireReplica : GoodIn wsX2_requireElement (wsV RX2 52 RX2 yX2_requireReplica wsX2_requireReplica) := goodIn_app (goodIn_of _ (by decide +kernel)) ggX2_requireElement_X2_requireReplica
set_option maxRecDepth 20000 in
theorem ggX2_requireElement_X2_requireIndex : GoodIn wsX2_requireElement wsX2_requireIndex := goodIn_ca (goodIn_r _ [9, 10, 11, 4, 12, 13, 14] (by decide +kernel) (by decide +kernel)) (goodIn_sub (fun _ h => List.mem_cons_of_mem _ (List.mem_append_right _ h)) (by decide +kernel))
set_option maxRecDepth 20000 in
theorem gX2_requireElement_X2_requireIndex : GoodIn wsX2_requireElement (va_wsS RX2 56 yX2_requireIndex wsX2_requireIndex) := goodIn_app (goodIn_of _ (by decide +kernel)) ggX2_requireElement_X2_requireIndex
theorem dX2_requireElement_0 : decode cX2_requireElement 0 = .ok (.aload_n 0, 1) := by decide +kernel
theorem dX2_requireElement_1 : decode cX2_requireElement 1 = .ok (.iload_n 1, 1) := by decide +kernel
theorem dX2_requireElement_2 : decode cX2_requireElement 2 = .ok (.invokevirtual 52, 3) := by decide +kernel
theorem dX2_requireElement_5 : decode cX2_requireElement 5 = .ok (.iload_n 2, 1) := by decide +kernel
theorem dX2_requireElement_6 : decode cX2_requireElement 6 = .ok (.iconst 4, 1) := by decide +kernel
theorem dX2_requireElement_7 : decode cX2_requireElement 7 = .ok (.invokestatic 56, 3) := by decide +kernel
theorem dX2_requireElement_10 : decode cX2_requireElement 10 = .ok (.iload_n 3, 1) := by decide +kernel
theorem dX2_requireElement_11 : decode cX2_requireElement 11 = .ok (.bipush 16, 2) := by decide +kernel
theorem dX2_requireElement_13 : decode cX2_requireElement 13 = .ok (.invokestatic 56, 3) := by decide +kernel
theorem dX2_requireElement_16 : decode cX2_requireElement 16 = .ok (.return_, 1) := by decide +kernel
set_option maxRecDepth 20000 in
theorem ggX2_requireReplica_X2_requireIndex : GoodIn wsX2_requireReplica wsX2_requireIndex := goodIn_ca (goodIn_r _ [5, 6, 7, 4, 8, 9, 10] (by decide +kernel) (by decide +kernel)) (goodIn_sub (fun _ h => List.mem_cons_of_mem _ (List.mem_append_right _ h)) (by decide +kernel))
set_option maxRecDepth 20000 in
theorem gX2_requireReplica_X2_requireIndex : GoodIn wsX2_requireReplica (va_wsS RX2 56 yX2_requireIndex wsX2_requireIndex) := goodIn_app (goodIn_of _ (by decide +kernel)) ggX2_requireReplica_X2_requireIndex
theorem dX2_requireReplica_0 : decode cX2_requireReplica 0 = .ok (.iload_n 1, 1) := by decide +kernel
theorem dX2_requireReplica_1 : decode cX2_requireReplica 1 = .ok (.aload_n 0, 1) := by decide +kernel
theorem dX2_requireReplica_2 : decode cX2_requireReplica 2 = .ok (.getfield 23, 3) := by decide +kernel
theorem dX2_requireReplica_5 : decode cX2_requireReplica 5 = .ok (.invokestatic 56, 3) := by decide +kernel
theorem dX2_requireReplica_8 : decode cX2_requireReplica 8 = .ok (.return_, 1) := by decide +kernel
set_option maxRecDepth 20000 in
theorem ggX2_requireIndex_X2_require : GoodIn wsX2_requireIndex wsX2_require := goodIn_ca (goodIn_r _ [4, 5, 6] (by decide +kernel) (by decide +kernel)) (goodIn_sub (fun _ h => List.mem_cons_of_mem _ (List.mem_append_right _ h)) (by decide +kernel))
set_option maxRecDepth 20000 in
theorem gX2_requireIndex_X2_require : GoodIn wsX2_requireIndex (va_wsS RX2 27 yX2_require wsX2_require) := goodIn_app (goodIn_of _ (by decide +kernel)) ggX2_requireIndex_X2_require
theorem dX2_requireIndex_0 : decode cX2_requireIndex 0 = .ok (.iload_n 0, 1) := by decide +kernel
theorem dX2_requireIndex_1 : decode cX2_requireIndex 1 = .ok (.ifCond .lt 12, 3) := by decide +kernel
theorem dX2_requireIndex_4 : decode cX2_requireIndex 4 = .ok (.iload_n 0, 1) := by decide +kernel
theorem dX2_requireIndex_5 : decode cX2_requireIndex 5 = .ok (.iload_n 1, 1) := by decide +kernel
theorem dX2_requireIndex_6 : decode cX2_requireIndex 6 = .ok (.if_icmp .ge 7, 3) := by decide +kernel
theorem dX2_requireIndex_9 : decode cX2_requireIndex 9 = .ok (.iconst 1, 1) := by decide +kernel
theorem dX2_requireIndex_10 : decode cX2_requireIndex 10 = .ok (.goto 4, 3) := by decide +kernel
theorem dX2_requireIndex_13 : decode cX2_requireIndex 13 = .ok (.iconst 0, 1) := by decide +kernel
theorem dX2_requireIndex_14 : decode cX2_requireIndex 14 = .ok (.invokestatic 27, 3) := by decide +kernel
theorem dX2_requireIndex_17 : decode cX2_requireIndex 17 = .ok (.return_, 1) := by decide +kernel
theorem dX2_require_0 : decode cX2_require 0 = .ok (.iload_n 0, 1) := by decide +kernel
theorem dX2_require_1 : decode cX2_require 1 = .ok (.ifCond .ne 11, 3) := by decide +kernel
theorem dX2_require_4 : decode cX2_require 4 = .ok (.new 131, 3) := by decide +kernel
theorem dX2_require_7 : decode cX2_require 7 = .ok (.dup, 1) := by decide +kernel
theorem dX2_require_8 : decode cX2_require 8 = .ok (.invokespecial 133, 3) := by decide +kernel
theorem dX2_require_11 : decode cX2_require 11 = .ok (.athrow, 1) := by decide +kernel
theorem dX2_require_12 : decode cX2_require 12 = .ok (.return_, 1) := by decide +kernel
theorem dX3_init_0 : decode cX3_init 0 = .ok (.aload_n 0, 1) := by decide +kernel
theorem dX3_init_1 : decode cX3_init 1 = .ok (.invokespecial 1, 3) := by decide +kernel
theorem dX3_init_4 : decode cX3_init 4 = .ok (.aload_n 0, 1) := by decide +kernel
theorem dX3_init_5 : decode cX3_init 5 = .ok (.iconst 2, 1) := by decide +kernel
theorem dX3_init_6 : decode cX3_init 6 = .ok (.putfield 7, 3) := by decide +kernel
theorem dX3_init_9 : decode cX3_init 9 = .ok (.aload_n 0, 1) := by decide +kernel
theorem dX3_init_10 : decode cX3_init 10 = .ok (.ldc 13, 2) := by decide +kernel
theorem dX3_init_12 : decode cX3_init 12 = .ok (.newarray .int, 2) := by decide +kernel
theorem dX3_init_14 : decode cX3_init 14 = .ok (.putfield 14, 3) := by decide +kernel
theorem dX3_init_17 : decode cX3_init 17 = .ok (.aload_n 0, 1) := by decide +kernel
theorem dX3_init_18 : decode cX3_init 18 = .ok (.sipush 2544, 3) := by decide +kernel
theorem dX3_init_21 : decode cX3_init 21 = .ok (.newarray .int, 2) := by decide +kernel
theorem dX3_init_23 : decode cX3_init 23 = .ok (.putfield 18, 3) := by decide +kernel
theorem dX3_init_26 : decode cX3_init 26 = .ok (.aload_n 0, 1) := by decide +kernel
theorem dX3_init_27 : decode cX3_init 27 = .ok (.sipush 5088, 3) := by decide +kernel
theorem dX3_init_30 : decode cX3_init 30 = .ok (.newarray .long, 2) := by decide +kernel
theorem dX3_init_32 : decode cX3_init 32 = .ok (.putfield 21, 3) := by decide +kernel
theorem dX3_init_35 : decode cX3_init 35 = .ok (.aload_n 0, 1) := by decide +kernel
theorem dX3_init_36 : decode cX3_init 36 = .ok (.bipush 100, 2) := by decide +kernel
theorem dX3_init_38 : decode cX3_init 38 = .ok (.newarray .int, 2) := by decide +kernel
theorem dX3_init_40 : decode cX3_init 40 = .ok (.putfield 25, 3) := by decide +kernel
theorem dX3_init_43 : decode cX3_init 43 = .ok (.aload_n 0, 1) := by decide +kernel
theorem dX3_init_44 : decode cX3_init 44 = .ok (.bipush 100, 2) := by decide +kernel
theorem dX3_init_46 : decode cX3_init 46 = .ok (.newarray .int, 2) := by decide +kernel
theorem dX3_init_48 : decode cX3_init 48 = .ok (.putfield 28, 3) := by decide +kernel
theorem dX3_init_51 : decode cX3_init 51 = .ok (.return_, 1) := by decide +kernel
theorem dX3_thrown_0 : decode cX3_thrown 0 = .ok (.aload_n 0, 1) := by decide +kernel
theorem dX3_thrown_1 : decode cX3_thrown 1 = .ok (.getfield 31, 3) := by decide +kernel
theorem dX3_thrown_4 : decode cX3_thrown 4 = .ok (.ireturn, 1) := by decide +kernel
theorem dX3_refuses_0 : decode cX3_refuses 0 = .ok (.aload_n 0, 1) := by decide +kernel
theorem dX3_refuses_1 : decode cX3_refuses 1 = .ok (.iload_n 1, 1) := by decide +kernel
theorem dX3_refuses_2 : decode cX3_refuses 2 = .ok (.putfield 31, 3) := by decide +kernel
theorem dX3_refuses_5 : decode cX3_refuses 5 = .ok (.iload_n 1, 1) := by decide +kernel
theorem dX3_refuses_6 : decode cX3_refuses 6 = .ok (.ifCond .le 7, 3) := by decide +kernel
theorem dX3_refuses_9 : decode cX3_refuses 9 = .ok (.iconst 1, 1) := by decide +kernel
theorem dX3_refuses_10 : decode cX3_refuses 10 = .ok (.goto 4, 3) := by decide +kernel
theorem dX3_refuses_13 : decode cX3_refuses 13 = .ok (.iconst 0, 1) := by decide +kernel
theorem dX3_refuses_14 : decode cX3_refuses 14 = .ok (.ireturn, 1) := by decide +kernel
theorem dX3_isReplica_0 : decode cX3_isReplica 0 = .ok (.iload_n 1, 1) := by decide +kernel
theorem dX3_isReplica_1 : decode cX3_isReplica 1 = .ok (.ifCond .lt 15, 3) := by decide +kernel
theorem dX3_isReplica_4 : decode cX3_isReplica 4 = .ok (.iload_n 1, 1) := by decide +kernel
theorem dX3_isReplica_5 : decode cX3_isReplica 5 = .ok (.aload_n 0, 1) := by decide +kernel
theorem dX3_isReplica_6 : decode cX3_isReplica 6 = .ok (.getfield 7, 3) := by decide +kernel
theorem dX3_isReplica_9 : decode cX3_isReplica 9 = .ok (.if_icmp .ge 7, 3) := by decide +kernel
theorem dX3_isReplica_12 : decode cX3_isReplica 12 = .ok (.iconst 1, 1) := by decide +kernel
theorem dX3_isReplica_13 : decode cX3_isReplica 13 = .ok (.goto 4, 3) := by decide +kernel
theorem dX3_isReplica_16 : decode cX3_isReplica 16 = .ok (.iconst 0, 1) := by decide +kernel
theorem dX3_isReplica_17 : decode cX3_isReplica 17 = .ok (.ireturn, 1) := by decide +kernel
set_option maxRecDepth 20000 in
theorem ggX3_isElement_X3_isReplica : GoodIn wsX3_isElement wsX3_isReplica := goodIn_r _ [5, 6, 7, 8, 9, 10, 11, 12, 13, 14] (by decide +kernel) (by decide +kernel)
set_option maxRecDepth 20000 in
theorem gX3_isElement_X3_isReplica : GoodIn wsX3_isElement (wsV RX3 34 RX3 yX3_isReplica wsX3_isReplica) := goodIn_app (goodIn_of _ (by decide +kernel)) ggX3_isElement_X3_isReplica
theorem dX3_isElement_0 : decode cX3_isElement 0 = .ok (.aload_n 0, 1) := by decide +kernel
theorem dX3_isElement_1 : decode cX3_isElement 1 = .ok (.iload_n 1, 1) := by decide +kernel
theorem dX3_isElement_2 : decode cX3_isElement 2 = .ok (.invokevirtual 34, 3) := by decide +kernel
theorem dX3_isElement_5 : decode cX3_isElement 5 = .ok (.ifCond .eq 26, 3) := by decide +kernel
theorem dX3_isElement_8 : decode cX3_isElement 8 = .ok (.iload_n 2, 1) := by decide +kernel
theorem dX3_isElement_9 : decode cX3_isElement 9 = .ok (.ifCond .lt 22, 3) := by decide +kernel
theorem dX3_isElement_12 : decode cX3_isElement 12 = .ok (.iload_n 2, 1) := by decide +kernel
theorem dX3_isElement_13 : decode cX3_isElement 13 = .ok (.iconst 4, 1) := by decide +kernel
theorem dX3_isElement_14 : decode cX3_isElement 14 = .ok (.if_icmp .ge 17, 3) := by decide +kernel
theorem dX3_isElement_17 : decode cX3_isElement 17 = .ok (.iload_n 3, 1) := by decide +kernel
theorem dX3_isElement_18 : decode cX3_isElement 18 = .ok (.ifCond .lt 13, 3) := by decide +kernel
theorem dX3_isElement_21 : decode cX3_isElement 21 = .ok (.iload_n 3, 1) := by decide +kernel
theorem dX3_isElement_22 : decode cX3_isElement 22 = .ok (.bipush 16, 2) := by decide +kernel
theorem dX3_isElement_24 : decode cX3_isElement 24 = .ok (.if_icmp .ge 7, 3) := by decide +kernel
theorem dX3_isElement_27 : decode cX3_isElement 27 = .ok (.iconst 1, 1) := by decide +kernel
theorem dX3_isElement_28 : decode cX3_isElement 28 = .ok (.goto 4, 3) := by decide +kernel
theorem dX3_isElement_31 : decode cX3_isElement 31 = .ok (.iconst 0, 1) := by decide +kernel
theorem dX3_isElement_32 : decode cX3_isElement 32 = .ok (.ireturn, 1) := by decide +kernel
set_option maxRecDepth 20000 in
theorem ggX3_isRegister_X3_isReplica : GoodIn wsX3_isRegister wsX3_isReplica := goodIn_r _ [5, 6, 7, 8, 9, 10, 11, 12, 13, 14] (by decide +kernel) (by decide +kernel)
set_option maxRecDepth 20000 in
theorem gX3_isRegister_X3_isReplica : GoodIn wsX3_isRegister (wsV RX3 34 RX3 yX3_isReplica wsX3_isReplica) := goodIn_app (goodIn_of _ (by decide +kernel)) ggX3_isRegister_X3_isReplica
theorem dX3_isRegister_0 : decode cX3_isRegister 0 = .ok (.aload_n 0, 1) := by decide +kernel
theorem dX3_isRegister_1 : decode cX3_isRegister 1 = .ok (.iload_n 1, 1) := by decide +kernel
theorem dX3_isRegister_2 : decode cX3_isRegister 2 = .ok (.invokevirtual 34, 3) := by decide +kernel
theorem dX3_isRegister_5 : decode cX3_isRegister 5 = .ok (.ifCond .eq 16, 3) := by decide +kernel
theorem dX3_isRegister_8 : decode cX3_isRegister 8 = .ok (.iload_n 2, 1) := by decide +kernel
theorem dX3_isRegister_9 : decode cX3_isRegister 9 = .ok (.ifCond .lt 12, 3) := by decide +kernel
theorem dX3_isRegister_12 : decode cX3_isRegister 12 = .ok (.iload_n 2, 1) := by decide +kernel
theorem dX3_isRegister_13 : decode cX3_isRegister 13 = .ok (.iconst 4, 1) := by decide +kernel
theorem dX3_isRegister_14 : decode cX3_isRegister 14 = .ok (.if_icmp .ge 7, 3) := by decide +kernel
theorem dX3_isRegister_17 : decode cX3_isRegister 17 = .ok (.iconst 1, 1) := by decide +kernel
theorem dX3_isRegister_18 : decode cX3_isRegister 18 = .ok (.goto 4, 3) := by decide +kernel
theorem dX3_isRegister_21 : decode cX3_isRegister 21 = .ok (.iconst 0, 1) := by decide +kernel
theorem dX3_isRegister_22 : decode cX3_isRegister 22 = .ok (.ireturn, 1) := by decide +kernel
theorem dX3_dots_0 : decode cX3_dots 0 = .ok (.sipush 414, 3) := by decide +kernel
theorem dX3_dots_3 : decode cX3_dots 3 = .ok (.iload_n 0, 1) := by decide +kernel
theorem dX3_dots_4 : decode cX3_dots 4 = .ok (.imul, 1) := by decide +kernel
theorem dX3_dots_5 : decode cX3_dots 5 = .ok (.bipush 6, 2) := by decide +kernel
theorem dX3_dots_7 : decode cX3_dots 7 = .ok (.iadd, 1) := by decide +kernel
theorem dX3_dots_8 : decode cX3_dots 8 = .ok (.bipush 6, 2) := by decide +kernel
theorem dX3_dots_10 : decode cX3_dots 10 = .ok (.iload_n 1, 1) := by decide +kernel
theorem dX3_dots_11 : decode cX3_dots 11 = .ok (.imul, 1) := by decide +kernel
theorem dX3_dots_12 : decode cX3_dots 12 = .ok (.iadd, 1) := by decide +kernel
theorem dX3_dots_13 : decode cX3_dots 13 = .ok (.ireturn, 1) := by decide +kernel
theorem dX3_vectorAt_0 : decode cX3_vectorAt 0 = .ok (.sipush 414, 3) := by decide +kernel
theorem dX3_vectorAt_3 : decode cX3_vectorAt 3 = .ok (.iload_n 0, 1) := by decide +kernel
theorem dX3_vectorAt_4 : decode cX3_vectorAt 4 = .ok (.imul, 1) := by decide +kernel
theorem dX3_vectorAt_5 : decode cX3_vectorAt 5 = .ok (.iload_n 1, 1) := by decide +kernel
theorem dX3_vectorAt_6 : decode cX3_vectorAt 6 = .ok (.iadd, 1) := by decide +kernel
theorem dX3_vectorAt_7 : decode cX3_vectorAt 7 = .ok (.ireturn, 1) := by decide +kernel
set_option maxRecDepth 20000 in
theorem ggX3_open_X3_refuses : GoodIn wsX3_open wsX3_refuses := goodIn_r _ [10, 11, 12, 13, 14, 15, 16, 17, 18, 19] (by decide +kernel) (by decide +kernel)
set_option maxRecDepth 20000 in
theorem gX3_open_X3_refuses : GoodIn wsX3_open (wsV RX3 38 RX3 yX3_refuses wsX3_refuses) := goodIn_app (goodIn_of _ (by decide +kernel)) ggX3_open_X3_refuses
theorem dX3_open_0 : decode cX3_open 0 = .ok (.aload_n 0, 1) := by decide +kernel
theorem dX3_open_1 : decode cX3_open 1 = .ok (.iload_n 1, 1) := by decide +kernel
theorem dX3_open_2 : decode cX3_open 2 = .ok (.iconst 2, 1) := by decide +kernel
theorem dX3_open_3 : decode cX3_open 3 = .ok (.if_icmp .lt 9, 3) := by decide +kernel
theorem dX3_open_6 : decode cX3_open 6 = .ok (.iload_n 1, 1) := by decide +kernel
theorem dX3_open_7 : decode cX3_open 7 = .ok (.bipush 6, 2) := by decide +kernel
theorem dX3_open_9 : decode cX3_open 9 = .ok (.if_icmp .le 7, 3) := by decide +kernel
theorem dX3_open_12 : decode cX3_open 12 = .ok (.iconst 1, 1) := by decide +kernel
theorem dX3_open_13 : decode cX3_open 13 = .ok (.goto 4, 3) := by decide +kernel
theorem dX3_open_16 : decode cX3_open 16 = .ok (.iconst 0, 1) := by decide +kernel
theorem dX3_open_17 : decode cX3_open 17 = .ok (.invokevirtual 38, 3) := by decide +kernel
theorem dX3_open_20 : decode cX3_open 20 = .ok (.ifCond .eq 4, 3) := by decide +kernel
end
section
theorem dX3_open_23 : decode cX3_open 23 = .ok (.return_, 1) := by decide +kernel
theorem dX3_open_24 : decode cX3_open 24 = .ok (.aload_n 0, 1) := by decide +kernel
theorem dX3_open_25 : decode cX3_open 25 = .ok (.iload_n 1, 1) := by decide +kernel
theorem dX3_open_26 : decode cX3_open 26 = .ok (.putfield 7, 3) := by decide +kernel
theorem dX3_open_29 : decode cX3_open 29 = .ok (.aload_n 0, 1) := by decide +kernel
theorem dX3_open_30 : decode cX3_open 30 = .ok (.iconst 0, 1) := by decide +kernel
theorem dX3_open_31 : decode cX3_open 31 = .ok (.putfield 41, 3) := by decide +kernel
theorem dX3_open_34 : decode cX3_open 34 = .ok (.iconst 0, 1) := by decide +kernel
theorem dX3_open_35 : decode cX3_open 35 = .ok (.istore_n 2, 1) := by decide +kernel
theorem dX3_open_36 : decode cX3_open 36 = .ok (.iload_n 2, 1) := by decide +kernel
theorem dX3_open_37 : decode cX3_open 37 = .ok (.sipush 2484, 3) := by decide +kernel
theorem dX3_open_40 : decode cX3_open 40 = .ok (.if_icmp .ge 16, 3) := by decide +kernel
theorem dX3_open_43 : decode cX3_open 43 = .ok (.aload_n 0, 1) := by decide +kernel
theorem dX3_open_44 : decode cX3_open 44 = .ok (.getfield 14, 3) := by decide +kernel
theorem dX3_open_47 : decode cX3_open 47 = .ok (.iload_n 2, 1) := by decide +kernel
theorem dX3_open_48 : decode cX3_open 48 = .ok (.iconst 0, 1) := by decide +kernel
theorem dX3_open_49 : decode cX3_open 49 = .ok (.iastore, 1) := by decide +kernel
theorem dX3_open_50 : decode cX3_open 50 = .ok (.iinc 2 1, 3) := by decide +kernel
theorem dX3_open_53 : decode cX3_open 53 = .ok (.goto (-17), 3) := by decide +kernel
theorem dX3_open_56 : decode cX3_open 56 = .ok (.iconst 0, 1) := by decide +kernel
theorem dX3_open_57 : decode cX3_open 57 = .ok (.istore_n 2, 1) := by decide +kernel
theorem dX3_open_58 : decode cX3_open 58 = .ok (.iload_n 2, 1) := by decide +kernel
theorem dX3_open_59 : decode cX3_open 59 = .ok (.sipush 144, 3) := by decide +kernel
theorem dX3_open_62 : decode cX3_open 62 = .ok (.if_icmp .ge 16, 3) := by decide +kernel
theorem dX3_open_65 : decode cX3_open 65 = .ok (.aload_n 0, 1) := by decide +kernel
theorem dX3_open_66 : decode cX3_open 66 = .ok (.getfield 18, 3) := by decide +kernel
theorem dX3_open_69 : decode cX3_open 69 = .ok (.iload_n 2, 1) := by decide +kernel
theorem dX3_open_70 : decode cX3_open 70 = .ok (.iconst 0, 1) := by decide +kernel
theorem dX3_open_71 : decode cX3_open 71 = .ok (.iastore, 1) := by decide +kernel
theorem dX3_open_72 : decode cX3_open 72 = .ok (.iinc 2 1, 3) := by decide +kernel
theorem dX3_open_75 : decode cX3_open 75 = .ok (.goto (-17), 3) := by decide +kernel
theorem dX3_open_78 : decode cX3_open 78 = .ok (.iconst 0, 1) := by decide +kernel
theorem dX3_open_79 : decode cX3_open 79 = .ok (.istore_n 2, 1) := by decide +kernel
theorem dX3_open_80 : decode cX3_open 80 = .ok (.iload_n 2, 1) := by decide +kernel
theorem dX3_open_81 : decode cX3_open 81 = .ok (.sipush 288, 3) := by decide +kernel
theorem dX3_open_84 : decode cX3_open 84 = .ok (.if_icmp .ge 16, 3) := by decide +kernel
theorem dX3_open_87 : decode cX3_open 87 = .ok (.aload_n 0, 1) := by decide +kernel
theorem dX3_open_88 : decode cX3_open 88 = .ok (.getfield 21, 3) := by decide +kernel
theorem dX3_open_91 : decode cX3_open 91 = .ok (.iload_n 2, 1) := by decide +kernel
theorem dX3_open_92 : decode cX3_open 92 = .ok (.lconst 0, 1) := by decide +kernel
theorem dX3_open_93 : decode cX3_open 93 = .ok (.lastore, 1) := by decide +kernel
theorem dX3_open_94 : decode cX3_open 94 = .ok (.iinc 2 1, 3) := by decide +kernel
theorem dX3_open_97 : decode cX3_open 97 = .ok (.goto (-17), 3) := by decide +kernel
theorem dX3_open_100 : decode cX3_open 100 = .ok (.return_, 1) := by decide +kernel
set_option maxRecDepth 20000 in
theorem ggX3_many_X3_dots : GoodIn wsX3_many wsX3_dots := goodIn_r _ [5] (by decide +kernel) (by decide +kernel)
set_option maxRecDepth 20000 in
theorem gX3_many_X3_dots : GoodIn wsX3_many (va_wsS RX3 44 yX3_dots wsX3_dots) := goodIn_app (goodIn_of _ (by decide +kernel)) ggX3_many_X3_dots
theorem dX3_many_0 : decode cX3_many 0 = .ok (.iconst 0, 1) := by decide +kernel
theorem dX3_many_1 : decode cX3_many 1 = .ok (.istore_n 3, 1) := by decide +kernel
theorem dX3_many_2 : decode cX3_many 2 = .ok (.iconst 0, 1) := by decide +kernel
theorem dX3_many_3 : decode cX3_many 3 = .ok (.istore 4, 2) := by decide +kernel
theorem dX3_many_5 : decode cX3_many 5 = .ok (.iload 4, 2) := by decide +kernel
theorem dX3_many_7 : decode cX3_many 7 = .ok (.bipush 6, 2) := by decide +kernel
theorem dX3_many_9 : decode cX3_many 9 = .ok (.if_icmp .ge 33, 3) := by decide +kernel
theorem dX3_many_12 : decode cX3_many 12 = .ok (.iload_n 3, 1) := by decide +kernel
theorem dX3_many_13 : decode cX3_many 13 = .ok (.aload_n 0, 1) := by decide +kernel
theorem dX3_many_14 : decode cX3_many 14 = .ok (.getfield 14, 3) := by decide +kernel
theorem dX3_many_17 : decode cX3_many 17 = .ok (.iload_n 1, 1) := by decide +kernel
theorem dX3_many_18 : decode cX3_many 18 = .ok (.iload_n 2, 1) := by decide +kernel
theorem dX3_many_19 : decode cX3_many 19 = .ok (.invokestatic 44, 3) := by decide +kernel
theorem dX3_many_22 : decode cX3_many 22 = .ok (.iload 4, 2) := by decide +kernel
theorem dX3_many_24 : decode cX3_many 24 = .ok (.iadd, 1) := by decide +kernel
theorem dX3_many_25 : decode cX3_many 25 = .ok (.iaload, 1) := by decide +kernel
theorem dX3_many_26 : decode cX3_many 26 = .ok (.ifCond .le 7, 3) := by decide +kernel
theorem dX3_many_29 : decode cX3_many 29 = .ok (.iconst 1, 1) := by decide +kernel
theorem dX3_many_30 : decode cX3_many 30 = .ok (.goto 4, 3) := by decide +kernel
theorem dX3_many_33 : decode cX3_many 33 = .ok (.iconst 0, 1) := by decide +kernel
theorem dX3_many_34 : decode cX3_many 34 = .ok (.iadd, 1) := by decide +kernel
theorem dX3_many_35 : decode cX3_many 35 = .ok (.istore_n 3, 1) := by decide +kernel
theorem dX3_many_36 : decode cX3_many 36 = .ok (.iinc 4 1, 3) := by decide +kernel
theorem dX3_many_39 : decode cX3_many 39 = .ok (.goto (-34), 3) := by decide +kernel
theorem dX3_many_42 : decode cX3_many 42 = .ok (.iload_n 3, 1) := by decide +kernel
theorem dX3_many_43 : decode cX3_many 43 = .ok (.ireturn, 1) := by decide +kernel
set_option maxRecDepth 20000 in
theorem ggX3_empties_X3_dots : GoodIn wsX3_empties wsX3_dots := goodIn_r _ [5] (by decide +kernel) (by decide +kernel)
set_option maxRecDepth 20000 in
theorem gX3_empties_X3_dots : GoodIn wsX3_empties (va_wsS RX3 44 yX3_dots wsX3_dots) := goodIn_app (goodIn_of _ (by decide +kernel)) ggX3_empties_X3_dots
theorem dX3_empties_0 : decode cX3_empties 0 = .ok (.iconst 0, 1) := by decide +kernel
theorem dX3_empties_1 : decode cX3_empties 1 = .ok (.istore_n 3, 1) := by decide +kernel
theorem dX3_empties_2 : decode cX3_empties 2 = .ok (.iload_n 3, 1) := by decide +kernel
theorem dX3_empties_3 : decode cX3_empties 3 = .ok (.bipush 6, 2) := by decide +kernel
theorem dX3_empties_5 : decode cX3_empties 5 = .ok (.if_icmp .ge 22, 3) := by decide +kernel
theorem dX3_empties_8 : decode cX3_empties 8 = .ok (.aload_n 0, 1) := by decide +kernel
theorem dX3_empties_9 : decode cX3_empties 9 = .ok (.getfield 14, 3) := by decide +kernel
theorem dX3_empties_12 : decode cX3_empties 12 = .ok (.iload_n 1, 1) := by decide +kernel
theorem dX3_empties_13 : decode cX3_empties 13 = .ok (.iload_n 2, 1) := by decide +kernel
theorem dX3_empties_14 : decode cX3_empties 14 = .ok (.invokestatic 44, 3) := by decide +kernel
theorem dX3_empties_17 : decode cX3_empties 17 = .ok (.iload_n 3, 1) := by decide +kernel
theorem dX3_empties_18 : decode cX3_empties 18 = .ok (.iadd, 1) := by decide +kernel
theorem dX3_empties_19 : decode cX3_empties 19 = .ok (.iconst 0, 1) := by decide +kernel
theorem dX3_empties_20 : decode cX3_empties 20 = .ok (.iastore, 1) := by decide +kernel
theorem dX3_empties_21 : decode cX3_empties 21 = .ok (.iinc 3 1, 3) := by decide +kernel
theorem dX3_empties_24 : decode cX3_empties 24 = .ok (.goto (-22), 3) := by decide +kernel
theorem dX3_empties_27 : decode cX3_empties 27 = .ok (.return_, 1) := by decide +kernel
set_option maxRecDepth 20000 in
theorem ggX3_news_X3_vectorAt : GoodIn wsX3_news wsX3_vectorAt := goodIn_r _ [5] (by decide +kernel) (by decide +kernel)
set_option maxRecDepth 20000 in
theorem gX3_news_X3_vectorAt : GoodIn wsX3_news (va_wsS RX3 48 yX3_vectorAt wsX3_vectorAt) := goodIn_app (goodIn_of _ (by decide +kernel)) ggX3_news_X3_vectorAt
set_option maxRecDepth 20000 in
theorem ggX3_news_X3_empties : GoodIn wsX3_news wsX3_empties := goodIn_r _ [9, 1, 10, 11, 4, 12, 13, 14, 15, 16, 17, 18, 19, 20] (by decide +kernel) (by decide +kernel)
set_option maxRecDepth 20000 in
theorem gX3_news_X3_empties : GoodIn wsX3_news (wsV RX3 51 RX3 yX3_empties wsX3_empties) := goodIn_app (goodIn_of _ (by decide +kernel)) ggX3_news_X3_empties
set_option maxRecDepth 20000 in
theorem ggX3_news_X3_dots : GoodIn wsX3_news wsX3_dots := goodIn_r _ [12] (by decide +kernel) (by decide +kernel)
set_option maxRecDepth 20000 in
theorem gX3_news_X3_dots : GoodIn wsX3_news (va_wsS RX3 44 yX3_dots wsX3_dots) := goodIn_app (goodIn_of _ (by decide +kernel)) ggX3_news_X3_dots
theorem dX3_news_0 : decode cX3_news 0 = .ok (.aload_n 0, 1) := by decide +kernel
theorem dX3_news_1 : decode cX3_news 1 = .ok (.getfield 14, 3) := by decide +kernel
theorem dX3_news_4 : decode cX3_news 4 = .ok (.iload_n 1, 1) := by decide +kernel
theorem dX3_news_5 : decode cX3_news 5 = .ok (.iload_n 1, 1) := by decide +kernel
theorem dX3_news_6 : decode cX3_news 6 = .ok (.invokestatic 48, 3) := by decide +kernel
theorem dX3_news_9 : decode cX3_news 9 = .ok (.iaload, 1) := by decide +kernel
theorem dX3_news_10 : decode cX3_news 10 = .ok (.iconst 1, 1) := by decide +kernel
theorem dX3_news_11 : decode cX3_news 11 = .ok (.iadd, 1) := by decide +kernel
theorem dX3_news_12 : decode cX3_news 12 = .ok (.istore_n 3, 1) := by decide +kernel
theorem dX3_news_13 : decode cX3_news 13 = .ok (.aload_n 0, 1) := by decide +kernel
theorem dX3_news_14 : decode cX3_news 14 = .ok (.getfield 14, 3) := by decide +kernel
theorem dX3_news_17 : decode cX3_news 17 = .ok (.iload_n 1, 1) := by decide +kernel
theorem dX3_news_18 : decode cX3_news 18 = .ok (.iload_n 1, 1) := by decide +kernel
theorem dX3_news_19 : decode cX3_news 19 = .ok (.invokestatic 48, 3) := by decide +kernel
theorem dX3_news_22 : decode cX3_news 22 = .ok (.iload_n 3, 1) := by decide +kernel
theorem dX3_news_23 : decode cX3_news 23 = .ok (.iastore, 1) := by decide +kernel
theorem dX3_news_24 : decode cX3_news 24 = .ok (.aload_n 0, 1) := by decide +kernel
theorem dX3_news_25 : decode cX3_news 25 = .ok (.iload_n 1, 1) := by decide +kernel
theorem dX3_news_26 : decode cX3_news 26 = .ok (.iload_n 2, 1) := by decide +kernel
theorem dX3_news_27 : decode cX3_news 27 = .ok (.invokevirtual 51, 3) := by decide +kernel
theorem dX3_news_30 : decode cX3_news 30 = .ok (.aload_n 0, 1) := by decide +kernel
theorem dX3_news_31 : decode cX3_news 31 = .ok (.getfield 14, 3) := by decide +kernel
theorem dX3_news_34 : decode cX3_news 34 = .ok (.iload_n 1, 1) := by decide +kernel
theorem dX3_news_35 : decode cX3_news 35 = .ok (.iload_n 2, 1) := by decide +kernel
theorem dX3_news_36 : decode cX3_news 36 = .ok (.invokestatic 44, 3) := by decide +kernel
theorem dX3_news_39 : decode cX3_news 39 = .ok (.iload_n 1, 1) := by decide +kernel
theorem dX3_news_40 : decode cX3_news 40 = .ok (.iadd, 1) := by decide +kernel
theorem dX3_news_41 : decode cX3_news 41 = .ok (.iload_n 3, 1) := by decide +kernel
theorem dX3_news_42 : decode cX3_news 42 = .ok (.iastore, 1) := by decide +kernel
theorem dX3_news_43 : decode cX3_news 43 = .ok (.iload_n 3, 1) := by decide +kernel
theorem dX3_news_44 : decode cX3_news 44 = .ok (.ireturn, 1) := by decide +kernel
set_option maxRecDepth 20000 in
theorem ggX3_add_X3_isElement : GoodIn wsX3_add wsX3_isElement := goodIn_r _ [5, 6, 7, 8, 4, 9, 10, 31, 32, 33, 34, 35, 36, 37, 38] (by decide +kernel) (by decide +kernel)
set_option maxRecDepth 20000 in
theorem gX3_add_X3_isElement : GoodIn wsX3_add (wsV RX3 55 RX3 yX3_isElement wsX3_isElement) := goodIn_app (goodIn_of _ (by decide +kernel)) ggX3_add_X3_isElement
set_option maxRecDepth 20000 in
theorem ggX3_add_X3_refuses : GoodIn wsX3_add wsX3_refuses := goodIn_r _ [14, 15, 31, 32, 33, 34, 35, 36, 37, 38] (by decide +kernel) (by decide +kernel)
set_option maxRecDepth 20000 in
theorem gX3_add_X3_refuses : GoodIn wsX3_add (wsV RX3 38 RX3 yX3_refuses wsX3_refuses) := goodIn_app (goodIn_of _ (by decide +kernel)) ggX3_add_X3_refuses
set_option maxRecDepth 20000 in
theorem ggX3_add_X3_news : GoodIn wsX3_add wsX3_news := goodIn_r _ [19, 20, 21, 22, 4, 23, 24, 25, 26, 27, 28, 29, 30, 31, 32, 33, 34, 35, 36, 37, 38] (by decide +kernel) (by decide +kernel)
set_option maxRecDepth 20000 in
theorem gX3_add_X3_news : GoodIn wsX3_add (wsV RX3 59 RX3 yX3_news wsX3_news) := goodIn_app (goodIn_of _ (by decide +kernel)) ggX3_add_X3_news
theorem dX3_add_0 : decode cX3_add 0 = .ok (.aload_n 0, 1) := by decide +kernel
theorem dX3_add_1 : decode cX3_add 1 = .ok (.aload_n 0, 1) := by decide +kernel
theorem dX3_add_2 : decode cX3_add 2 = .ok (.iload_n 1, 1) := by decide +kernel
theorem dX3_add_3 : decode cX3_add 3 = .ok (.iload_n 2, 1) := by decide +kernel
theorem dX3_add_4 : decode cX3_add 4 = .ok (.iload_n 3, 1) := by decide +kernel
theorem dX3_add_5 : decode cX3_add 5 = .ok (.invokevirtual 55, 3) := by decide +kernel
theorem dX3_add_8 : decode cX3_add 8 = .ok (.ifCond .eq 7, 3) := by decide +kernel
theorem dX3_add_11 : decode cX3_add 11 = .ok (.iconst 0, 1) := by decide +kernel
theorem dX3_add_12 : decode cX3_add 12 = .ok (.goto 4, 3) := by decide +kernel
theorem dX3_add_15 : decode cX3_add 15 = .ok (.iconst 1, 1) := by decide +kernel
theorem dX3_add_16 : decode cX3_add 16 = .ok (.invokevirtual 38, 3) := by decide +kernel
theorem dX3_add_19 : decode cX3_add 19 = .ok (.ifCond .eq 7, 3) := by decide +kernel
theorem dX3_add_22 : decode cX3_add 22 = .ok (.iconst 0, 1) := by decide +kernel
theorem dX3_add_23 : decode cX3_add 23 = .ok (.goto 14, 3) := by decide +kernel
theorem dX3_add_26 : decode cX3_add 26 = .ok (.aload_n 0, 1) := by decide +kernel
theorem dX3_add_27 : decode cX3_add 27 = .ok (.iload_n 1, 1) := by decide +kernel
theorem dX3_add_28 : decode cX3_add 28 = .ok (.bipush 16, 2) := by decide +kernel
theorem dX3_add_30 : decode cX3_add 30 = .ok (.iload_n 2, 1) := by decide +kernel
theorem dX3_add_31 : decode cX3_add 31 = .ok (.imul, 1) := by decide +kernel
theorem dX3_add_32 : decode cX3_add 32 = .ok (.iload_n 3, 1) := by decide +kernel
theorem dX3_add_33 : decode cX3_add 33 = .ok (.iadd, 1) := by decide +kernel
theorem dX3_add_34 : decode cX3_add 34 = .ok (.invokevirtual 59, 3) := by decide +kernel
theorem dX3_add_37 : decode cX3_add 37 = .ok (.ireturn, 1) := by decide +kernel
set_option maxRecDepth 20000 in
theorem ggX3_remove_X3_isElement : GoodIn wsX3_remove wsX3_isElement := goodIn_r _ [5, 6, 7, 8, 4, 9, 10, 28, 29, 30, 31, 32, 33, 34, 35] (by decide +kernel) (by decide +kernel)
set_option maxRecDepth 20000 in
theorem gX3_remove_X3_isElement : GoodIn wsX3_remove (wsV RX3 55 RX3 yX3_isElement wsX3_isElement) := goodIn_app (goodIn_of _ (by decide +kernel)) ggX3_remove_X3_isElement
set_option maxRecDepth 20000 in
theorem ggX3_remove_X3_refuses : GoodIn wsX3_remove wsX3_refuses := goodIn_r _ [14, 15, 28, 29, 30, 31, 32, 33, 34, 35] (by decide +kernel) (by decide +kernel)
set_option maxRecDepth 20000 in
theorem gX3_remove_X3_refuses : GoodIn wsX3_remove (wsV RX3 38 RX3 yX3_refuses wsX3_refuses) := goodIn_app (goodIn_of _ (by decide +kernel)) ggX3_remove_X3_refuses
set_option maxRecDepth 20000 in
theorem ggX3_remove_X3_many : GoodIn wsX3_remove wsX3_many := goodIn_r _ [19, 20, 21, 22, 4, 23, 28, 29, 30, 31, 32, 33, 34, 35] (by decide +kernel) (by decide +kernel)
set_option maxRecDepth 20000 in
theorem gX3_remove_X3_many : GoodIn wsX3_remove (wsV RX3 62 RX3 yX3_many wsX3_many) := goodIn_app (goodIn_of _ (by decide +kernel)) ggX3_remove_X3_many
set_option maxRecDepth 20000 in
theorem ggX3_remove_X3_empties : GoodIn wsX3_remove wsX3_empties := goodIn_r _ [27, 20, 21, 22, 4, 23, 28, 29, 30, 31, 32, 33, 34, 35] (by decide +kernel) (by decide +kernel)
set_option maxRecDepth 20000 in
theorem gX3_remove_X3_empties : GoodIn wsX3_remove (wsV RX3 51 RX3 yX3_empties wsX3_empties) := goodIn_app (goodIn_of _ (by decide +kernel)) ggX3_remove_X3_empties
theorem dX3_remove_0 : decode cX3_remove 0 = .ok (.aload_n 0, 1) := by decide +kernel
theorem dX3_remove_1 : decode cX3_remove 1 = .ok (.aload_n 0, 1) := by decide +kernel
theorem dX3_remove_2 : decode cX3_remove 2 = .ok (.iload_n 1, 1) := by decide +kernel
theorem dX3_remove_3 : decode cX3_remove 3 = .ok (.iload_n 2, 1) := by decide +kernel
theorem dX3_remove_4 : decode cX3_remove 4 = .ok (.iload_n 3, 1) := by decide +kernel
theorem dX3_remove_5 : decode cX3_remove 5 = .ok (.invokevirtual 55, 3) := by decide +kernel
theorem dX3_remove_8 : decode cX3_remove 8 = .ok (.ifCond .eq 7, 3) := by decide +kernel
theorem dX3_remove_11 : decode cX3_remove 11 = .ok (.iconst 0, 1) := by decide +kernel
theorem dX3_remove_12 : decode cX3_remove 12 = .ok (.goto 4, 3) := by decide +kernel
theorem dX3_remove_15 : decode cX3_remove 15 = .ok (.iconst 1, 1) := by decide +kernel
theorem dX3_remove_16 : decode cX3_remove 16 = .ok (.invokevirtual 38, 3) := by decide +kernel
theorem dX3_remove_19 : decode cX3_remove 19 = .ok (.ifCond .eq 5, 3) := by decide +kernel
theorem dX3_remove_22 : decode cX3_remove 22 = .ok (.iconst 0, 1) := by decide +kernel
theorem dX3_remove_23 : decode cX3_remove 23 = .ok (.ireturn, 1) := by decide +kernel
theorem dX3_remove_24 : decode cX3_remove 24 = .ok (.aload_n 0, 1) := by decide +kernel
theorem dX3_remove_25 : decode cX3_remove 25 = .ok (.iload_n 1, 1) := by decide +kernel
theorem dX3_remove_26 : decode cX3_remove 26 = .ok (.bipush 16, 2) := by decide +kernel
theorem dX3_remove_28 : decode cX3_remove 28 = .ok (.iload_n 2, 1) := by decide +kernel
theorem dX3_remove_29 : decode cX3_remove 29 = .ok (.imul, 1) := by decide +kernel
theorem dX3_remove_30 : decode cX3_remove 30 = .ok (.iload_n 3, 1) := by decide +kernel
theorem dX3_remove_31 : decode cX3_remove 31 = .ok (.iadd, 1) := by decide +kernel
theorem dX3_remove_32 : decode cX3_remove 32 = .ok (.invokevirtual 62, 3) := by decide +kernel
theorem dX3_remove_35 : decode cX3_remove 35 = .ok (.istore 4, 2) := by decide +kernel
theorem dX3_remove_37 : decode cX3_remove 37 = .ok (.aload_n 0, 1) := by decide +kernel
theorem dX3_remove_38 : decode cX3_remove 38 = .ok (.iload_n 1, 1) := by decide +kernel
theorem dX3_remove_39 : decode cX3_remove 39 = .ok (.bipush 16, 2) := by decide +kernel
theorem dX3_remove_41 : decode cX3_remove 41 = .ok (.iload_n 2, 1) := by decide +kernel
theorem dX3_remove_42 : decode cX3_remove 42 = .ok (.imul, 1) := by decide +kernel
theorem dX3_remove_43 : decode cX3_remove 43 = .ok (.iload_n 3, 1) := by decide +kernel
theorem dX3_remove_44 : decode cX3_remove 44 = .ok (.iadd, 1) := by decide +kernel
theorem dX3_remove_45 : decode cX3_remove 45 = .ok (.invokevirtual 51, 3) := by decide +kernel
theorem dX3_remove_48 : decode cX3_remove 48 = .ok (.iload 4, 2) := by decide +kernel
theorem dX3_remove_50 : decode cX3_remove 50 = .ok (.ireturn, 1) := by decide +kernel
set_option maxRecDepth 20000 in
theorem ggX3_clear_X3_isElement : GoodIn wsX3_clear wsX3_isElement := goodIn_r _ [5, 6, 7, 8, 4, 9, 10, 28, 29, 30, 31, 32, 33, 34, 35] (by decide +kernel) (by decide +kernel)
set_option maxRecDepth 20000 in
theorem gX3_clear_X3_isElement : GoodIn wsX3_clear (wsV RX3 55 RX3 yX3_isElement wsX3_isElement) := goodIn_app (goodIn_of _ (by decide +kernel)) ggX3_clear_X3_isElement
set_option maxRecDepth 20000 in
theorem ggX3_clear_X3_refuses : GoodIn wsX3_clear wsX3_refuses := goodIn_r _ [14, 15, 28, 29, 30, 31, 32, 33, 34, 35] (by decide +kernel) (by decide +kernel)
set_option maxRecDepth 20000 in
theorem gX3_clear_X3_refuses : GoodIn wsX3_clear (wsV RX3 38 RX3 yX3_refuses wsX3_refuses) := goodIn_app (goodIn_of _ (by decide +kernel)) ggX3_clear_X3_refuses
set_option maxRecDepth 20000 in
theorem ggX3_clear_X3_many : GoodIn wsX3_clear wsX3_many := goodIn_r _ [19, 20, 21, 22, 4, 23, 28, 29, 30, 31, 32, 33, 34, 35] (by decide +kernel) (by decide +kernel)
set_option maxRecDepth 20000 in
theorem gX3_clear_X3_many : GoodIn wsX3_clear (wsV RX3 62 RX3 yX3_many wsX3_many) := goodIn_app (goodIn_of _ (by decide +kernel)) ggX3_clear_X3_many
set_option maxRecDepth 20000 in
theorem ggX3_clear_X3_empties : GoodIn wsX3_clear wsX3_empties := goodIn_r _ [27, 20, 21, 22, 4, 23, 28, 29, 30, 31, 32, 33, 34, 35] (by decide +kernel) (by decide +kernel)
set_option maxRecDepth 20000 in
theorem gX3_clear_X3_empties : GoodIn wsX3_clear (wsV RX3 51 RX3 yX3_empties wsX3_empties) := goodIn_app (goodIn_of _ (by decide +kernel)) ggX3_clear_X3_empties
theorem dX3_clear_0 : decode cX3_clear 0 = .ok (.aload_n 0, 1) := by decide +kernel
theorem dX3_clear_1 : decode cX3_clear 1 = .ok (.aload_n 0, 1) := by decide +kernel
theorem dX3_clear_2 : decode cX3_clear 2 = .ok (.iload_n 1, 1) := by decide +kernel
theorem dX3_clear_3 : decode cX3_clear 3 = .ok (.iload_n 2, 1) := by decide +kernel
theorem dX3_clear_4 : decode cX3_clear 4 = .ok (.iconst 0, 1) := by decide +kernel
theorem dX3_clear_5 : decode cX3_clear 5 = .ok (.invokevirtual 55, 3) := by decide +kernel
theorem dX3_clear_8 : decode cX3_clear 8 = .ok (.ifCond .eq 7, 3) := by decide +kernel
theorem dX3_clear_11 : decode cX3_clear 11 = .ok (.iconst 0, 1) := by decide +kernel
theorem dX3_clear_12 : decode cX3_clear 12 = .ok (.goto 4, 3) := by decide +kernel
theorem dX3_clear_15 : decode cX3_clear 15 = .ok (.iconst 1, 1) := by decide +kernel
theorem dX3_clear_16 : decode cX3_clear 16 = .ok (.invokevirtual 38, 3) := by decide +kernel
theorem dX3_clear_19 : decode cX3_clear 19 = .ok (.ifCond .eq 5, 3) := by decide +kernel
theorem dX3_clear_22 : decode cX3_clear 22 = .ok (.iconst 0, 1) := by decide +kernel
theorem dX3_clear_23 : decode cX3_clear 23 = .ok (.ireturn, 1) := by decide +kernel
theorem dX3_clear_24 : decode cX3_clear 24 = .ok (.iconst 0, 1) := by decide +kernel
theorem dX3_clear_25 : decode cX3_clear 25 = .ok (.istore_n 3, 1) := by decide +kernel
theorem dX3_clear_26 : decode cX3_clear 26 = .ok (.bipush 16, 2) := by decide +kernel
theorem dX3_clear_28 : decode cX3_clear 28 = .ok (.iload_n 2, 1) := by decide +kernel
theorem dX3_clear_29 : decode cX3_clear 29 = .ok (.imul, 1) := by decide +kernel
theorem dX3_clear_30 : decode cX3_clear 30 = .ok (.istore 4, 2) := by decide +kernel
theorem dX3_clear_32 : decode cX3_clear 32 = .ok (.iload 4, 2) := by decide +kernel
theorem dX3_clear_34 : decode cX3_clear 34 = .ok (.bipush 16, 2) := by decide +kernel
theorem dX3_clear_36 : decode cX3_clear 36 = .ok (.iload_n 2, 1) := by decide +kernel
theorem dX3_clear_37 : decode cX3_clear 37 = .ok (.imul, 1) := by decide +kernel
theorem dX3_clear_38 : decode cX3_clear 38 = .ok (.bipush 16, 2) := by decide +kernel
theorem dX3_clear_40 : decode cX3_clear 40 = .ok (.iadd, 1) := by decide +kernel
theorem dX3_clear_41 : decode cX3_clear 41 = .ok (.if_icmp .ge 34, 3) := by decide +kernel
theorem dX3_clear_44 : decode cX3_clear 44 = .ok (.iload_n 3, 1) := by decide +kernel
theorem dX3_clear_45 : decode cX3_clear 45 = .ok (.aload_n 0, 1) := by decide +kernel
theorem dX3_clear_46 : decode cX3_clear 46 = .ok (.iload_n 1, 1) := by decide +kernel
theorem dX3_clear_47 : decode cX3_clear 47 = .ok (.iload 4, 2) := by decide +kernel
theorem dX3_clear_49 : decode cX3_clear 49 = .ok (.invokevirtual 62, 3) := by decide +kernel
theorem dX3_clear_52 : decode cX3_clear 52 = .ok (.ifCond .le 7, 3) := by decide +kernel
theorem dX3_clear_55 : decode cX3_clear 55 = .ok (.iconst 1, 1) := by decide +kernel
theorem dX3_clear_56 : decode cX3_clear 56 = .ok (.goto 4, 3) := by decide +kernel
theorem dX3_clear_59 : decode cX3_clear 59 = .ok (.iconst 0, 1) := by decide +kernel
theorem dX3_clear_60 : decode cX3_clear 60 = .ok (.iadd, 1) := by decide +kernel
theorem dX3_clear_61 : decode cX3_clear 61 = .ok (.istore_n 3, 1) := by decide +kernel
theorem dX3_clear_62 : decode cX3_clear 62 = .ok (.aload_n 0, 1) := by decide +kernel
theorem dX3_clear_63 : decode cX3_clear 63 = .ok (.iload_n 1, 1) := by decide +kernel
theorem dX3_clear_64 : decode cX3_clear 64 = .ok (.iload 4, 2) := by decide +kernel
theorem dX3_clear_66 : decode cX3_clear 66 = .ok (.invokevirtual 51, 3) := by decide +kernel
theorem dX3_clear_69 : decode cX3_clear 69 = .ok (.iinc 4 1, 3) := by decide +kernel
theorem dX3_clear_72 : decode cX3_clear 72 = .ok (.goto (-40), 3) := by decide +kernel
theorem dX3_clear_75 : decode cX3_clear 75 = .ok (.iload_n 3, 1) := by decide +kernel
theorem dX3_clear_76 : decode cX3_clear 76 = .ok (.ireturn, 1) := by decide +kernel
set_option maxRecDepth 20000 in
theorem ggX3_write_X3_isRegister : GoodIn wsX3_write wsX3_isRegister := goodIn_r _ [6, 7, 8, 9, 5, 10, 11, 36, 37, 38, 39, 40, 41, 42, 43] (by decide +kernel) (by decide +kernel)
set_option maxRecDepth 20000 in
theorem gX3_write_X3_isRegister : GoodIn wsX3_write (wsV RX3 65 RX3 yX3_isRegister wsX3_isRegister) := goodIn_app (goodIn_of _ (by decide +kernel)) ggX3_write_X3_isRegister
set_option maxRecDepth 20000 in
theorem ggX3_write_X3_refuses : GoodIn wsX3_write wsX3_refuses := goodIn_r _ [15, 16, 36, 37, 38, 39, 40, 41, 42, 43] (by decide +kernel) (by decide +kernel)
set_option maxRecDepth 20000 in
theorem gX3_write_X3_refuses : GoodIn wsX3_write (wsV RX3 38 RX3 yX3_refuses wsX3_refuses) := goodIn_app (goodIn_of _ (by decide +kernel)) ggX3_write_X3_refuses
set_option maxRecDepth 20000 in
theorem ggX3_write_X3_many : GoodIn wsX3_write wsX3_many := goodIn_r _ [20, 21, 22, 23, 5, 24, 36, 37, 38, 39, 40, 41, 42, 43] (by decide +kernel) (by decide +kernel)
set_option maxRecDepth 20000 in
theorem gX3_write_X3_many : GoodIn wsX3_write (wsV RX3 62 RX3 yX3_many wsX3_many) := goodIn_app (goodIn_of _ (by decide +kernel)) ggX3_write_X3_many
set_option maxRecDepth 20000 in
theorem ggX3_write_X3_news : GoodIn wsX3_write wsX3_news := goodIn_r _ [28, 21, 29, 30, 5, 31, 32, 33, 34, 35, 22, 23, 24, 36, 37, 38, 39, 40, 41, 42, 43] (by decide +kernel) (by decide +kernel)
set_option maxRecDepth 20000 in
theorem gX3_write_X3_news : GoodIn wsX3_write (wsV RX3 59 RX3 yX3_news wsX3_news) := goodIn_app (goodIn_of _ (by decide +kernel)) ggX3_write_X3_news
theorem dX3_write_0 : decode cX3_write 0 = .ok (.aload_n 0, 1) := by decide +kernel
theorem dX3_write_1 : decode cX3_write 1 = .ok (.aload_n 0, 1) := by decide +kernel
theorem dX3_write_2 : decode cX3_write 2 = .ok (.iload_n 1, 1) := by decide +kernel
theorem dX3_write_3 : decode cX3_write 3 = .ok (.iload_n 2, 1) := by decide +kernel
theorem dX3_write_4 : decode cX3_write 4 = .ok (.invokevirtual 65, 3) := by decide +kernel
theorem dX3_write_7 : decode cX3_write 7 = .ok (.ifCond .eq 7, 3) := by decide +kernel
theorem dX3_write_10 : decode cX3_write 10 = .ok (.iconst 0, 1) := by decide +kernel
theorem dX3_write_11 : decode cX3_write 11 = .ok (.goto 4, 3) := by decide +kernel
theorem dX3_write_14 : decode cX3_write 14 = .ok (.iconst 1, 1) := by decide +kernel
theorem dX3_write_15 : decode cX3_write 15 = .ok (.invokevirtual 38, 3) := by decide +kernel
theorem dX3_write_18 : decode cX3_write 18 = .ok (.ifCond .eq 5, 3) := by decide +kernel
theorem dX3_write_21 : decode cX3_write 21 = .ok (.iconst 0, 1) := by decide +kernel
theorem dX3_write_22 : decode cX3_write 22 = .ok (.ireturn, 1) := by decide +kernel
theorem dX3_write_23 : decode cX3_write 23 = .ok (.aload_n 0, 1) := by decide +kernel
theorem dX3_write_24 : decode cX3_write 24 = .ok (.iload_n 1, 1) := by decide +kernel
theorem dX3_write_25 : decode cX3_write 25 = .ok (.bipush 64, 2) := by decide +kernel
theorem dX3_write_27 : decode cX3_write 27 = .ok (.iload_n 2, 1) := by decide +kernel
theorem dX3_write_28 : decode cX3_write 28 = .ok (.iadd, 1) := by decide +kernel
theorem dX3_write_29 : decode cX3_write 29 = .ok (.invokevirtual 62, 3) := by decide +kernel
theorem dX3_write_32 : decode cX3_write 32 = .ok (.istore 4, 2) := by decide +kernel
theorem dX3_write_34 : decode cX3_write 34 = .ok (.aload_n 0, 1) := by decide +kernel
theorem dX3_write_35 : decode cX3_write 35 = .ok (.iload_n 1, 1) := by decide +kernel
theorem dX3_write_36 : decode cX3_write 36 = .ok (.bipush 64, 2) := by decide +kernel
theorem dX3_write_38 : decode cX3_write 38 = .ok (.iload_n 2, 1) := by decide +kernel
theorem dX3_write_39 : decode cX3_write 39 = .ok (.iadd, 1) := by decide +kernel
theorem dX3_write_40 : decode cX3_write 40 = .ok (.invokevirtual 59, 3) := by decide +kernel
theorem dX3_write_43 : decode cX3_write 43 = .ok (.pop, 1) := by decide +kernel
theorem dX3_write_44 : decode cX3_write 44 = .ok (.aload_n 0, 1) := by decide +kernel
theorem dX3_write_45 : decode cX3_write 45 = .ok (.getfield 18, 3) := by decide +kernel
theorem dX3_write_48 : decode cX3_write 48 = .ok (.bipush 24, 2) := by decide +kernel
theorem dX3_write_50 : decode cX3_write 50 = .ok (.iload_n 1, 1) := by decide +kernel
theorem dX3_write_51 : decode cX3_write 51 = .ok (.imul, 1) := by decide +kernel
theorem dX3_write_52 : decode cX3_write 52 = .ok (.bipush 6, 2) := by decide +kernel
theorem dX3_write_54 : decode cX3_write 54 = .ok (.iload_n 2, 1) := by decide +kernel
theorem dX3_write_55 : decode cX3_write 55 = .ok (.imul, 1) := by decide +kernel
theorem dX3_write_56 : decode cX3_write 56 = .ok (.iadd, 1) := by decide +kernel
theorem dX3_write_57 : decode cX3_write 57 = .ok (.iload_n 1, 1) := by decide +kernel
theorem dX3_write_58 : decode cX3_write 58 = .ok (.iadd, 1) := by decide +kernel
theorem dX3_write_59 : decode cX3_write 59 = .ok (.iload_n 3, 1) := by decide +kernel
theorem dX3_write_60 : decode cX3_write 60 = .ok (.iastore, 1) := by decide +kernel
theorem dX3_write_61 : decode cX3_write 61 = .ok (.iload 4, 2) := by decide +kernel
theorem dX3_write_63 : decode cX3_write 63 = .ok (.ireturn, 1) := by decide +kernel
set_option maxRecDepth 20000 in
theorem ggX3_count_X3_isRegister : GoodIn wsX3_count wsX3_isRegister := goodIn_r _ [6, 7, 8, 9, 5, 10, 11, 21, 22, 23, 24, 25, 26, 27, 28] (by decide +kernel) (by decide +kernel)
set_option maxRecDepth 20000 in
theorem gX3_count_X3_isRegister : GoodIn wsX3_count (wsV RX3 65 RX3 yX3_isRegister wsX3_isRegister) := goodIn_app (goodIn_of _ (by decide +kernel)) ggX3_count_X3_isRegister
set_option maxRecDepth 20000 in
theorem ggX3_count_X3_refuses : GoodIn wsX3_count wsX3_refuses := goodIn_r _ [15, 16, 21, 22, 23, 24, 25, 26, 27, 28] (by decide +kernel) (by decide +kernel)
set_option maxRecDepth 20000 in
theorem gX3_count_X3_refuses : GoodIn wsX3_count (wsV RX3 38 RX3 yX3_refuses wsX3_refuses) := goodIn_app (goodIn_of _ (by decide +kernel)) ggX3_count_X3_refuses
set_option maxRecDepth 20000 in
theorem ggX3_count_X3_sum : GoodIn wsX3_count wsX3_sum := goodIn_r _ [20, 1, 21, 22, 23, 24, 25, 26, 27, 28] (by decide +kernel) (by decide +kernel)
set_option maxRecDepth 20000 in
theorem gX3_count_X3_sum : GoodIn wsX3_count (wsV RX3 69 RX3 yX3_sum wsX3_sum) := goodIn_app (goodIn_of _ (by decide +kernel)) ggX3_count_X3_sum
theorem dX3_count_0 : decode cX3_count 0 = .ok (.aload_n 0, 1) := by decide +kernel
theorem dX3_count_1 : decode cX3_count 1 = .ok (.aload_n 0, 1) := by decide +kernel
theorem dX3_count_2 : decode cX3_count 2 = .ok (.iload_n 1, 1) := by decide +kernel
theorem dX3_count_3 : decode cX3_count 3 = .ok (.iload_n 2, 1) := by decide +kernel
theorem dX3_count_4 : decode cX3_count 4 = .ok (.invokevirtual 65, 3) := by decide +kernel
theorem dX3_count_7 : decode cX3_count 7 = .ok (.ifCond .eq 7, 3) := by decide +kernel
theorem dX3_count_10 : decode cX3_count 10 = .ok (.iconst 0, 1) := by decide +kernel
theorem dX3_count_11 : decode cX3_count 11 = .ok (.goto 4, 3) := by decide +kernel
theorem dX3_count_14 : decode cX3_count 14 = .ok (.iconst 1, 1) := by decide +kernel
theorem dX3_count_15 : decode cX3_count 15 = .ok (.invokevirtual 38, 3) := by decide +kernel
theorem dX3_count_18 : decode cX3_count 18 = .ok (.ifCond .eq 5, 3) := by decide +kernel
theorem dX3_count_21 : decode cX3_count 21 = .ok (.iconst 0, 1) := by decide +kernel
theorem dX3_count_22 : decode cX3_count 22 = .ok (.ireturn, 1) := by decide +kernel
theorem dX3_count_23 : decode cX3_count 23 = .ok (.bipush 48, 2) := by decide +kernel
theorem dX3_count_25 : decode cX3_count 25 = .ok (.iload_n 1, 1) := by decide +kernel
theorem dX3_count_26 : decode cX3_count 26 = .ok (.imul, 1) := by decide +kernel
theorem dX3_count_27 : decode cX3_count 27 = .ok (.bipush 6, 2) := by decide +kernel
theorem dX3_count_29 : decode cX3_count 29 = .ok (.iload_n 2, 1) := by decide +kernel
theorem dX3_count_30 : decode cX3_count 30 = .ok (.imul, 1) := by decide +kernel
theorem dX3_count_31 : decode cX3_count 31 = .ok (.iadd, 1) := by decide +kernel
theorem dX3_count_32 : decode cX3_count 32 = .ok (.iload_n 1, 1) := by decide +kernel
theorem dX3_count_33 : decode cX3_count 33 = .ok (.iadd, 1) := by decide +kernel
theorem dX3_count_34 : decode cX3_count 34 = .ok (.istore 4, 2) := by decide +kernel
theorem dX3_count_36 : decode cX3_count 36 = .ok (.iload_n 3, 1) := by decide +kernel
theorem dX3_count_37 : decode cX3_count 37 = .ok (.ifCond .le 18, 3) := by decide +kernel
theorem dX3_count_40 : decode cX3_count 40 = .ok (.aload_n 0, 1) := by decide +kernel
theorem dX3_count_41 : decode cX3_count 41 = .ok (.getfield 21, 3) := by decide +kernel
theorem dX3_count_44 : decode cX3_count 44 = .ok (.iload 4, 2) := by decide +kernel
theorem dX3_count_46 : decode cX3_count 46 = .ok (.dup2, 1) := by decide +kernel
theorem dX3_count_47 : decode cX3_count 47 = .ok (.laload, 1) := by decide +kernel
theorem dX3_count_48 : decode cX3_count 48 = .ok (.iload_n 3, 1) := by decide +kernel
theorem dX3_count_49 : decode cX3_count 49 = .ok (.i2l, 1) := by decide +kernel
theorem dX3_count_50 : decode cX3_count 50 = .ok (.ladd, 1) := by decide +kernel
theorem dX3_count_51 : decode cX3_count 51 = .ok (.lastore, 1) := by decide +kernel
theorem dX3_count_52 : decode cX3_count 52 = .ok (.goto 18, 3) := by decide +kernel
theorem dX3_count_55 : decode cX3_count 55 = .ok (.aload_n 0, 1) := by decide +kernel
theorem dX3_count_56 : decode cX3_count 56 = .ok (.getfield 21, 3) := by decide +kernel
theorem dX3_count_59 : decode cX3_count 59 = .ok (.iload 4, 2) := by decide +kernel
theorem dX3_count_61 : decode cX3_count 61 = .ok (.bipush 24, 2) := by decide +kernel
theorem dX3_count_63 : decode cX3_count 63 = .ok (.iadd, 1) := by decide +kernel
theorem dX3_count_64 : decode cX3_count 64 = .ok (.dup2, 1) := by decide +kernel
theorem dX3_count_65 : decode cX3_count 65 = .ok (.laload, 1) := by decide +kernel
theorem dX3_count_66 : decode cX3_count 66 = .ok (.iload_n 3, 1) := by decide +kernel
theorem dX3_count_67 : decode cX3_count 67 = .ok (.i2l, 1) := by decide +kernel
theorem dX3_count_68 : decode cX3_count 68 = .ok (.lsub, 1) := by decide +kernel
theorem dX3_count_69 : decode cX3_count 69 = .ok (.lastore, 1) := by decide +kernel
theorem dX3_count_70 : decode cX3_count 70 = .ok (.aload_n 0, 1) := by decide +kernel
theorem dX3_count_71 : decode cX3_count 71 = .ok (.iload_n 1, 1) := by decide +kernel
theorem dX3_count_72 : decode cX3_count 72 = .ok (.iload_n 2, 1) := by decide +kernel
theorem dX3_count_73 : decode cX3_count 73 = .ok (.invokevirtual 69, 3) := by decide +kernel
theorem dX3_count_76 : decode cX3_count 76 = .ok (.ireturn, 1) := by decide +kernel
theorem dX3_sum_0 : decode cX3_sum 0 = .ok (.lconst 0, 1) := by decide +kernel
theorem dX3_sum_1 : decode cX3_sum 1 = .ok (.lstore_n 3, 1) := by decide +kernel
theorem dX3_sum_2 : decode cX3_sum 2 = .ok (.iconst 0, 1) := by decide +kernel
theorem dX3_sum_3 : decode cX3_sum 3 = .ok (.istore 5, 2) := by decide +kernel
theorem dX3_sum_5 : decode cX3_sum 5 = .ok (.iload 5, 2) := by decide +kernel
theorem dX3_sum_7 : decode cX3_sum 7 = .ok (.bipush 6, 2) := by decide +kernel
theorem dX3_sum_9 : decode cX3_sum 9 = .ok (.if_icmp .ge 44, 3) := by decide +kernel
theorem dX3_sum_12 : decode cX3_sum 12 = .ok (.bipush 48, 2) := by decide +kernel
theorem dX3_sum_14 : decode cX3_sum 14 = .ok (.iload_n 1, 1) := by decide +kernel
theorem dX3_sum_15 : decode cX3_sum 15 = .ok (.imul, 1) := by decide +kernel
theorem dX3_sum_16 : decode cX3_sum 16 = .ok (.bipush 6, 2) := by decide +kernel
theorem dX3_sum_18 : decode cX3_sum 18 = .ok (.iload_n 2, 1) := by decide +kernel
theorem dX3_sum_19 : decode cX3_sum 19 = .ok (.imul, 1) := by decide +kernel
theorem dX3_sum_20 : decode cX3_sum 20 = .ok (.iadd, 1) := by decide +kernel
theorem dX3_sum_21 : decode cX3_sum 21 = .ok (.iload 5, 2) := by decide +kernel
theorem dX3_sum_23 : decode cX3_sum 23 = .ok (.iadd, 1) := by decide +kernel
theorem dX3_sum_24 : decode cX3_sum 24 = .ok (.istore 6, 2) := by decide +kernel
theorem dX3_sum_26 : decode cX3_sum 26 = .ok (.lload_n 3, 1) := by decide +kernel
theorem dX3_sum_27 : decode cX3_sum 27 = .ok (.aload_n 0, 1) := by decide +kernel
theorem dX3_sum_28 : decode cX3_sum 28 = .ok (.getfield 21, 3) := by decide +kernel
theorem dX3_sum_31 : decode cX3_sum 31 = .ok (.iload 6, 2) := by decide +kernel
theorem dX3_sum_33 : decode cX3_sum 33 = .ok (.laload, 1) := by decide +kernel
theorem dX3_sum_34 : decode cX3_sum 34 = .ok (.aload_n 0, 1) := by decide +kernel
theorem dX3_sum_35 : decode cX3_sum 35 = .ok (.getfield 21, 3) := by decide +kernel
theorem dX3_sum_38 : decode cX3_sum 38 = .ok (.iload 6, 2) := by decide +kernel
theorem dX3_sum_40 : decode cX3_sum 40 = .ok (.bipush 24, 2) := by decide +kernel
theorem dX3_sum_42 : decode cX3_sum 42 = .ok (.iadd, 1) := by decide +kernel
theorem dX3_sum_43 : decode cX3_sum 43 = .ok (.laload, 1) := by decide +kernel
theorem dX3_sum_44 : decode cX3_sum 44 = .ok (.lsub, 1) := by decide +kernel
theorem dX3_sum_45 : decode cX3_sum 45 = .ok (.ladd, 1) := by decide +kernel
theorem dX3_sum_46 : decode cX3_sum 46 = .ok (.lstore_n 3, 1) := by decide +kernel
theorem dX3_sum_47 : decode cX3_sum 47 = .ok (.iinc 5 1, 3) := by decide +kernel
theorem dX3_sum_50 : decode cX3_sum 50 = .ok (.goto (-45), 3) := by decide +kernel
theorem dX3_sum_53 : decode cX3_sum 53 = .ok (.lload_n 3, 1) := by decide +kernel
theorem dX3_sum_54 : decode cX3_sum 54 = .ok (.l2i, 1) := by decide +kernel
theorem dX3_sum_55 : decode cX3_sum 55 = .ok (.ireturn, 1) := by decide +kernel
theorem dX3_copies_0 : decode cX3_copies 0 = .ok (.iconst 0, 1) := by decide +kernel
theorem dX3_copies_1 : decode cX3_copies 1 = .ok (.istore_n 3, 1) := by decide +kernel
theorem dX3_copies_2 : decode cX3_copies 2 = .ok (.iload_n 3, 1) := by decide +kernel
theorem dX3_copies_3 : decode cX3_copies 3 = .ok (.sipush 414, 3) := by decide +kernel
theorem dX3_copies_6 : decode cX3_copies 6 = .ok (.if_icmp .ge 33, 3) := by decide +kernel
theorem dX3_copies_9 : decode cX3_copies 9 = .ok (.aload_n 0, 1) := by decide +kernel
theorem dX3_copies_10 : decode cX3_copies 10 = .ok (.getfield 14, 3) := by decide +kernel
theorem dX3_copies_13 : decode cX3_copies 13 = .ok (.sipush 414, 3) := by decide +kernel
theorem dX3_copies_16 : decode cX3_copies 16 = .ok (.iload_n 2, 1) := by decide +kernel
theorem dX3_copies_17 : decode cX3_copies 17 = .ok (.imul, 1) := by decide +kernel
theorem dX3_copies_18 : decode cX3_copies 18 = .ok (.iload_n 3, 1) := by decide +kernel
theorem dX3_copies_19 : decode cX3_copies 19 = .ok (.iadd, 1) := by decide +kernel
theorem dX3_copies_20 : decode cX3_copies 20 = .ok (.aload_n 0, 1) := by decide +kernel
theorem dX3_copies_21 : decode cX3_copies 21 = .ok (.getfield 14, 3) := by decide +kernel
theorem dX3_copies_24 : decode cX3_copies 24 = .ok (.sipush 414, 3) := by decide +kernel
theorem dX3_copies_27 : decode cX3_copies 27 = .ok (.iload_n 1, 1) := by decide +kernel
theorem dX3_copies_28 : decode cX3_copies 28 = .ok (.imul, 1) := by decide +kernel
theorem dX3_copies_29 : decode cX3_copies 29 = .ok (.iload_n 3, 1) := by decide +kernel
theorem dX3_copies_30 : decode cX3_copies 30 = .ok (.iadd, 1) := by decide +kernel
theorem dX3_copies_31 : decode cX3_copies 31 = .ok (.iaload, 1) := by decide +kernel
theorem dX3_copies_32 : decode cX3_copies 32 = .ok (.iastore, 1) := by decide +kernel
theorem dX3_copies_33 : decode cX3_copies 33 = .ok (.iinc 3 1, 3) := by decide +kernel
theorem dX3_copies_36 : decode cX3_copies 36 = .ok (.goto (-34), 3) := by decide +kernel
theorem dX3_copies_39 : decode cX3_copies 39 = .ok (.iconst 0, 1) := by decide +kernel
theorem dX3_copies_40 : decode cX3_copies 40 = .ok (.istore_n 3, 1) := by decide +kernel
theorem dX3_copies_41 : decode cX3_copies 41 = .ok (.iload_n 3, 1) := by decide +kernel
theorem dX3_copies_42 : decode cX3_copies 42 = .ok (.bipush 24, 2) := by decide +kernel
theorem dX3_copies_44 : decode cX3_copies 44 = .ok (.if_icmp .ge 31, 3) := by decide +kernel
theorem dX3_copies_47 : decode cX3_copies 47 = .ok (.aload_n 0, 1) := by decide +kernel
theorem dX3_copies_48 : decode cX3_copies 48 = .ok (.getfield 18, 3) := by decide +kernel
theorem dX3_copies_51 : decode cX3_copies 51 = .ok (.bipush 24, 2) := by decide +kernel
theorem dX3_copies_53 : decode cX3_copies 53 = .ok (.iload_n 2, 1) := by decide +kernel
theorem dX3_copies_54 : decode cX3_copies 54 = .ok (.imul, 1) := by decide +kernel
theorem dX3_copies_55 : decode cX3_copies 55 = .ok (.iload_n 3, 1) := by decide +kernel
theorem dX3_copies_56 : decode cX3_copies 56 = .ok (.iadd, 1) := by decide +kernel
theorem dX3_copies_57 : decode cX3_copies 57 = .ok (.aload_n 0, 1) := by decide +kernel
theorem dX3_copies_58 : decode cX3_copies 58 = .ok (.getfield 18, 3) := by decide +kernel
theorem dX3_copies_61 : decode cX3_copies 61 = .ok (.bipush 24, 2) := by decide +kernel
theorem dX3_copies_63 : decode cX3_copies 63 = .ok (.iload_n 1, 1) := by decide +kernel
theorem dX3_copies_64 : decode cX3_copies 64 = .ok (.imul, 1) := by decide +kernel
theorem dX3_copies_65 : decode cX3_copies 65 = .ok (.iload_n 3, 1) := by decide +kernel
theorem dX3_copies_66 : decode cX3_copies 66 = .ok (.iadd, 1) := by decide +kernel
theorem dX3_copies_67 : decode cX3_copies 67 = .ok (.iaload, 1) := by decide +kernel
theorem dX3_copies_68 : decode cX3_copies 68 = .ok (.iastore, 1) := by decide +kernel
theorem dX3_copies_69 : decode cX3_copies 69 = .ok (.iinc 3 1, 3) := by decide +kernel
theorem dX3_copies_72 : decode cX3_copies 72 = .ok (.goto (-31), 3) := by decide +kernel
theorem dX3_copies_75 : decode cX3_copies 75 = .ok (.iconst 0, 1) := by decide +kernel
theorem dX3_copies_76 : decode cX3_copies 76 = .ok (.istore_n 3, 1) := by decide +kernel
theorem dX3_copies_77 : decode cX3_copies 77 = .ok (.iload_n 3, 1) := by decide +kernel
theorem dX3_copies_78 : decode cX3_copies 78 = .ok (.bipush 48, 2) := by decide +kernel
theorem dX3_copies_80 : decode cX3_copies 80 = .ok (.if_icmp .ge 31, 3) := by decide +kernel
theorem dX3_copies_83 : decode cX3_copies 83 = .ok (.aload_n 0, 1) := by decide +kernel
theorem dX3_copies_84 : decode cX3_copies 84 = .ok (.getfield 21, 3) := by decide +kernel
theorem dX3_copies_87 : decode cX3_copies 87 = .ok (.bipush 48, 2) := by decide +kernel
theorem dX3_copies_89 : decode cX3_copies 89 = .ok (.iload_n 2, 1) := by decide +kernel
theorem dX3_copies_90 : decode cX3_copies 90 = .ok (.imul, 1) := by decide +kernel
theorem dX3_copies_91 : decode cX3_copies 91 = .ok (.iload_n 3, 1) := by decide +kernel
theorem dX3_copies_92 : decode cX3_copies 92 = .ok (.iadd, 1) := by decide +kernel
theorem dX3_copies_93 : decode cX3_copies 93 = .ok (.aload_n 0, 1) := by decide +kernel
theorem dX3_copies_94 : decode cX3_copies 94 = .ok (.getfield 21, 3) := by decide +kernel
theorem dX3_copies_97 : decode cX3_copies 97 = .ok (.bipush 48, 2) := by decide +kernel
theorem dX3_copies_99 : decode cX3_copies 99 = .ok (.iload_n 1, 1) := by decide +kernel
theorem dX3_copies_100 : decode cX3_copies 100 = .ok (.imul, 1) := by decide +kernel
theorem dX3_copies_101 : decode cX3_copies 101 = .ok (.iload_n 3, 1) := by decide +kernel
theorem dX3_copies_102 : decode cX3_copies 102 = .ok (.iadd, 1) := by decide +kernel
theorem dX3_copies_103 : decode cX3_copies 103 = .ok (.laload, 1) := by decide +kernel
theorem dX3_copies_104 : decode cX3_copies 104 = .ok (.lastore, 1) := by decide +kernel
theorem dX3_copies_105 : decode cX3_copies 105 = .ok (.iinc 3 1, 3) := by decide +kernel
theorem dX3_copies_108 : decode cX3_copies 108 = .ok (.goto (-31), 3) := by decide +kernel
theorem dX3_copies_111 : decode cX3_copies 111 = .ok (.return_, 1) := by decide +kernel
set_option maxRecDepth 20000 in
theorem ggX3_gossip_X3_isReplica : GoodIn wsX3_gossip wsX3_isReplica := goodIn_r _ [8, 9, 22, 23, 24, 25, 26, 27, 28, 29] (by decide +kernel) (by decide +kernel)
set_option maxRecDepth 20000 in
theorem gX3_gossip_X3_isReplica : GoodIn wsX3_gossip (wsV RX3 34 RX3 yX3_isReplica wsX3_isReplica) := goodIn_app (goodIn_of _ (by decide +kernel)) ggX3_gossip_X3_isReplica
set_option maxRecDepth 20000 in
theorem ggX3_gossip_X3_refuses : GoodIn wsX3_gossip wsX3_refuses := goodIn_r _ [13, 14, 22, 23, 24, 25, 26, 27, 28, 29] (by decide +kernel) (by decide +kernel)
set_option maxRecDepth 20000 in
theorem gX3_gossip_X3_refuses : GoodIn wsX3_gossip (wsV RX3 38 RX3 yX3_refuses wsX3_refuses) := goodIn_app (goodIn_of _ (by decide +kernel)) ggX3_gossip_X3_refuses
set_option maxRecDepth 20000 in
theorem ggX3_gossip_X3_copies : GoodIn wsX3_gossip wsX3_copies := goodIn_r _ [18, 19, 20, 21, 22, 23, 24, 25, 26, 27, 28, 29] (by decide +kernel) (by decide +kernel)
set_option maxRecDepth 20000 in
theorem gX3_gossip_X3_copies : GoodIn wsX3_gossip (wsV RX3 72 RX3 yX3_copies wsX3_copies) := goodIn_app (goodIn_of _ (by decide +kernel)) ggX3_gossip_X3_copies
theorem dX3_gossip_0 : decode cX3_gossip 0 = .ok (.aload_n 0, 1) := by decide +kernel
theorem dX3_gossip_1 : decode cX3_gossip 1 = .ok (.aload_n 0, 1) := by decide +kernel
theorem dX3_gossip_2 : decode cX3_gossip 2 = .ok (.iload_n 1, 1) := by decide +kernel
theorem dX3_gossip_3 : decode cX3_gossip 3 = .ok (.invokevirtual 34, 3) := by decide +kernel
theorem dX3_gossip_6 : decode cX3_gossip 6 = .ok (.ifCond .eq 16, 3) := by decide +kernel
theorem dX3_gossip_9 : decode cX3_gossip 9 = .ok (.aload_n 0, 1) := by decide +kernel
theorem dX3_gossip_10 : decode cX3_gossip 10 = .ok (.iload_n 2, 1) := by decide +kernel
theorem dX3_gossip_11 : decode cX3_gossip 11 = .ok (.invokevirtual 34, 3) := by decide +kernel
theorem dX3_gossip_14 : decode cX3_gossip 14 = .ok (.ifCond .eq 8, 3) := by decide +kernel
theorem dX3_gossip_17 : decode cX3_gossip 17 = .ok (.iload_n 1, 1) := by decide +kernel
theorem dX3_gossip_18 : decode cX3_gossip 18 = .ok (.iload_n 2, 1) := by decide +kernel
theorem dX3_gossip_19 : decode cX3_gossip 19 = .ok (.if_icmp .ne 7, 3) := by decide +kernel
theorem dX3_gossip_22 : decode cX3_gossip 22 = .ok (.iconst 1, 1) := by decide +kernel
theorem dX3_gossip_23 : decode cX3_gossip 23 = .ok (.goto 17, 3) := by decide +kernel
theorem dX3_gossip_26 : decode cX3_gossip 26 = .ok (.aload_n 0, 1) := by decide +kernel
theorem dX3_gossip_27 : decode cX3_gossip 27 = .ok (.getfield 41, 3) := by decide +kernel
theorem dX3_gossip_30 : decode cX3_gossip 30 = .ok (.bipush 100, 2) := by decide +kernel
theorem dX3_gossip_32 : decode cX3_gossip 32 = .ok (.if_icmp .ne 7, 3) := by decide +kernel
theorem dX3_gossip_35 : decode cX3_gossip 35 = .ok (.iconst 2, 1) := by decide +kernel
theorem dX3_gossip_36 : decode cX3_gossip 36 = .ok (.goto 4, 3) := by decide +kernel
theorem dX3_gossip_39 : decode cX3_gossip 39 = .ok (.iconst 0, 1) := by decide +kernel
theorem dX3_gossip_40 : decode cX3_gossip 40 = .ok (.invokevirtual 38, 3) := by decide +kernel
theorem dX3_gossip_43 : decode cX3_gossip 43 = .ok (.ifCond .eq 5, 3) := by decide +kernel
theorem dX3_gossip_46 : decode cX3_gossip 46 = .ok (.iconst 0, 1) := by decide +kernel
theorem dX3_gossip_47 : decode cX3_gossip 47 = .ok (.ireturn, 1) := by decide +kernel
theorem dX3_gossip_48 : decode cX3_gossip 48 = .ok (.aload_n 0, 1) := by decide +kernel
theorem dX3_gossip_49 : decode cX3_gossip 49 = .ok (.iload_n 1, 1) := by decide +kernel
theorem dX3_gossip_50 : decode cX3_gossip 50 = .ok (.bipush 6, 2) := by decide +kernel
theorem dX3_gossip_52 : decode cX3_gossip 52 = .ok (.aload_n 0, 1) := by decide +kernel
theorem dX3_gossip_53 : decode cX3_gossip 53 = .ok (.getfield 41, 3) := by decide +kernel
theorem dX3_gossip_56 : decode cX3_gossip 56 = .ok (.iadd, 1) := by decide +kernel
theorem dX3_gossip_57 : decode cX3_gossip 57 = .ok (.invokevirtual 72, 3) := by decide +kernel
theorem dX3_gossip_60 : decode cX3_gossip 60 = .ok (.aload_n 0, 1) := by decide +kernel
theorem dX3_gossip_61 : decode cX3_gossip 61 = .ok (.getfield 25, 3) := by decide +kernel
theorem dX3_gossip_64 : decode cX3_gossip 64 = .ok (.aload_n 0, 1) := by decide +kernel
theorem dX3_gossip_65 : decode cX3_gossip 65 = .ok (.getfield 41, 3) := by decide +kernel
theorem dX3_gossip_68 : decode cX3_gossip 68 = .ok (.iload_n 1, 1) := by decide +kernel
theorem dX3_gossip_69 : decode cX3_gossip 69 = .ok (.iastore, 1) := by decide +kernel
theorem dX3_gossip_70 : decode cX3_gossip 70 = .ok (.aload_n 0, 1) := by decide +kernel
theorem dX3_gossip_71 : decode cX3_gossip 71 = .ok (.getfield 28, 3) := by decide +kernel
theorem dX3_gossip_74 : decode cX3_gossip 74 = .ok (.aload_n 0, 1) := by decide +kernel
theorem dX3_gossip_75 : decode cX3_gossip 75 = .ok (.getfield 41, 3) := by decide +kernel
theorem dX3_gossip_78 : decode cX3_gossip 78 = .ok (.iload_n 2, 1) := by decide +kernel
theorem dX3_gossip_79 : decode cX3_gossip 79 = .ok (.iastore, 1) := by decide +kernel
theorem dX3_gossip_80 : decode cX3_gossip 80 = .ok (.aload_n 0, 1) := by decide +kernel
theorem dX3_gossip_81 : decode cX3_gossip 81 = .ok (.dup, 1) := by decide +kernel
theorem dX3_gossip_82 : decode cX3_gossip 82 = .ok (.getfield 41, 3) := by decide +kernel
theorem dX3_gossip_85 : decode cX3_gossip 85 = .ok (.iconst 1, 1) := by decide +kernel
theorem dX3_gossip_86 : decode cX3_gossip 86 = .ok (.iadd, 1) := by decide +kernel
theorem dX3_gossip_87 : decode cX3_gossip 87 = .ok (.putfield 41, 3) := by decide +kernel
theorem dX3_gossip_90 : decode cX3_gossip 90 = .ok (.aload_n 0, 1) := by decide +kernel
theorem dX3_gossip_91 : decode cX3_gossip 91 = .ok (.getfield 41, 3) := by decide +kernel
theorem dX3_gossip_94 : decode cX3_gossip 94 = .ok (.ireturn, 1) := by decide +kernel
theorem dX3_isMessage_0 : decode cX3_isMessage 0 = .ok (.iload_n 1, 1) := by decide +kernel
theorem dX3_isMessage_1 : decode cX3_isMessage 1 = .ok (.ifCond .lt 15, 3) := by decide +kernel
theorem dX3_isMessage_4 : decode cX3_isMessage 4 = .ok (.iload_n 1, 1) := by decide +kernel
theorem dX3_isMessage_5 : decode cX3_isMessage 5 = .ok (.aload_n 0, 1) := by decide +kernel
theorem dX3_isMessage_6 : decode cX3_isMessage 6 = .ok (.getfield 41, 3) := by decide +kernel
theorem dX3_isMessage_9 : decode cX3_isMessage 9 = .ok (.if_icmp .ge 7, 3) := by decide +kernel
theorem dX3_isMessage_12 : decode cX3_isMessage 12 = .ok (.iconst 1, 1) := by decide +kernel
theorem dX3_isMessage_13 : decode cX3_isMessage 13 = .ok (.goto 4, 3) := by decide +kernel
theorem dX3_isMessage_16 : decode cX3_isMessage 16 = .ok (.iconst 0, 1) := by decide +kernel
theorem dX3_isMessage_17 : decode cX3_isMessage 17 = .ok (.ireturn, 1) := by decide +kernel
set_option maxRecDepth 20000 in
theorem ggX3_gone_X3_copies : GoodIn wsX3_gone wsX3_copies := goodIn_r _ [8, 9, 10, 11, 12, 13, 14, 15, 16, 17, 18, 19] (by decide +kernel) (by decide +kernel)
set_option maxRecDepth 20000 in
theorem gX3_gone_X3_copies : GoodIn wsX3_gone (wsV RX3 72 RX3 yX3_copies wsX3_copies) := goodIn_app (goodIn_of _ (by decide +kernel)) ggX3_gone_X3_copies
theorem dX3_gone_0 : decode cX3_gone 0 = .ok (.iload_n 1, 1) := by decide +kernel
theorem dX3_gone_1 : decode cX3_gone 1 = .ok (.istore_n 2, 1) := by decide +kernel
theorem dX3_gone_2 : decode cX3_gone 2 = .ok (.iload_n 2, 1) := by decide +kernel
theorem dX3_gone_3 : decode cX3_gone 3 = .ok (.iconst 1, 1) := by decide +kernel
theorem dX3_gone_4 : decode cX3_gone 4 = .ok (.iadd, 1) := by decide +kernel
theorem dX3_gone_5 : decode cX3_gone 5 = .ok (.aload_n 0, 1) := by decide +kernel
theorem dX3_gone_6 : decode cX3_gone 6 = .ok (.getfield 41, 3) := by decide +kernel
theorem dX3_gone_9 : decode cX3_gone 9 = .ok (.if_icmp .ge 51, 3) := by decide +kernel
theorem dX3_gone_12 : decode cX3_gone 12 = .ok (.aload_n 0, 1) := by decide +kernel
theorem dX3_gone_13 : decode cX3_gone 13 = .ok (.bipush 6, 2) := by decide +kernel
theorem dX3_gone_15 : decode cX3_gone 15 = .ok (.iload_n 2, 1) := by decide +kernel
theorem dX3_gone_16 : decode cX3_gone 16 = .ok (.iadd, 1) := by decide +kernel
theorem dX3_gone_17 : decode cX3_gone 17 = .ok (.iconst 1, 1) := by decide +kernel
theorem dX3_gone_18 : decode cX3_gone 18 = .ok (.iadd, 1) := by decide +kernel
theorem dX3_gone_19 : decode cX3_gone 19 = .ok (.bipush 6, 2) := by decide +kernel
theorem dX3_gone_21 : decode cX3_gone 21 = .ok (.iload_n 2, 1) := by decide +kernel
theorem dX3_gone_22 : decode cX3_gone 22 = .ok (.iadd, 1) := by decide +kernel
theorem dX3_gone_23 : decode cX3_gone 23 = .ok (.invokevirtual 72, 3) := by decide +kernel
theorem dX3_gone_26 : decode cX3_gone 26 = .ok (.aload_n 0, 1) := by decide +kernel
theorem dX3_gone_27 : decode cX3_gone 27 = .ok (.getfield 25, 3) := by decide +kernel
theorem dX3_gone_30 : decode cX3_gone 30 = .ok (.iload_n 2, 1) := by decide +kernel
theorem dX3_gone_31 : decode cX3_gone 31 = .ok (.aload_n 0, 1) := by decide +kernel
theorem dX3_gone_32 : decode cX3_gone 32 = .ok (.getfield 25, 3) := by decide +kernel
theorem dX3_gone_35 : decode cX3_gone 35 = .ok (.iload_n 2, 1) := by decide +kernel
theorem dX3_gone_36 : decode cX3_gone 36 = .ok (.iconst 1, 1) := by decide +kernel
theorem dX3_gone_37 : decode cX3_gone 37 = .ok (.iadd, 1) := by decide +kernel
theorem dX3_gone_38 : decode cX3_gone 38 = .ok (.iaload, 1) := by decide +kernel
theorem dX3_gone_39 : decode cX3_gone 39 = .ok (.iastore, 1) := by decide +kernel
theorem dX3_gone_40 : decode cX3_gone 40 = .ok (.aload_n 0, 1) := by decide +kernel
theorem dX3_gone_41 : decode cX3_gone 41 = .ok (.getfield 28, 3) := by decide +kernel
theorem dX3_gone_44 : decode cX3_gone 44 = .ok (.iload_n 2, 1) := by decide +kernel
theorem dX3_gone_45 : decode cX3_gone 45 = .ok (.aload_n 0, 1) := by decide +kernel
theorem dX3_gone_46 : decode cX3_gone 46 = .ok (.getfield 28, 3) := by decide +kernel
theorem dX3_gone_49 : decode cX3_gone 49 = .ok (.iload_n 2, 1) := by decide +kernel
theorem dX3_gone_50 : decode cX3_gone 50 = .ok (.iconst 1, 1) := by decide +kernel
theorem dX3_gone_51 : decode cX3_gone 51 = .ok (.iadd, 1) := by decide +kernel
theorem dX3_gone_52 : decode cX3_gone 52 = .ok (.iaload, 1) := by decide +kernel
theorem dX3_gone_53 : decode cX3_gone 53 = .ok (.iastore, 1) := by decide +kernel
theorem dX3_gone_54 : decode cX3_gone 54 = .ok (.iinc 2 1, 3) := by decide +kernel
theorem dX3_gone_57 : decode cX3_gone 57 = .ok (.goto (-55), 3) := by decide +kernel
theorem dX3_gone_60 : decode cX3_gone 60 = .ok (.aload_n 0, 1) := by decide +kernel
theorem dX3_gone_61 : decode cX3_gone 61 = .ok (.dup, 1) := by decide +kernel
theorem dX3_gone_62 : decode cX3_gone 62 = .ok (.getfield 41, 3) := by decide +kernel
theorem dX3_gone_65 : decode cX3_gone 65 = .ok (.iconst 1, 1) := by decide +kernel
theorem dX3_gone_66 : decode cX3_gone 66 = .ok (.isub, 1) := by decide +kernel
theorem dX3_gone_67 : decode cX3_gone 67 = .ok (.putfield 41, 3) := by decide +kernel
theorem dX3_gone_70 : decode cX3_gone 70 = .ok (.return_, 1) := by decide +kernel
set_option maxRecDepth 20000 in
theorem ggX3_merges_X3_dots : GoodIn wsX3_merges wsX3_dots := goodIn_r _ [7] (by decide +kernel) (by decide +kernel)
set_option maxRecDepth 20000 in
theorem gX3_merges_X3_dots : GoodIn wsX3_merges (va_wsS RX3 44 yX3_dots wsX3_dots) := goodIn_app (goodIn_of _ (by decide +kernel)) ggX3_merges_X3_dots
set_option maxRecDepth 20000 in
theorem ggX3_merges_X3_vectorAt : GoodIn wsX3_merges wsX3_vectorAt := goodIn_r _ [10] (by decide +kernel) (by decide +kernel)
set_option maxRecDepth 20000 in
theorem gX3_merges_X3_vectorAt : GoodIn wsX3_merges (va_wsS RX3 48 yX3_vectorAt wsX3_vectorAt) := goodIn_app (goodIn_of _ (by decide +kernel)) ggX3_merges_X3_vectorAt
theorem dX3_merges_0 : decode cX3_merges 0 = .ok (.iconst 0, 1) := by decide +kernel
theorem dX3_merges_1 : decode cX3_merges 1 = .ok (.istore_n 3, 1) := by decide +kernel
theorem dX3_merges_2 : decode cX3_merges 2 = .ok (.iconst 0, 1) := by decide +kernel
theorem dX3_merges_3 : decode cX3_merges 3 = .ok (.istore 4, 2) := by decide +kernel
theorem dX3_merges_5 : decode cX3_merges 5 = .ok (.iload 4, 2) := by decide +kernel
theorem dX3_merges_7 : decode cX3_merges 7 = .ok (.bipush 68, 2) := by decide +kernel
theorem dX3_merges_9 : decode cX3_merges 9 = .ok (.if_icmp .ge 179, 3) := by decide +kernel
theorem dX3_merges_12 : decode cX3_merges 12 = .ok (.iconst 0, 1) := by decide +kernel
theorem dX3_merges_13 : decode cX3_merges 13 = .ok (.istore 5, 2) := by decide +kernel
theorem dX3_merges_15 : decode cX3_merges 15 = .ok (.iload 5, 2) := by decide +kernel
theorem dX3_merges_17 : decode cX3_merges 17 = .ok (.bipush 6, 2) := by decide +kernel
theorem dX3_merges_19 : decode cX3_merges 19 = .ok (.if_icmp .ge 163, 3) := by decide +kernel
theorem dX3_merges_22 : decode cX3_merges 22 = .ok (.aload_n 0, 1) := by decide +kernel
theorem dX3_merges_23 : decode cX3_merges 23 = .ok (.getfield 14, 3) := by decide +kernel
theorem dX3_merges_26 : decode cX3_merges 26 = .ok (.iload_n 1, 1) := by decide +kernel
theorem dX3_merges_27 : decode cX3_merges 27 = .ok (.iload 4, 2) := by decide +kernel
theorem dX3_merges_29 : decode cX3_merges 29 = .ok (.invokestatic 44, 3) := by decide +kernel
theorem dX3_merges_32 : decode cX3_merges 32 = .ok (.iload 5, 2) := by decide +kernel
theorem dX3_merges_34 : decode cX3_merges 34 = .ok (.iadd, 1) := by decide +kernel
theorem dX3_merges_35 : decode cX3_merges 35 = .ok (.iaload, 1) := by decide +kernel
theorem dX3_merges_36 : decode cX3_merges 36 = .ok (.istore 6, 2) := by decide +kernel
theorem dX3_merges_38 : decode cX3_merges 38 = .ok (.aload_n 0, 1) := by decide +kernel
theorem dX3_merges_39 : decode cX3_merges 39 = .ok (.getfield 14, 3) := by decide +kernel
theorem dX3_merges_42 : decode cX3_merges 42 = .ok (.iload_n 2, 1) := by decide +kernel
theorem dX3_merges_43 : decode cX3_merges 43 = .ok (.iload 4, 2) := by decide +kernel
theorem dX3_merges_45 : decode cX3_merges 45 = .ok (.invokestatic 44, 3) := by decide +kernel
theorem dX3_merges_48 : decode cX3_merges 48 = .ok (.iload 5, 2) := by decide +kernel
theorem dX3_merges_50 : decode cX3_merges 50 = .ok (.iadd, 1) := by decide +kernel
theorem dX3_merges_51 : decode cX3_merges 51 = .ok (.iaload, 1) := by decide +kernel
theorem dX3_merges_52 : decode cX3_merges 52 = .ok (.istore 7, 2) := by decide +kernel
theorem dX3_merges_54 : decode cX3_merges 54 = .ok (.iload 6, 2) := by decide +kernel
theorem dX3_merges_56 : decode cX3_merges 56 = .ok (.iload 7, 2) := by decide +kernel
theorem dX3_merges_58 : decode cX3_merges 58 = .ok (.if_icmp .ne 6, 3) := by decide +kernel
theorem dX3_merges_61 : decode cX3_merges 61 = .ok (.goto 115, 3) := by decide +kernel
theorem dX3_merges_64 : decode cX3_merges 64 = .ok (.iload 6, 2) := by decide +kernel
theorem dX3_merges_66 : decode cX3_merges 66 = .ok (.aload_n 0, 1) := by decide +kernel
theorem dX3_merges_67 : decode cX3_merges 67 = .ok (.getfield 14, 3) := by decide +kernel
theorem dX3_merges_70 : decode cX3_merges 70 = .ok (.iload_n 2, 1) := by decide +kernel
theorem dX3_merges_71 : decode cX3_merges 71 = .ok (.iload 5, 2) := by decide +kernel
theorem dX3_merges_73 : decode cX3_merges 73 = .ok (.invokestatic 48, 3) := by decide +kernel
theorem dX3_merges_76 : decode cX3_merges 76 = .ok (.iaload, 1) := by decide +kernel
theorem dX3_merges_77 : decode cX3_merges 77 = .ok (.if_icmp .le 8, 3) := by decide +kernel
theorem dX3_merges_80 : decode cX3_merges 80 = .ok (.iload 6, 2) := by decide +kernel
theorem dX3_merges_82 : decode cX3_merges 82 = .ok (.goto 4, 3) := by decide +kernel
theorem dX3_merges_85 : decode cX3_merges 85 = .ok (.iconst 0, 1) := by decide +kernel
theorem dX3_merges_86 : decode cX3_merges 86 = .ok (.istore 8, 2) := by decide +kernel
theorem dX3_merges_88 : decode cX3_merges 88 = .ok (.iload 7, 2) := by decide +kernel
theorem dX3_merges_90 : decode cX3_merges 90 = .ok (.aload_n 0, 1) := by decide +kernel
theorem dX3_merges_91 : decode cX3_merges 91 = .ok (.getfield 14, 3) := by decide +kernel
theorem dX3_merges_94 : decode cX3_merges 94 = .ok (.iload_n 1, 1) := by decide +kernel
theorem dX3_merges_95 : decode cX3_merges 95 = .ok (.iload 5, 2) := by decide +kernel
theorem dX3_merges_97 : decode cX3_merges 97 = .ok (.invokestatic 48, 3) := by decide +kernel
theorem dX3_merges_100 : decode cX3_merges 100 = .ok (.iaload, 1) := by decide +kernel
theorem dX3_merges_101 : decode cX3_merges 101 = .ok (.if_icmp .le 59, 3) := by decide +kernel
theorem dX3_merges_104 : decode cX3_merges 104 = .ok (.iinc 3 1, 3) := by decide +kernel
theorem dX3_merges_107 : decode cX3_merges 107 = .ok (.iload 7, 2) := by decide +kernel
theorem dX3_merges_109 : decode cX3_merges 109 = .ok (.istore 8, 2) := by decide +kernel
theorem dX3_merges_111 : decode cX3_merges 111 = .ok (.iload 4, 2) := by decide +kernel
theorem dX3_merges_113 : decode cX3_merges 113 = .ok (.bipush 63, 2) := by decide +kernel
theorem dX3_merges_115 : decode cX3_merges 115 = .ok (.if_icmp .le 45, 3) := by decide +kernel
theorem dX3_merges_118 : decode cX3_merges 118 = .ok (.aload_n 0, 1) := by decide +kernel
theorem dX3_merges_119 : decode cX3_merges 119 = .ok (.getfield 18, 3) := by decide +kernel
theorem dX3_merges_122 : decode cX3_merges 122 = .ok (.bipush 24, 2) := by decide +kernel
theorem dX3_merges_124 : decode cX3_merges 124 = .ok (.iload_n 1, 1) := by decide +kernel
theorem dX3_merges_125 : decode cX3_merges 125 = .ok (.imul, 1) := by decide +kernel
theorem dX3_merges_126 : decode cX3_merges 126 = .ok (.bipush 6, 2) := by decide +kernel
theorem dX3_merges_128 : decode cX3_merges 128 = .ok (.iload 4, 2) := by decide +kernel
theorem dX3_merges_130 : decode cX3_merges 130 = .ok (.bipush 64, 2) := by decide +kernel
theorem dX3_merges_132 : decode cX3_merges 132 = .ok (.isub, 1) := by decide +kernel
theorem dX3_merges_133 : decode cX3_merges 133 = .ok (.imul, 1) := by decide +kernel
theorem dX3_merges_134 : decode cX3_merges 134 = .ok (.iadd, 1) := by decide +kernel
theorem dX3_merges_135 : decode cX3_merges 135 = .ok (.iload 5, 2) := by decide +kernel
theorem dX3_merges_137 : decode cX3_merges 137 = .ok (.iadd, 1) := by decide +kernel
theorem dX3_merges_138 : decode cX3_merges 138 = .ok (.aload_n 0, 1) := by decide +kernel
theorem dX3_merges_139 : decode cX3_merges 139 = .ok (.getfield 18, 3) := by decide +kernel
theorem dX3_merges_142 : decode cX3_merges 142 = .ok (.bipush 24, 2) := by decide +kernel
theorem dX3_merges_144 : decode cX3_merges 144 = .ok (.iload_n 2, 1) := by decide +kernel
theorem dX3_merges_145 : decode cX3_merges 145 = .ok (.imul, 1) := by decide +kernel
theorem dX3_merges_146 : decode cX3_merges 146 = .ok (.bipush 6, 2) := by decide +kernel
theorem dX3_merges_148 : decode cX3_merges 148 = .ok (.iload 4, 2) := by decide +kernel
theorem dX3_merges_150 : decode cX3_merges 150 = .ok (.bipush 64, 2) := by decide +kernel
theorem dX3_merges_152 : decode cX3_merges 152 = .ok (.isub, 1) := by decide +kernel
theorem dX3_merges_153 : decode cX3_merges 153 = .ok (.imul, 1) := by decide +kernel
theorem dX3_merges_154 : decode cX3_merges 154 = .ok (.iadd, 1) := by decide +kernel
theorem dX3_merges_155 : decode cX3_merges 155 = .ok (.iload 5, 2) := by decide +kernel
theorem dX3_merges_157 : decode cX3_merges 157 = .ok (.iadd, 1) := by decide +kernel
theorem dX3_merges_158 : decode cX3_merges 158 = .ok (.iaload, 1) := by decide +kernel
theorem dX3_merges_159 : decode cX3_merges 159 = .ok (.iastore, 1) := by decide +kernel
theorem dX3_merges_160 : decode cX3_merges 160 = .ok (.aload_n 0, 1) := by decide +kernel
theorem dX3_merges_161 : decode cX3_merges 161 = .ok (.getfield 14, 3) := by decide +kernel
theorem dX3_merges_164 : decode cX3_merges 164 = .ok (.iload_n 1, 1) := by decide +kernel
theorem dX3_merges_165 : decode cX3_merges 165 = .ok (.iload 4, 2) := by decide +kernel
theorem dX3_merges_167 : decode cX3_merges 167 = .ok (.invokestatic 44, 3) := by decide +kernel
theorem dX3_merges_170 : decode cX3_merges 170 = .ok (.iload 5, 2) := by decide +kernel
theorem dX3_merges_172 : decode cX3_merges 172 = .ok (.iadd, 1) := by decide +kernel
theorem dX3_merges_173 : decode cX3_merges 173 = .ok (.iload 8, 2) := by decide +kernel
theorem dX3_merges_175 : decode cX3_merges 175 = .ok (.iastore, 1) := by decide +kernel
theorem dX3_merges_176 : decode cX3_merges 176 = .ok (.iinc 5 1, 3) := by decide +kernel
theorem dX3_merges_179 : decode cX3_merges 179 = .ok (.goto (-164), 3) := by decide +kernel
theorem dX3_merges_182 : decode cX3_merges 182 = .ok (.iinc 4 1, 3) := by decide +kernel
theorem dX3_merges_185 : decode cX3_merges 185 = .ok (.goto (-180), 3) := by decide +kernel
theorem dX3_merges_188 : decode cX3_merges 188 = .ok (.iconst 0, 1) := by decide +kernel
theorem dX3_merges_189 : decode cX3_merges 189 = .ok (.istore 4, 2) := by decide +kernel
theorem dX3_merges_191 : decode cX3_merges 191 = .ok (.iload 4, 2) := by decide +kernel
theorem dX3_merges_193 : decode cX3_merges 193 = .ok (.bipush 6, 2) := by decide +kernel
theorem dX3_merges_195 : decode cX3_merges 195 = .ok (.if_icmp .ge 65, 3) := by decide +kernel
theorem dX3_merges_198 : decode cX3_merges 198 = .ok (.aload_n 0, 1) := by decide +kernel
theorem dX3_merges_199 : decode cX3_merges 199 = .ok (.getfield 14, 3) := by decide +kernel
theorem dX3_merges_202 : decode cX3_merges 202 = .ok (.iload_n 2, 1) := by decide +kernel
theorem dX3_merges_203 : decode cX3_merges 203 = .ok (.iload 4, 2) := by decide +kernel
theorem dX3_merges_205 : decode cX3_merges 205 = .ok (.invokestatic 48, 3) := by decide +kernel
theorem dX3_merges_208 : decode cX3_merges 208 = .ok (.iaload, 1) := by decide +kernel
theorem dX3_merges_209 : decode cX3_merges 209 = .ok (.istore 5, 2) := by decide +kernel
end
section
theorem dX3_merges_211 : decode cX3_merges 211 = .ok (.aload_n 0, 1) := by decide +kernel
theorem dX3_merges_212 : decode cX3_merges 212 = .ok (.getfield 14, 3) := by decide +kernel
theorem dX3_merges_215 : decode cX3_merges 215 = .ok (.iload_n 1, 1) := by decide +kernel
theorem dX3_merges_216 : decode cX3_merges 216 = .ok (.iload 4, 2) := by decide +kernel
theorem dX3_merges_218 : decode cX3_merges 218 = .ok (.invokestatic 48, 3) := by decide +kernel
theorem dX3_merges_221 : decode cX3_merges 221 = .ok (.iload 5, 2) := by decide +kernel
theorem dX3_merges_223 : decode cX3_merges 223 = .ok (.aload_n 0, 1) := by decide +kernel
theorem dX3_merges_224 : decode cX3_merges 224 = .ok (.getfield 14, 3) := by decide +kernel
theorem dX3_merges_227 : decode cX3_merges 227 = .ok (.iload_n 1, 1) := by decide +kernel
theorem dX3_merges_228 : decode cX3_merges 228 = .ok (.iload 4, 2) := by decide +kernel
theorem dX3_merges_230 : decode cX3_merges 230 = .ok (.invokestatic 48, 3) := by decide +kernel
theorem dX3_merges_233 : decode cX3_merges 233 = .ok (.iaload, 1) := by decide +kernel
theorem dX3_merges_234 : decode cX3_merges 234 = .ok (.if_icmp .le 8, 3) := by decide +kernel
theorem dX3_merges_237 : decode cX3_merges 237 = .ok (.iload 5, 2) := by decide +kernel
theorem dX3_merges_239 : decode cX3_merges 239 = .ok (.goto 14, 3) := by decide +kernel
theorem dX3_merges_242 : decode cX3_merges 242 = .ok (.aload_n 0, 1) := by decide +kernel
theorem dX3_merges_243 : decode cX3_merges 243 = .ok (.getfield 14, 3) := by decide +kernel
theorem dX3_merges_246 : decode cX3_merges 246 = .ok (.iload_n 1, 1) := by decide +kernel
theorem dX3_merges_247 : decode cX3_merges 247 = .ok (.iload 4, 2) := by decide +kernel
theorem dX3_merges_249 : decode cX3_merges 249 = .ok (.invokestatic 48, 3) := by decide +kernel
theorem dX3_merges_252 : decode cX3_merges 252 = .ok (.iaload, 1) := by decide +kernel
theorem dX3_merges_253 : decode cX3_merges 253 = .ok (.iastore, 1) := by decide +kernel
theorem dX3_merges_254 : decode cX3_merges 254 = .ok (.iinc 4 1, 3) := by decide +kernel
theorem dX3_merges_257 : decode cX3_merges 257 = .ok (.goto (-66), 3) := by decide +kernel
theorem dX3_merges_260 : decode cX3_merges 260 = .ok (.iconst 0, 1) := by decide +kernel
theorem dX3_merges_261 : decode cX3_merges 261 = .ok (.istore 4, 2) := by decide +kernel
theorem dX3_merges_263 : decode cX3_merges 263 = .ok (.iload 4, 2) := by decide +kernel
theorem dX3_merges_265 : decode cX3_merges 265 = .ok (.bipush 48, 2) := by decide +kernel
theorem dX3_merges_267 : decode cX3_merges 267 = .ok (.if_icmp .ge 70, 3) := by decide +kernel
theorem dX3_merges_270 : decode cX3_merges 270 = .ok (.aload_n 0, 1) := by decide +kernel
theorem dX3_merges_271 : decode cX3_merges 271 = .ok (.getfield 21, 3) := by decide +kernel
theorem dX3_merges_274 : decode cX3_merges 274 = .ok (.bipush 48, 2) := by decide +kernel
theorem dX3_merges_276 : decode cX3_merges 276 = .ok (.iload_n 2, 1) := by decide +kernel
theorem dX3_merges_277 : decode cX3_merges 277 = .ok (.imul, 1) := by decide +kernel
theorem dX3_merges_278 : decode cX3_merges 278 = .ok (.iload 4, 2) := by decide +kernel
theorem dX3_merges_280 : decode cX3_merges 280 = .ok (.iadd, 1) := by decide +kernel
theorem dX3_merges_281 : decode cX3_merges 281 = .ok (.laload, 1) := by decide +kernel
theorem dX3_merges_282 : decode cX3_merges 282 = .ok (.lstore 5, 2) := by decide +kernel
theorem dX3_merges_284 : decode cX3_merges 284 = .ok (.aload_n 0, 1) := by decide +kernel
theorem dX3_merges_285 : decode cX3_merges 285 = .ok (.getfield 21, 3) := by decide +kernel
theorem dX3_merges_288 : decode cX3_merges 288 = .ok (.bipush 48, 2) := by decide +kernel
theorem dX3_merges_290 : decode cX3_merges 290 = .ok (.iload_n 1, 1) := by decide +kernel
theorem dX3_merges_291 : decode cX3_merges 291 = .ok (.imul, 1) := by decide +kernel
theorem dX3_merges_292 : decode cX3_merges 292 = .ok (.iload 4, 2) := by decide +kernel
theorem dX3_merges_294 : decode cX3_merges 294 = .ok (.iadd, 1) := by decide +kernel
theorem dX3_merges_295 : decode cX3_merges 295 = .ok (.lload 5, 2) := by decide +kernel
theorem dX3_merges_297 : decode cX3_merges 297 = .ok (.aload_n 0, 1) := by decide +kernel
theorem dX3_merges_298 : decode cX3_merges 298 = .ok (.getfield 21, 3) := by decide +kernel
theorem dX3_merges_301 : decode cX3_merges 301 = .ok (.bipush 48, 2) := by decide +kernel
theorem dX3_merges_303 : decode cX3_merges 303 = .ok (.iload_n 1, 1) := by decide +kernel
theorem dX3_merges_304 : decode cX3_merges 304 = .ok (.imul, 1) := by decide +kernel
theorem dX3_merges_305 : decode cX3_merges 305 = .ok (.iload 4, 2) := by decide +kernel
theorem dX3_merges_307 : decode cX3_merges 307 = .ok (.iadd, 1) := by decide +kernel
theorem dX3_merges_308 : decode cX3_merges 308 = .ok (.laload, 1) := by decide +kernel
theorem dX3_merges_309 : decode cX3_merges 309 = .ok (.lcmp, 1) := by decide +kernel
theorem dX3_merges_310 : decode cX3_merges 310 = .ok (.ifCond .le 8, 3) := by decide +kernel
theorem dX3_merges_313 : decode cX3_merges 313 = .ok (.lload 5, 2) := by decide +kernel
theorem dX3_merges_315 : decode cX3_merges 315 = .ok (.goto 15, 3) := by decide +kernel
theorem dX3_merges_318 : decode cX3_merges 318 = .ok (.aload_n 0, 1) := by decide +kernel
theorem dX3_merges_319 : decode cX3_merges 319 = .ok (.getfield 21, 3) := by decide +kernel
theorem dX3_merges_322 : decode cX3_merges 322 = .ok (.bipush 48, 2) := by decide +kernel
theorem dX3_merges_324 : decode cX3_merges 324 = .ok (.iload_n 1, 1) := by decide +kernel
theorem dX3_merges_325 : decode cX3_merges 325 = .ok (.imul, 1) := by decide +kernel
theorem dX3_merges_326 : decode cX3_merges 326 = .ok (.iload 4, 2) := by decide +kernel
theorem dX3_merges_328 : decode cX3_merges 328 = .ok (.iadd, 1) := by decide +kernel
theorem dX3_merges_329 : decode cX3_merges 329 = .ok (.laload, 1) := by decide +kernel
theorem dX3_merges_330 : decode cX3_merges 330 = .ok (.lastore, 1) := by decide +kernel
theorem dX3_merges_331 : decode cX3_merges 331 = .ok (.iinc 4 1, 3) := by decide +kernel
theorem dX3_merges_334 : decode cX3_merges 334 = .ok (.goto (-71), 3) := by decide +kernel
theorem dX3_merges_337 : decode cX3_merges 337 = .ok (.iload_n 3, 1) := by decide +kernel
theorem dX3_merges_338 : decode cX3_merges 338 = .ok (.ireturn, 1) := by decide +kernel
set_option maxRecDepth 20000 in
theorem ggX3_deliver_X3_isMessage : GoodIn wsX3_deliver wsX3_isMessage := goodIn_r _ [6, 7, 35, 36, 37, 38, 39, 40, 41, 42] (by decide +kernel) (by decide +kernel)
set_option maxRecDepth 20000 in
theorem gX3_deliver_X3_isMessage : GoodIn wsX3_deliver (wsV RX3 75 RX3 yX3_isMessage wsX3_isMessage) := goodIn_app (goodIn_of _ (by decide +kernel)) ggX3_deliver_X3_isMessage
set_option maxRecDepth 20000 in
theorem ggX3_deliver_X3_refuses : GoodIn wsX3_deliver wsX3_refuses := goodIn_r _ [11, 12, 35, 36, 37, 38, 39, 40, 41, 42] (by decide +kernel) (by decide +kernel)
set_option maxRecDepth 20000 in
theorem gX3_deliver_X3_refuses : GoodIn wsX3_deliver (wsV RX3 38 RX3 yX3_refuses wsX3_refuses) := goodIn_app (goodIn_of _ (by decide +kernel)) ggX3_deliver_X3_refuses
set_option maxRecDepth 20000 in
theorem ggX3_deliver_X3_merges : GoodIn wsX3_deliver wsX3_merges := goodIn_r _ [16, 17, 18, 19, 20, 21, 5, 22, 23, 24, 25, 35, 36, 37, 38, 39, 40, 41, 42] (by decide +kernel) (by decide +kernel)
set_option maxRecDepth 20000 in
theorem gX3_deliver_X3_merges : GoodIn wsX3_deliver (wsV RX3 78 RX3 yX3_merges wsX3_merges) := goodIn_app (goodIn_of _ (by decide +kernel)) ggX3_deliver_X3_merges
set_option maxRecDepth 20000 in
theorem ggX3_deliver_X3_gone : GoodIn wsX3_deliver wsX3_gone := goodIn_r _ [29, 7, 30, 1, 31, 32, 33, 5, 34, 17, 18, 19, 35, 36, 37, 38, 39, 40, 41, 42] (by decide +kernel) (by decide +kernel)
set_option maxRecDepth 20000 in
theorem gX3_deliver_X3_gone : GoodIn wsX3_deliver (wsV RX3 81 RX3 yX3_gone wsX3_gone) := goodIn_app (goodIn_of _ (by decide +kernel)) ggX3_deliver_X3_gone
theorem dX3_deliver_0 : decode cX3_deliver 0 = .ok (.aload_n 0, 1) := by decide +kernel
theorem dX3_deliver_1 : decode cX3_deliver 1 = .ok (.aload_n 0, 1) := by decide +kernel
theorem dX3_deliver_2 : decode cX3_deliver 2 = .ok (.iload_n 1, 1) := by decide +kernel
theorem dX3_deliver_3 : decode cX3_deliver 3 = .ok (.invokevirtual 75, 3) := by decide +kernel
theorem dX3_deliver_6 : decode cX3_deliver 6 = .ok (.ifCond .eq 7, 3) := by decide +kernel
theorem dX3_deliver_9 : decode cX3_deliver 9 = .ok (.iconst 0, 1) := by decide +kernel
theorem dX3_deliver_10 : decode cX3_deliver 10 = .ok (.goto 4, 3) := by decide +kernel
theorem dX3_deliver_13 : decode cX3_deliver 13 = .ok (.iconst 1, 1) := by decide +kernel
theorem dX3_deliver_14 : decode cX3_deliver 14 = .ok (.invokevirtual 38, 3) := by decide +kernel
theorem dX3_deliver_17 : decode cX3_deliver 17 = .ok (.ifCond .eq 5, 3) := by decide +kernel
theorem dX3_deliver_20 : decode cX3_deliver 20 = .ok (.iconst 0, 1) := by decide +kernel
theorem dX3_deliver_21 : decode cX3_deliver 21 = .ok (.ireturn, 1) := by decide +kernel
theorem dX3_deliver_22 : decode cX3_deliver 22 = .ok (.aload_n 0, 1) := by decide +kernel
theorem dX3_deliver_23 : decode cX3_deliver 23 = .ok (.aload_n 0, 1) := by decide +kernel
theorem dX3_deliver_24 : decode cX3_deliver 24 = .ok (.getfield 28, 3) := by decide +kernel
theorem dX3_deliver_27 : decode cX3_deliver 27 = .ok (.iload_n 1, 1) := by decide +kernel
theorem dX3_deliver_28 : decode cX3_deliver 28 = .ok (.iaload, 1) := by decide +kernel
theorem dX3_deliver_29 : decode cX3_deliver 29 = .ok (.bipush 6, 2) := by decide +kernel
theorem dX3_deliver_31 : decode cX3_deliver 31 = .ok (.iload_n 1, 1) := by decide +kernel
theorem dX3_deliver_32 : decode cX3_deliver 32 = .ok (.iadd, 1) := by decide +kernel
theorem dX3_deliver_33 : decode cX3_deliver 33 = .ok (.invokevirtual 78, 3) := by decide +kernel
theorem dX3_deliver_36 : decode cX3_deliver 36 = .ok (.istore_n 2, 1) := by decide +kernel
theorem dX3_deliver_37 : decode cX3_deliver 37 = .ok (.aload_n 0, 1) := by decide +kernel
theorem dX3_deliver_38 : decode cX3_deliver 38 = .ok (.iload_n 1, 1) := by decide +kernel
theorem dX3_deliver_39 : decode cX3_deliver 39 = .ok (.invokevirtual 81, 3) := by decide +kernel
theorem dX3_deliver_42 : decode cX3_deliver 42 = .ok (.iload_n 2, 1) := by decide +kernel
theorem dX3_deliver_43 : decode cX3_deliver 43 = .ok (.ireturn, 1) := by decide +kernel
set_option maxRecDepth 20000 in
theorem ggX3_drop_X3_isMessage : GoodIn wsX3_drop wsX3_isMessage := goodIn_r _ [6, 7, 25, 26, 27, 28, 29, 30, 31, 32] (by decide +kernel) (by decide +kernel)
set_option maxRecDepth 20000 in
theorem gX3_drop_X3_isMessage : GoodIn wsX3_drop (wsV RX3 75 RX3 yX3_isMessage wsX3_isMessage) := goodIn_app (goodIn_of _ (by decide +kernel)) ggX3_drop_X3_isMessage
set_option maxRecDepth 20000 in
theorem ggX3_drop_X3_refuses : GoodIn wsX3_drop wsX3_refuses := goodIn_r _ [11, 12, 25, 26, 27, 28, 29, 30, 31, 32] (by decide +kernel) (by decide +kernel)
set_option maxRecDepth 20000 in
theorem gX3_drop_X3_refuses : GoodIn wsX3_drop (wsV RX3 38 RX3 yX3_refuses wsX3_refuses) := goodIn_app (goodIn_of _ (by decide +kernel)) ggX3_drop_X3_refuses
set_option maxRecDepth 20000 in
theorem ggX3_drop_X3_gone : GoodIn wsX3_drop wsX3_gone := goodIn_r _ [16, 7, 17, 1, 18, 19, 20, 5, 21, 22, 23, 24, 25, 26, 27, 28, 29, 30, 31, 32] (by decide +kernel) (by decide +kernel)
set_option maxRecDepth 20000 in
theorem gX3_drop_X3_gone : GoodIn wsX3_drop (wsV RX3 81 RX3 yX3_gone wsX3_gone) := goodIn_app (goodIn_of _ (by decide +kernel)) ggX3_drop_X3_gone
theorem dX3_drop_0 : decode cX3_drop 0 = .ok (.aload_n 0, 1) := by decide +kernel
theorem dX3_drop_1 : decode cX3_drop 1 = .ok (.aload_n 0, 1) := by decide +kernel
theorem dX3_drop_2 : decode cX3_drop 2 = .ok (.iload_n 1, 1) := by decide +kernel
theorem dX3_drop_3 : decode cX3_drop 3 = .ok (.invokevirtual 75, 3) := by decide +kernel
theorem dX3_drop_6 : decode cX3_drop 6 = .ok (.ifCond .eq 7, 3) := by decide +kernel
theorem dX3_drop_9 : decode cX3_drop 9 = .ok (.iconst 0, 1) := by decide +kernel
theorem dX3_drop_10 : decode cX3_drop 10 = .ok (.goto 4, 3) := by decide +kernel
theorem dX3_drop_13 : decode cX3_drop 13 = .ok (.iconst 1, 1) := by decide +kernel
theorem dX3_drop_14 : decode cX3_drop 14 = .ok (.invokevirtual 38, 3) := by decide +kernel
theorem dX3_drop_17 : decode cX3_drop 17 = .ok (.ifCond .eq 5, 3) := by decide +kernel
theorem dX3_drop_20 : decode cX3_drop 20 = .ok (.iconst 0, 1) := by decide +kernel
theorem dX3_drop_21 : decode cX3_drop 21 = .ok (.ireturn, 1) := by decide +kernel
theorem dX3_drop_22 : decode cX3_drop 22 = .ok (.aload_n 0, 1) := by decide +kernel
theorem dX3_drop_23 : decode cX3_drop 23 = .ok (.getfield 28, 3) := by decide +kernel
theorem dX3_drop_26 : decode cX3_drop 26 = .ok (.iload_n 1, 1) := by decide +kernel
theorem dX3_drop_27 : decode cX3_drop 27 = .ok (.iaload, 1) := by decide +kernel
theorem dX3_drop_28 : decode cX3_drop 28 = .ok (.istore_n 2, 1) := by decide +kernel
theorem dX3_drop_29 : decode cX3_drop 29 = .ok (.aload_n 0, 1) := by decide +kernel
theorem dX3_drop_30 : decode cX3_drop 30 = .ok (.iload_n 1, 1) := by decide +kernel
theorem dX3_drop_31 : decode cX3_drop 31 = .ok (.invokevirtual 81, 3) := by decide +kernel
theorem dX3_drop_34 : decode cX3_drop 34 = .ok (.iload_n 2, 1) := by decide +kernel
theorem dX3_drop_35 : decode cX3_drop 35 = .ok (.ireturn, 1) := by decide +kernel
set_option maxRecDepth 20000 in
theorem ggX3_copy_X3_isMessage : GoodIn wsX3_copy wsX3_isMessage := goodIn_r _ [8, 1, 21, 22, 23, 24, 25, 26, 27, 28] (by decide +kernel) (by decide +kernel)
set_option maxRecDepth 20000 in
theorem gX3_copy_X3_isMessage : GoodIn wsX3_copy (wsV RX3 75 RX3 yX3_isMessage wsX3_isMessage) := goodIn_app (goodIn_of _ (by decide +kernel)) ggX3_copy_X3_isMessage
set_option maxRecDepth 20000 in
theorem ggX3_copy_X3_refuses : GoodIn wsX3_copy wsX3_refuses := goodIn_r _ [12, 13, 21, 22, 23, 24, 25, 26, 27, 28] (by decide +kernel) (by decide +kernel)
set_option maxRecDepth 20000 in
theorem gX3_copy_X3_refuses : GoodIn wsX3_copy (wsV RX3 38 RX3 yX3_refuses wsX3_refuses) := goodIn_app (goodIn_of _ (by decide +kernel)) ggX3_copy_X3_refuses
set_option maxRecDepth 20000 in
theorem ggX3_copy_X3_copies : GoodIn wsX3_copy wsX3_copies := goodIn_r _ [17, 18, 19, 20, 21, 22, 23, 24, 25, 26, 27, 28] (by decide +kernel) (by decide +kernel)
set_option maxRecDepth 20000 in
theorem gX3_copy_X3_copies : GoodIn wsX3_copy (wsV RX3 72 RX3 yX3_copies wsX3_copies) := goodIn_app (goodIn_of _ (by decide +kernel)) ggX3_copy_X3_copies
theorem dX3_copy_0 : decode cX3_copy 0 = .ok (.aload_n 0, 1) := by decide +kernel
theorem dX3_copy_1 : decode cX3_copy 1 = .ok (.aload_n 0, 1) := by decide +kernel
theorem dX3_copy_2 : decode cX3_copy 2 = .ok (.iload_n 1, 1) := by decide +kernel
theorem dX3_copy_3 : decode cX3_copy 3 = .ok (.invokevirtual 75, 3) := by decide +kernel
theorem dX3_copy_6 : decode cX3_copy 6 = .ok (.ifCond .eq 7, 3) := by decide +kernel
theorem dX3_copy_9 : decode cX3_copy 9 = .ok (.iconst 0, 1) := by decide +kernel
theorem dX3_copy_10 : decode cX3_copy 10 = .ok (.goto 4, 3) := by decide +kernel
theorem dX3_copy_13 : decode cX3_copy 13 = .ok (.iconst 1, 1) := by decide +kernel
theorem dX3_copy_14 : decode cX3_copy 14 = .ok (.invokevirtual 38, 3) := by decide +kernel
theorem dX3_copy_17 : decode cX3_copy 17 = .ok (.ifCond .ne 12, 3) := by decide +kernel
theorem dX3_copy_20 : decode cX3_copy 20 = .ok (.aload_n 0, 1) := by decide +kernel
theorem dX3_copy_21 : decode cX3_copy 21 = .ok (.getfield 41, 3) := by decide +kernel
theorem dX3_copy_24 : decode cX3_copy 24 = .ok (.bipush 100, 2) := by decide +kernel
theorem dX3_copy_26 : decode cX3_copy 26 = .ok (.if_icmp .ne 5, 3) := by decide +kernel
theorem dX3_copy_29 : decode cX3_copy 29 = .ok (.iconst 0, 1) := by decide +kernel
theorem dX3_copy_30 : decode cX3_copy 30 = .ok (.ireturn, 1) := by decide +kernel
theorem dX3_copy_31 : decode cX3_copy 31 = .ok (.aload_n 0, 1) := by decide +kernel
theorem dX3_copy_32 : decode cX3_copy 32 = .ok (.bipush 6, 2) := by decide +kernel
theorem dX3_copy_34 : decode cX3_copy 34 = .ok (.iload_n 1, 1) := by decide +kernel
theorem dX3_copy_35 : decode cX3_copy 35 = .ok (.iadd, 1) := by decide +kernel
theorem dX3_copy_36 : decode cX3_copy 36 = .ok (.bipush 6, 2) := by decide +kernel
theorem dX3_copy_38 : decode cX3_copy 38 = .ok (.aload_n 0, 1) := by decide +kernel
theorem dX3_copy_39 : decode cX3_copy 39 = .ok (.getfield 41, 3) := by decide +kernel
theorem dX3_copy_42 : decode cX3_copy 42 = .ok (.iadd, 1) := by decide +kernel
theorem dX3_copy_43 : decode cX3_copy 43 = .ok (.invokevirtual 72, 3) := by decide +kernel
theorem dX3_copy_46 : decode cX3_copy 46 = .ok (.aload_n 0, 1) := by decide +kernel
theorem dX3_copy_47 : decode cX3_copy 47 = .ok (.getfield 25, 3) := by decide +kernel
theorem dX3_copy_50 : decode cX3_copy 50 = .ok (.aload_n 0, 1) := by decide +kernel
theorem dX3_copy_51 : decode cX3_copy 51 = .ok (.getfield 41, 3) := by decide +kernel
theorem dX3_copy_54 : decode cX3_copy 54 = .ok (.aload_n 0, 1) := by decide +kernel
theorem dX3_copy_55 : decode cX3_copy 55 = .ok (.getfield 25, 3) := by decide +kernel
theorem dX3_copy_58 : decode cX3_copy 58 = .ok (.iload_n 1, 1) := by decide +kernel
theorem dX3_copy_59 : decode cX3_copy 59 = .ok (.iaload, 1) := by decide +kernel
theorem dX3_copy_60 : decode cX3_copy 60 = .ok (.iastore, 1) := by decide +kernel
theorem dX3_copy_61 : decode cX3_copy 61 = .ok (.aload_n 0, 1) := by decide +kernel
theorem dX3_copy_62 : decode cX3_copy 62 = .ok (.getfield 28, 3) := by decide +kernel
theorem dX3_copy_65 : decode cX3_copy 65 = .ok (.aload_n 0, 1) := by decide +kernel
theorem dX3_copy_66 : decode cX3_copy 66 = .ok (.getfield 41, 3) := by decide +kernel
theorem dX3_copy_69 : decode cX3_copy 69 = .ok (.aload_n 0, 1) := by decide +kernel
theorem dX3_copy_70 : decode cX3_copy 70 = .ok (.getfield 28, 3) := by decide +kernel
theorem dX3_copy_73 : decode cX3_copy 73 = .ok (.iload_n 1, 1) := by decide +kernel
theorem dX3_copy_74 : decode cX3_copy 74 = .ok (.iaload, 1) := by decide +kernel
theorem dX3_copy_75 : decode cX3_copy 75 = .ok (.iastore, 1) := by decide +kernel
theorem dX3_copy_76 : decode cX3_copy 76 = .ok (.aload_n 0, 1) := by decide +kernel
theorem dX3_copy_77 : decode cX3_copy 77 = .ok (.dup, 1) := by decide +kernel
theorem dX3_copy_78 : decode cX3_copy 78 = .ok (.getfield 41, 3) := by decide +kernel
theorem dX3_copy_81 : decode cX3_copy 81 = .ok (.iconst 1, 1) := by decide +kernel
theorem dX3_copy_82 : decode cX3_copy 82 = .ok (.iadd, 1) := by decide +kernel
theorem dX3_copy_83 : decode cX3_copy 83 = .ok (.putfield 41, 3) := by decide +kernel
theorem dX3_copy_86 : decode cX3_copy 86 = .ok (.iconst 1, 1) := by decide +kernel
theorem dX3_copy_87 : decode cX3_copy 87 = .ok (.ireturn, 1) := by decide +kernel
set_option maxRecDepth 20000 in
theorem ggX3_turn_X3_isMessage : GoodIn wsX3_turn wsX3_isMessage := goodIn_r _ [6, 7, 18, 19, 20, 21, 22, 23, 24, 25] (by decide +kernel) (by decide +kernel)
set_option maxRecDepth 20000 in
theorem gX3_turn_X3_isMessage : GoodIn wsX3_turn (wsV RX3 75 RX3 yX3_isMessage wsX3_isMessage) := goodIn_app (goodIn_of _ (by decide +kernel)) ggX3_turn_X3_isMessage
set_option maxRecDepth 20000 in
theorem ggX3_turn_X3_isReplica : GoodIn wsX3_turn wsX3_isReplica := goodIn_r _ [11, 12, 18, 19, 20, 21, 22, 23, 24, 25] (by decide +kernel) (by decide +kernel)
set_option maxRecDepth 20000 in
theorem gX3_turn_X3_isReplica : GoodIn wsX3_turn (wsV RX3 34 RX3 yX3_isReplica wsX3_isReplica) := goodIn_app (goodIn_of _ (by decide +kernel)) ggX3_turn_X3_isReplica
set_option maxRecDepth 20000 in
theorem ggX3_turn_X3_refuses : GoodIn wsX3_turn wsX3_refuses := goodIn_r _ [16, 17, 18, 19, 20, 21, 22, 23, 24, 25] (by decide +kernel) (by decide +kernel)
set_option maxRecDepth 20000 in
theorem gX3_turn_X3_refuses : GoodIn wsX3_turn (wsV RX3 38 RX3 yX3_refuses wsX3_refuses) := goodIn_app (goodIn_of _ (by decide +kernel)) ggX3_turn_X3_refuses
theorem dX3_turn_0 : decode cX3_turn 0 = .ok (.aload_n 0, 1) := by decide +kernel
theorem dX3_turn_1 : decode cX3_turn 1 = .ok (.aload_n 0, 1) := by decide +kernel
theorem dX3_turn_2 : decode cX3_turn 2 = .ok (.iload_n 1, 1) := by decide +kernel
theorem dX3_turn_3 : decode cX3_turn 3 = .ok (.invokevirtual 75, 3) := by decide +kernel
theorem dX3_turn_6 : decode cX3_turn 6 = .ok (.ifCond .eq 15, 3) := by decide +kernel
theorem dX3_turn_9 : decode cX3_turn 9 = .ok (.aload_n 0, 1) := by decide +kernel
theorem dX3_turn_10 : decode cX3_turn 10 = .ok (.iload_n 2, 1) := by decide +kernel
theorem dX3_turn_11 : decode cX3_turn 11 = .ok (.invokevirtual 34, 3) := by decide +kernel
theorem dX3_turn_14 : decode cX3_turn 14 = .ok (.ifCond .eq 7, 3) := by decide +kernel
theorem dX3_turn_17 : decode cX3_turn 17 = .ok (.iconst 0, 1) := by decide +kernel
theorem dX3_turn_18 : decode cX3_turn 18 = .ok (.goto 4, 3) := by decide +kernel
theorem dX3_turn_21 : decode cX3_turn 21 = .ok (.iconst 1, 1) := by decide +kernel
theorem dX3_turn_22 : decode cX3_turn 22 = .ok (.invokevirtual 38, 3) := by decide +kernel
theorem dX3_turn_25 : decode cX3_turn 25 = .ok (.ifCond .ne 10, 3) := by decide +kernel
theorem dX3_turn_28 : decode cX3_turn 28 = .ok (.aload_n 0, 1) := by decide +kernel
theorem dX3_turn_29 : decode cX3_turn 29 = .ok (.getfield 28, 3) := by decide +kernel
theorem dX3_turn_32 : decode cX3_turn 32 = .ok (.iload_n 1, 1) := by decide +kernel
theorem dX3_turn_33 : decode cX3_turn 33 = .ok (.iload_n 2, 1) := by decide +kernel
theorem dX3_turn_34 : decode cX3_turn 34 = .ok (.iastore, 1) := by decide +kernel
theorem dX3_turn_35 : decode cX3_turn 35 = .ok (.return_, 1) := by decide +kernel
set_option maxRecDepth 20000 in
theorem ggX3_contains_X3_isElement : GoodIn wsX3_contains wsX3_isElement := goodIn_r _ [5, 6, 7, 8, 4, 9, 10, 24, 25, 26, 27, 28, 29, 30, 31] (by decide +kernel) (by decide +kernel)
set_option maxRecDepth 20000 in
theorem gX3_contains_X3_isElement : GoodIn wsX3_contains (wsV RX3 55 RX3 yX3_isElement wsX3_isElement) := goodIn_app (goodIn_of _ (by decide +kernel)) ggX3_contains_X3_isElement
set_option maxRecDepth 20000 in
theorem ggX3_contains_X3_refuses : GoodIn wsX3_contains wsX3_refuses := goodIn_r _ [14, 15, 24, 25, 26, 27, 28, 29, 30, 31] (by decide +kernel) (by decide +kernel)
set_option maxRecDepth 20000 in
theorem gX3_contains_X3_refuses : GoodIn wsX3_contains (wsV RX3 38 RX3 yX3_refuses wsX3_refuses) := goodIn_app (goodIn_of _ (by decide +kernel)) ggX3_contains_X3_refuses
set_option maxRecDepth 20000 in
theorem ggX3_contains_X3_many : GoodIn wsX3_contains wsX3_many := goodIn_r _ [19, 20, 21, 22, 4, 23, 24, 25, 26, 27, 28, 29, 30, 31] (by decide +kernel) (by decide +kernel)
set_option maxRecDepth 20000 in
theorem gX3_contains_X3_many : GoodIn wsX3_contains (wsV RX3 62 RX3 yX3_many wsX3_many) := goodIn_app (goodIn_of _ (by decide +kernel)) ggX3_contains_X3_many
theorem dX3_contains_0 : decode cX3_contains 0 = .ok (.aload_n 0, 1) := by decide +kernel
theorem dX3_contains_1 : decode cX3_contains 1 = .ok (.aload_n 0, 1) := by decide +kernel
theorem dX3_contains_2 : decode cX3_contains 2 = .ok (.iload_n 1, 1) := by decide +kernel
theorem dX3_contains_3 : decode cX3_contains 3 = .ok (.iload_n 2, 1) := by decide +kernel
theorem dX3_contains_4 : decode cX3_contains 4 = .ok (.iload_n 3, 1) := by decide +kernel
theorem dX3_contains_5 : decode cX3_contains 5 = .ok (.invokevirtual 55, 3) := by decide +kernel
theorem dX3_contains_8 : decode cX3_contains 8 = .ok (.ifCond .eq 7, 3) := by decide +kernel
theorem dX3_contains_11 : decode cX3_contains 11 = .ok (.iconst 0, 1) := by decide +kernel
theorem dX3_contains_12 : decode cX3_contains 12 = .ok (.goto 4, 3) := by decide +kernel
theorem dX3_contains_15 : decode cX3_contains 15 = .ok (.iconst 1, 1) := by decide +kernel
theorem dX3_contains_16 : decode cX3_contains 16 = .ok (.invokevirtual 38, 3) := by decide +kernel
theorem dX3_contains_19 : decode cX3_contains 19 = .ok (.ifCond .ne 21, 3) := by decide +kernel
theorem dX3_contains_22 : decode cX3_contains 22 = .ok (.aload_n 0, 1) := by decide +kernel
theorem dX3_contains_23 : decode cX3_contains 23 = .ok (.iload_n 1, 1) := by decide +kernel
theorem dX3_contains_24 : decode cX3_contains 24 = .ok (.bipush 16, 2) := by decide +kernel
theorem dX3_contains_26 : decode cX3_contains 26 = .ok (.iload_n 2, 1) := by decide +kernel
theorem dX3_contains_27 : decode cX3_contains 27 = .ok (.imul, 1) := by decide +kernel
theorem dX3_contains_28 : decode cX3_contains 28 = .ok (.iload_n 3, 1) := by decide +kernel
theorem dX3_contains_29 : decode cX3_contains 29 = .ok (.iadd, 1) := by decide +kernel
theorem dX3_contains_30 : decode cX3_contains 30 = .ok (.invokevirtual 62, 3) := by decide +kernel
theorem dX3_contains_33 : decode cX3_contains 33 = .ok (.ifCond .le 7, 3) := by decide +kernel
theorem dX3_contains_36 : decode cX3_contains 36 = .ok (.iconst 1, 1) := by decide +kernel
theorem dX3_contains_37 : decode cX3_contains 37 = .ok (.goto 4, 3) := by decide +kernel
theorem dX3_contains_40 : decode cX3_contains 40 = .ok (.iconst 0, 1) := by decide +kernel
theorem dX3_contains_41 : decode cX3_contains 41 = .ok (.ireturn, 1) := by decide +kernel
set_option maxRecDepth 20000 in
theorem ggX3_size_X3_isElement : GoodIn wsX3_size wsX3_isElement := goodIn_r _ [5, 6, 7, 8, 4, 9, 10, 24, 25, 26, 27, 28, 29, 30, 31] (by decide +kernel) (by decide +kernel)
set_option maxRecDepth 20000 in
theorem gX3_size_X3_isElement : GoodIn wsX3_size (wsV RX3 55 RX3 yX3_isElement wsX3_isElement) := goodIn_app (goodIn_of _ (by decide +kernel)) ggX3_size_X3_isElement
set_option maxRecDepth 20000 in
theorem ggX3_size_X3_refuses : GoodIn wsX3_size wsX3_refuses := goodIn_r _ [14, 15, 24, 25, 26, 27, 28, 29, 30, 31] (by decide +kernel) (by decide +kernel)
set_option maxRecDepth 20000 in
theorem gX3_size_X3_refuses : GoodIn wsX3_size (wsV RX3 38 RX3 yX3_refuses wsX3_refuses) := goodIn_app (goodIn_of _ (by decide +kernel)) ggX3_size_X3_refuses
set_option maxRecDepth 20000 in
theorem ggX3_size_X3_many : GoodIn wsX3_size wsX3_many := goodIn_r _ [19, 20, 21, 22, 4, 23, 24, 25, 26, 27, 28, 29, 30, 31] (by decide +kernel) (by decide +kernel)
set_option maxRecDepth 20000 in
theorem gX3_size_X3_many : GoodIn wsX3_size (wsV RX3 62 RX3 yX3_many wsX3_many) := goodIn_app (goodIn_of _ (by decide +kernel)) ggX3_size_X3_many
theorem dX3_size_0 : decode cX3_size 0 = .ok (.aload_n 0, 1) := by decide +kernel
theorem dX3_size_1 : decode cX3_size 1 = .ok (.aload_n 0, 1) := by decide +kernel
theorem dX3_size_2 : decode cX3_size 2 = .ok (.iload_n 1, 1) := by decide +kernel
theorem dX3_size_3 : decode cX3_size 3 = .ok (.iload_n 2, 1) := by decide +kernel
theorem dX3_size_4 : decode cX3_size 4 = .ok (.iconst 0, 1) := by decide +kernel
theorem dX3_size_5 : decode cX3_size 5 = .ok (.invokevirtual 55, 3) := by decide +kernel
theorem dX3_size_8 : decode cX3_size 8 = .ok (.ifCond .eq 7, 3) := by decide +kernel
theorem dX3_size_11 : decode cX3_size 11 = .ok (.iconst 0, 1) := by decide +kernel
theorem dX3_size_12 : decode cX3_size 12 = .ok (.goto 4, 3) := by decide +kernel
theorem dX3_size_15 : decode cX3_size 15 = .ok (.iconst 1, 1) := by decide +kernel
theorem dX3_size_16 : decode cX3_size 16 = .ok (.invokevirtual 38, 3) := by decide +kernel
theorem dX3_size_19 : decode cX3_size 19 = .ok (.ifCond .eq 5, 3) := by decide +kernel
theorem dX3_size_22 : decode cX3_size 22 = .ok (.iconst 0, 1) := by decide +kernel
theorem dX3_size_23 : decode cX3_size 23 = .ok (.ireturn, 1) := by decide +kernel
theorem dX3_size_24 : decode cX3_size 24 = .ok (.iconst 0, 1) := by decide +kernel
theorem dX3_size_25 : decode cX3_size 25 = .ok (.istore_n 3, 1) := by decide +kernel
theorem dX3_size_26 : decode cX3_size 26 = .ok (.iconst 0, 1) := by decide +kernel
theorem dX3_size_27 : decode cX3_size 27 = .ok (.istore 4, 2) := by decide +kernel
theorem dX3_size_29 : decode cX3_size 29 = .ok (.iload 4, 2) := by decide +kernel
theorem dX3_size_31 : decode cX3_size 31 = .ok (.bipush 16, 2) := by decide +kernel
theorem dX3_size_33 : decode cX3_size 33 = .ok (.if_icmp .ge 32, 3) := by decide +kernel
theorem dX3_size_36 : decode cX3_size 36 = .ok (.iload_n 3, 1) := by decide +kernel
theorem dX3_size_37 : decode cX3_size 37 = .ok (.aload_n 0, 1) := by decide +kernel
theorem dX3_size_38 : decode cX3_size 38 = .ok (.iload_n 1, 1) := by decide +kernel
theorem dX3_size_39 : decode cX3_size 39 = .ok (.bipush 16, 2) := by decide +kernel
theorem dX3_size_41 : decode cX3_size 41 = .ok (.iload_n 2, 1) := by decide +kernel
theorem dX3_size_42 : decode cX3_size 42 = .ok (.imul, 1) := by decide +kernel
theorem dX3_size_43 : decode cX3_size 43 = .ok (.iload 4, 2) := by decide +kernel
theorem dX3_size_45 : decode cX3_size 45 = .ok (.iadd, 1) := by decide +kernel
theorem dX3_size_46 : decode cX3_size 46 = .ok (.invokevirtual 62, 3) := by decide +kernel
theorem dX3_size_49 : decode cX3_size 49 = .ok (.ifCond .le 7, 3) := by decide +kernel
theorem dX3_size_52 : decode cX3_size 52 = .ok (.iconst 1, 1) := by decide +kernel
theorem dX3_size_53 : decode cX3_size 53 = .ok (.goto 4, 3) := by decide +kernel
theorem dX3_size_56 : decode cX3_size 56 = .ok (.iconst 0, 1) := by decide +kernel
theorem dX3_size_57 : decode cX3_size 57 = .ok (.iadd, 1) := by decide +kernel
theorem dX3_size_58 : decode cX3_size 58 = .ok (.istore_n 3, 1) := by decide +kernel
theorem dX3_size_59 : decode cX3_size 59 = .ok (.iinc 4 1, 3) := by decide +kernel
theorem dX3_size_62 : decode cX3_size 62 = .ok (.goto (-33), 3) := by decide +kernel
theorem dX3_size_65 : decode cX3_size 65 = .ok (.iload_n 3, 1) := by decide +kernel
theorem dX3_size_66 : decode cX3_size 66 = .ok (.ireturn, 1) := by decide +kernel
set_option maxRecDepth 20000 in
theorem ggX3_origin_X3_dots : GoodIn wsX3_origin wsX3_dots := goodIn_r _ [5] (by decide +kernel) (by decide +kernel)
set_option maxRecDepth 20000 in
theorem gX3_origin_X3_dots : GoodIn wsX3_origin (va_wsS RX3 44 yX3_dots wsX3_dots) := goodIn_app (goodIn_of _ (by decide +kernel)) ggX3_origin_X3_dots
theorem dX3_origin_0 : decode cX3_origin 0 = .ok (.iload_n 3, 1) := by decide +kernel
theorem dX3_origin_1 : decode cX3_origin 1 = .ok (.istore 4, 2) := by decide +kernel
theorem dX3_origin_3 : decode cX3_origin 3 = .ok (.iconst 0, 1) := by decide +kernel
theorem dX3_origin_4 : decode cX3_origin 4 = .ok (.istore 5, 2) := by decide +kernel
theorem dX3_origin_6 : decode cX3_origin 6 = .ok (.iload 5, 2) := by decide +kernel
theorem dX3_origin_8 : decode cX3_origin 8 = .ok (.bipush 6, 2) := by decide +kernel
theorem dX3_origin_10 : decode cX3_origin 10 = .ok (.if_icmp .ge 41, 3) := by decide +kernel
theorem dX3_origin_13 : decode cX3_origin 13 = .ok (.iload 4, 2) := by decide +kernel
theorem dX3_origin_15 : decode cX3_origin 15 = .ok (.ifCond .lt 36, 3) := by decide +kernel
theorem dX3_origin_18 : decode cX3_origin 18 = .ok (.aload_n 0, 1) := by decide +kernel
theorem dX3_origin_19 : decode cX3_origin 19 = .ok (.getfield 14, 3) := by decide +kernel
theorem dX3_origin_22 : decode cX3_origin 22 = .ok (.iload_n 1, 1) := by decide +kernel
theorem dX3_origin_23 : decode cX3_origin 23 = .ok (.iload_n 2, 1) := by decide +kernel
theorem dX3_origin_24 : decode cX3_origin 24 = .ok (.invokestatic 44, 3) := by decide +kernel
theorem dX3_origin_27 : decode cX3_origin 27 = .ok (.iload 5, 2) := by decide +kernel
theorem dX3_origin_29 : decode cX3_origin 29 = .ok (.iadd, 1) := by decide +kernel
theorem dX3_origin_30 : decode cX3_origin 30 = .ok (.iaload, 1) := by decide +kernel
theorem dX3_origin_31 : decode cX3_origin 31 = .ok (.ifCond .le 14, 3) := by decide +kernel
theorem dX3_origin_34 : decode cX3_origin 34 = .ok (.iload 4, 2) := by decide +kernel
theorem dX3_origin_36 : decode cX3_origin 36 = .ok (.ifCond .ne 6, 3) := by decide +kernel
theorem dX3_origin_39 : decode cX3_origin 39 = .ok (.iload 5, 2) := by decide +kernel
theorem dX3_origin_41 : decode cX3_origin 41 = .ok (.ireturn, 1) := by decide +kernel
theorem dX3_origin_42 : decode cX3_origin 42 = .ok (.iinc 4 (-1), 3) := by decide +kernel
theorem dX3_origin_45 : decode cX3_origin 45 = .ok (.iinc 5 1, 3) := by decide +kernel
theorem dX3_origin_48 : decode cX3_origin 48 = .ok (.goto (-42), 3) := by decide +kernel
theorem dX3_origin_51 : decode cX3_origin 51 = .ok (.iconst (-1), 1) := by decide +kernel
theorem dX3_origin_52 : decode cX3_origin 52 = .ok (.ireturn, 1) := by decide +kernel
set_option maxRecDepth 20000 in
theorem ggX3_dot_X3_isElement : GoodIn wsX3_dot wsX3_isElement := goodIn_r _ [6, 7, 8, 9, 5, 10, 11, 24, 25, 26, 27, 28, 29, 30, 31] (by decide +kernel) (by decide +kernel)
set_option maxRecDepth 20000 in
theorem gX3_dot_X3_isElement : GoodIn wsX3_dot (wsV RX3 55 RX3 yX3_isElement wsX3_isElement) := goodIn_app (goodIn_of _ (by decide +kernel)) ggX3_dot_X3_isElement
set_option maxRecDepth 20000 in
theorem ggX3_dot_X3_refuses : GoodIn wsX3_dot wsX3_refuses := goodIn_r _ [15, 16, 24, 25, 26, 27, 28, 29, 30, 31] (by decide +kernel) (by decide +kernel)
set_option maxRecDepth 20000 in
theorem gX3_dot_X3_refuses : GoodIn wsX3_dot (wsV RX3 38 RX3 yX3_refuses wsX3_refuses) := goodIn_app (goodIn_of _ (by decide +kernel)) ggX3_dot_X3_refuses
set_option maxRecDepth 20000 in
theorem ggX3_dot_X3_origin : GoodIn wsX3_dot wsX3_origin := goodIn_r _ [20, 1, 21, 22, 5, 23, 24, 25, 26, 27, 28, 29, 30, 31] (by decide +kernel) (by decide +kernel)
set_option maxRecDepth 20000 in
theorem gX3_dot_X3_origin : GoodIn wsX3_dot (wsV RX3 85 RX3 yX3_origin wsX3_origin) := goodIn_app (goodIn_of _ (by decide +kernel)) ggX3_dot_X3_origin
set_option maxRecDepth 20000 in
theorem ggX3_dot_X3_dots : GoodIn wsX3_dot wsX3_dots := goodIn_r _ [23] (by decide +kernel) (by decide +kernel)
set_option maxRecDepth 20000 in
theorem gX3_dot_X3_dots : GoodIn wsX3_dot (va_wsS RX3 44 yX3_dots wsX3_dots) := goodIn_app (goodIn_of _ (by decide +kernel)) ggX3_dot_X3_dots
theorem dX3_dot_0 : decode cX3_dot 0 = .ok (.aload_n 0, 1) := by decide +kernel
theorem dX3_dot_1 : decode cX3_dot 1 = .ok (.aload_n 0, 1) := by decide +kernel
theorem dX3_dot_2 : decode cX3_dot 2 = .ok (.iload_n 1, 1) := by decide +kernel
theorem dX3_dot_3 : decode cX3_dot 3 = .ok (.iload_n 2, 1) := by decide +kernel
theorem dX3_dot_4 : decode cX3_dot 4 = .ok (.iload_n 3, 1) := by decide +kernel
theorem dX3_dot_5 : decode cX3_dot 5 = .ok (.invokevirtual 55, 3) := by decide +kernel
theorem dX3_dot_8 : decode cX3_dot 8 = .ok (.ifCond .eq 18, 3) := by decide +kernel
theorem dX3_dot_11 : decode cX3_dot 11 = .ok (.iload 5, 2) := by decide +kernel
theorem dX3_dot_13 : decode cX3_dot 13 = .ok (.ifCond .lt 13, 3) := by decide +kernel
theorem dX3_dot_16 : decode cX3_dot 16 = .ok (.iload 5, 2) := by decide +kernel
theorem dX3_dot_18 : decode cX3_dot 18 = .ok (.iconst 2, 1) := by decide +kernel
theorem dX3_dot_19 : decode cX3_dot 19 = .ok (.if_icmp .ge 7, 3) := by decide +kernel
theorem dX3_dot_22 : decode cX3_dot 22 = .ok (.iconst 0, 1) := by decide +kernel
theorem dX3_dot_23 : decode cX3_dot 23 = .ok (.goto 4, 3) := by decide +kernel
theorem dX3_dot_26 : decode cX3_dot 26 = .ok (.iconst 1, 1) := by decide +kernel
theorem dX3_dot_27 : decode cX3_dot 27 = .ok (.invokevirtual 38, 3) := by decide +kernel
theorem dX3_dot_30 : decode cX3_dot 30 = .ok (.ifCond .eq 5, 3) := by decide +kernel
theorem dX3_dot_33 : decode cX3_dot 33 = .ok (.iconst 0, 1) := by decide +kernel
theorem dX3_dot_34 : decode cX3_dot 34 = .ok (.ireturn, 1) := by decide +kernel
theorem dX3_dot_35 : decode cX3_dot 35 = .ok (.bipush 16, 2) := by decide +kernel
theorem dX3_dot_37 : decode cX3_dot 37 = .ok (.iload_n 2, 1) := by decide +kernel
theorem dX3_dot_38 : decode cX3_dot 38 = .ok (.imul, 1) := by decide +kernel
theorem dX3_dot_39 : decode cX3_dot 39 = .ok (.iload_n 3, 1) := by decide +kernel
theorem dX3_dot_40 : decode cX3_dot 40 = .ok (.iadd, 1) := by decide +kernel
theorem dX3_dot_41 : decode cX3_dot 41 = .ok (.istore 6, 2) := by decide +kernel
theorem dX3_dot_43 : decode cX3_dot 43 = .ok (.aload_n 0, 1) := by decide +kernel
theorem dX3_dot_44 : decode cX3_dot 44 = .ok (.iload_n 1, 1) := by decide +kernel
theorem dX3_dot_45 : decode cX3_dot 45 = .ok (.iload 6, 2) := by decide +kernel
theorem dX3_dot_47 : decode cX3_dot 47 = .ok (.iload 4, 2) := by decide +kernel
theorem dX3_dot_49 : decode cX3_dot 49 = .ok (.invokevirtual 85, 3) := by decide +kernel
theorem dX3_dot_52 : decode cX3_dot 52 = .ok (.istore 7, 2) := by decide +kernel
theorem dX3_dot_54 : decode cX3_dot 54 = .ok (.iload 7, 2) := by decide +kernel
theorem dX3_dot_56 : decode cX3_dot 56 = .ok (.iconst (-1), 1) := by decide +kernel
theorem dX3_dot_57 : decode cX3_dot 57 = .ok (.if_icmp .eq 8, 3) := by decide +kernel
theorem dX3_dot_60 : decode cX3_dot 60 = .ok (.iload 5, 2) := by decide +kernel
theorem dX3_dot_62 : decode cX3_dot 62 = .ok (.ifCond .ne 8, 3) := by decide +kernel
theorem dX3_dot_65 : decode cX3_dot 65 = .ok (.iload 7, 2) := by decide +kernel
theorem dX3_dot_67 : decode cX3_dot 67 = .ok (.goto 17, 3) := by decide +kernel
theorem dX3_dot_70 : decode cX3_dot 70 = .ok (.aload_n 0, 1) := by decide +kernel
theorem dX3_dot_71 : decode cX3_dot 71 = .ok (.getfield 14, 3) := by decide +kernel
theorem dX3_dot_74 : decode cX3_dot 74 = .ok (.iload_n 1, 1) := by decide +kernel
theorem dX3_dot_75 : decode cX3_dot 75 = .ok (.iload 6, 2) := by decide +kernel
theorem dX3_dot_77 : decode cX3_dot 77 = .ok (.invokestatic 44, 3) := by decide +kernel
theorem dX3_dot_80 : decode cX3_dot 80 = .ok (.iload 7, 2) := by decide +kernel
theorem dX3_dot_82 : decode cX3_dot 82 = .ok (.iadd, 1) := by decide +kernel
theorem dX3_dot_83 : decode cX3_dot 83 = .ok (.iaload, 1) := by decide +kernel
theorem dX3_dot_84 : decode cX3_dot 84 = .ok (.ireturn, 1) := by decide +kernel
set_option maxRecDepth 20000 in
theorem ggX3_value_X3_isRegister : GoodIn wsX3_value wsX3_isRegister := goodIn_r _ [7, 8, 9, 10, 6, 11, 12, 25, 26, 27, 28, 29, 30, 31, 32] (by decide +kernel) (by decide +kernel)
set_option maxRecDepth 20000 in
theorem gX3_value_X3_isRegister : GoodIn wsX3_value (wsV RX3 65 RX3 yX3_isRegister wsX3_isRegister) := goodIn_app (goodIn_of _ (by decide +kernel)) ggX3_value_X3_isRegister
set_option maxRecDepth 20000 in
theorem ggX3_value_X3_refuses : GoodIn wsX3_value wsX3_refuses := goodIn_r _ [16, 17, 25, 26, 27, 28, 29, 30, 31, 32] (by decide +kernel) (by decide +kernel)
set_option maxRecDepth 20000 in
theorem gX3_value_X3_refuses : GoodIn wsX3_value (wsV RX3 38 RX3 yX3_refuses wsX3_refuses) := goodIn_app (goodIn_of _ (by decide +kernel)) ggX3_value_X3_refuses
set_option maxRecDepth 20000 in
theorem ggX3_value_X3_origin : GoodIn wsX3_value wsX3_origin := goodIn_r _ [21, 1, 22, 23, 6, 24, 25, 26, 27, 28, 29, 30, 31, 32] (by decide +kernel) (by decide +kernel)
set_option maxRecDepth 20000 in
theorem gX3_value_X3_origin : GoodIn wsX3_value (wsV RX3 85 RX3 yX3_origin wsX3_origin) := goodIn_app (goodIn_of _ (by decide +kernel)) ggX3_value_X3_origin
set_option maxRecDepth 20000 in
theorem ggX3_value_X3_dots : GoodIn wsX3_value wsX3_dots := goodIn_r _ [24] (by decide +kernel) (by decide +kernel)
set_option maxRecDepth 20000 in
theorem gX3_value_X3_dots : GoodIn wsX3_value (va_wsS RX3 44 yX3_dots wsX3_dots) := goodIn_app (goodIn_of _ (by decide +kernel)) ggX3_value_X3_dots
theorem dX3_value_0 : decode cX3_value 0 = .ok (.aload_n 0, 1) := by decide +kernel
theorem dX3_value_1 : decode cX3_value 1 = .ok (.aload_n 0, 1) := by decide +kernel
theorem dX3_value_2 : decode cX3_value 2 = .ok (.iload_n 1, 1) := by decide +kernel
theorem dX3_value_3 : decode cX3_value 3 = .ok (.iload_n 2, 1) := by decide +kernel
theorem dX3_value_4 : decode cX3_value 4 = .ok (.invokevirtual 65, 3) := by decide +kernel
theorem dX3_value_7 : decode cX3_value 7 = .ok (.ifCond .eq 18, 3) := by decide +kernel
theorem dX3_value_10 : decode cX3_value 10 = .ok (.iload 4, 2) := by decide +kernel
theorem dX3_value_12 : decode cX3_value 12 = .ok (.ifCond .lt 13, 3) := by decide +kernel
theorem dX3_value_15 : decode cX3_value 15 = .ok (.iload 4, 2) := by decide +kernel
theorem dX3_value_17 : decode cX3_value 17 = .ok (.iconst 3, 1) := by decide +kernel
theorem dX3_value_18 : decode cX3_value 18 = .ok (.if_icmp .ge 7, 3) := by decide +kernel
theorem dX3_value_21 : decode cX3_value 21 = .ok (.iconst 0, 1) := by decide +kernel
theorem dX3_value_22 : decode cX3_value 22 = .ok (.goto 4, 3) := by decide +kernel
theorem dX3_value_25 : decode cX3_value 25 = .ok (.iconst 1, 1) := by decide +kernel
theorem dX3_value_26 : decode cX3_value 26 = .ok (.invokevirtual 38, 3) := by decide +kernel
theorem dX3_value_29 : decode cX3_value 29 = .ok (.ifCond .eq 5, 3) := by decide +kernel
theorem dX3_value_32 : decode cX3_value 32 = .ok (.iconst 0, 1) := by decide +kernel
theorem dX3_value_33 : decode cX3_value 33 = .ok (.ireturn, 1) := by decide +kernel
theorem dX3_value_34 : decode cX3_value 34 = .ok (.aload_n 0, 1) := by decide +kernel
theorem dX3_value_35 : decode cX3_value 35 = .ok (.iload_n 1, 1) := by decide +kernel
theorem dX3_value_36 : decode cX3_value 36 = .ok (.bipush 64, 2) := by decide +kernel
theorem dX3_value_38 : decode cX3_value 38 = .ok (.iload_n 2, 1) := by decide +kernel
theorem dX3_value_39 : decode cX3_value 39 = .ok (.iadd, 1) := by decide +kernel
theorem dX3_value_40 : decode cX3_value 40 = .ok (.iload_n 3, 1) := by decide +kernel
theorem dX3_value_41 : decode cX3_value 41 = .ok (.invokevirtual 85, 3) := by decide +kernel
theorem dX3_value_44 : decode cX3_value 44 = .ok (.istore 5, 2) := by decide +kernel
theorem dX3_value_46 : decode cX3_value 46 = .ok (.iload 5, 2) := by decide +kernel
theorem dX3_value_48 : decode cX3_value 48 = .ok (.iconst (-1), 1) := by decide +kernel
theorem dX3_value_49 : decode cX3_value 49 = .ok (.if_icmp .ne 15, 3) := by decide +kernel
theorem dX3_value_52 : decode cX3_value 52 = .ok (.iload 4, 2) := by decide +kernel
theorem dX3_value_54 : decode cX3_value 54 = .ok (.iconst 2, 1) := by decide +kernel
theorem dX3_value_55 : decode cX3_value 55 = .ok (.if_icmp .ne 7, 3) := by decide +kernel
theorem dX3_value_58 : decode cX3_value 58 = .ok (.iconst 0, 1) := by decide +kernel
theorem dX3_value_59 : decode cX3_value 59 = .ok (.goto 4, 3) := by decide +kernel
theorem dX3_value_62 : decode cX3_value 62 = .ok (.iconst (-1), 1) := by decide +kernel
theorem dX3_value_63 : decode cX3_value 63 = .ok (.ireturn, 1) := by decide +kernel
theorem dX3_value_64 : decode cX3_value 64 = .ok (.iload 4, 2) := by decide +kernel
theorem dX3_value_66 : decode cX3_value 66 = .ok (.ifCond .ne 8, 3) := by decide +kernel
theorem dX3_value_69 : decode cX3_value 69 = .ok (.iload 5, 2) := by decide +kernel
theorem dX3_value_71 : decode cX3_value 71 = .ok (.goto 45, 3) := by decide +kernel
theorem dX3_value_74 : decode cX3_value 74 = .ok (.iload 4, 2) := by decide +kernel
theorem dX3_value_76 : decode cX3_value 76 = .ok (.iconst 1, 1) := by decide +kernel
theorem dX3_value_77 : decode cX3_value 77 = .ok (.if_icmp .ne 22, 3) := by decide +kernel
theorem dX3_value_80 : decode cX3_value 80 = .ok (.aload_n 0, 1) := by decide +kernel
theorem dX3_value_81 : decode cX3_value 81 = .ok (.getfield 14, 3) := by decide +kernel
theorem dX3_value_84 : decode cX3_value 84 = .ok (.iload_n 1, 1) := by decide +kernel
theorem dX3_value_85 : decode cX3_value 85 = .ok (.bipush 64, 2) := by decide +kernel
theorem dX3_value_87 : decode cX3_value 87 = .ok (.iload_n 2, 1) := by decide +kernel
theorem dX3_value_88 : decode cX3_value 88 = .ok (.iadd, 1) := by decide +kernel
theorem dX3_value_89 : decode cX3_value 89 = .ok (.invokestatic 44, 3) := by decide +kernel
theorem dX3_value_92 : decode cX3_value 92 = .ok (.iload 5, 2) := by decide +kernel
theorem dX3_value_94 : decode cX3_value 94 = .ok (.iadd, 1) := by decide +kernel
theorem dX3_value_95 : decode cX3_value 95 = .ok (.iaload, 1) := by decide +kernel
theorem dX3_value_96 : decode cX3_value 96 = .ok (.goto 20, 3) := by decide +kernel
theorem dX3_value_99 : decode cX3_value 99 = .ok (.aload_n 0, 1) := by decide +kernel
theorem dX3_value_100 : decode cX3_value 100 = .ok (.getfield 18, 3) := by decide +kernel
theorem dX3_value_103 : decode cX3_value 103 = .ok (.bipush 24, 2) := by decide +kernel
theorem dX3_value_105 : decode cX3_value 105 = .ok (.iload_n 1, 1) := by decide +kernel
theorem dX3_value_106 : decode cX3_value 106 = .ok (.imul, 1) := by decide +kernel
theorem dX3_value_107 : decode cX3_value 107 = .ok (.bipush 6, 2) := by decide +kernel
theorem dX3_value_109 : decode cX3_value 109 = .ok (.iload_n 2, 1) := by decide +kernel
theorem dX3_value_110 : decode cX3_value 110 = .ok (.imul, 1) := by decide +kernel
theorem dX3_value_111 : decode cX3_value 111 = .ok (.iadd, 1) := by decide +kernel
theorem dX3_value_112 : decode cX3_value 112 = .ok (.iload 5, 2) := by decide +kernel
theorem dX3_value_114 : decode cX3_value 114 = .ok (.iadd, 1) := by decide +kernel
theorem dX3_value_115 : decode cX3_value 115 = .ok (.iaload, 1) := by decide +kernel
theorem dX3_value_116 : decode cX3_value 116 = .ok (.ireturn, 1) := by decide +kernel
set_option maxRecDepth 20000 in
theorem ggX3_values_X3_isRegister : GoodIn wsX3_values wsX3_isRegister := goodIn_r _ [5, 6, 7, 8, 4, 9, 10, 24, 25, 26, 27, 28, 29, 30, 31] (by decide +kernel) (by decide +kernel)
set_option maxRecDepth 20000 in
theorem gX3_values_X3_isRegister : GoodIn wsX3_values (wsV RX3 65 RX3 yX3_isRegister wsX3_isRegister) := goodIn_app (goodIn_of _ (by decide +kernel)) ggX3_values_X3_isRegister
set_option maxRecDepth 20000 in
theorem ggX3_values_X3_refuses : GoodIn wsX3_values wsX3_refuses := goodIn_r _ [14, 15, 24, 25, 26, 27, 28, 29, 30, 31] (by decide +kernel) (by decide +kernel)
set_option maxRecDepth 20000 in
theorem gX3_values_X3_refuses : GoodIn wsX3_values (wsV RX3 38 RX3 yX3_refuses wsX3_refuses) := goodIn_app (goodIn_of _ (by decide +kernel)) ggX3_values_X3_refuses
set_option maxRecDepth 20000 in
theorem ggX3_values_X3_many : GoodIn wsX3_values wsX3_many := goodIn_r _ [19, 20, 21, 22, 4, 23, 24, 25, 26, 27, 28, 29, 30, 31] (by decide +kernel) (by decide +kernel)
set_option maxRecDepth 20000 in
theorem gX3_values_X3_many : GoodIn wsX3_values (wsV RX3 62 RX3 yX3_many wsX3_many) := goodIn_app (goodIn_of _ (by decide +kernel)) ggX3_values_X3_many
theorem dX3_values_0 : decode cX3_values 0 = .ok (.aload_n 0, 1) := by decide +kernel
theorem dX3_values_1 : decode cX3_values 1 = .ok (.aload_n 0, 1) := by decide +kernel
theorem dX3_values_2 : decode cX3_values 2 = .ok (.iload_n 1, 1) := by decide +kernel
theorem dX3_values_3 : decode cX3_values 3 = .ok (.iload_n 2, 1) := by decide +kernel
theorem dX3_values_4 : decode cX3_values 4 = .ok (.invokevirtual 65, 3) := by decide +kernel
theorem dX3_values_7 : decode cX3_values 7 = .ok (.ifCond .eq 7, 3) := by decide +kernel
theorem dX3_values_10 : decode cX3_values 10 = .ok (.iconst 0, 1) := by decide +kernel
theorem dX3_values_11 : decode cX3_values 11 = .ok (.goto 4, 3) := by decide +kernel
theorem dX3_values_14 : decode cX3_values 14 = .ok (.iconst 1, 1) := by decide +kernel
theorem dX3_values_15 : decode cX3_values 15 = .ok (.invokevirtual 38, 3) := by decide +kernel
theorem dX3_values_18 : decode cX3_values 18 = .ok (.ifCond .eq 7, 3) := by decide +kernel
theorem dX3_values_21 : decode cX3_values 21 = .ok (.iconst 0, 1) := by decide +kernel
theorem dX3_values_22 : decode cX3_values 22 = .ok (.goto 12, 3) := by decide +kernel
theorem dX3_values_25 : decode cX3_values 25 = .ok (.aload_n 0, 1) := by decide +kernel
theorem dX3_values_26 : decode cX3_values 26 = .ok (.iload_n 1, 1) := by decide +kernel
theorem dX3_values_27 : decode cX3_values 27 = .ok (.bipush 64, 2) := by decide +kernel
theorem dX3_values_29 : decode cX3_values 29 = .ok (.iload_n 2, 1) := by decide +kernel
theorem dX3_values_30 : decode cX3_values 30 = .ok (.iadd, 1) := by decide +kernel
theorem dX3_values_31 : decode cX3_values 31 = .ok (.invokevirtual 62, 3) := by decide +kernel
theorem dX3_values_34 : decode cX3_values 34 = .ok (.ireturn, 1) := by decide +kernel
set_option maxRecDepth 20000 in
theorem ggX3_total_X3_isRegister : GoodIn wsX3_total wsX3_isRegister := goodIn_r _ [5, 6, 7, 8, 4, 9, 10, 21, 22, 23, 24, 25, 26, 27, 28] (by decide +kernel) (by decide +kernel)
set_option maxRecDepth 20000 in
theorem gX3_total_X3_isRegister : GoodIn wsX3_total (wsV RX3 65 RX3 yX3_isRegister wsX3_isRegister) := goodIn_app (goodIn_of _ (by decide +kernel)) ggX3_total_X3_isRegister
set_option maxRecDepth 20000 in
theorem ggX3_total_X3_refuses : GoodIn wsX3_total wsX3_refuses := goodIn_r _ [14, 15, 21, 22, 23, 24, 25, 26, 27, 28] (by decide +kernel) (by decide +kernel)
set_option maxRecDepth 20000 in
theorem gX3_total_X3_refuses : GoodIn wsX3_total (wsV RX3 38 RX3 yX3_refuses wsX3_refuses) := goodIn_app (goodIn_of _ (by decide +kernel)) ggX3_total_X3_refuses
set_option maxRecDepth 20000 in
theorem ggX3_total_X3_sum : GoodIn wsX3_total wsX3_sum := goodIn_r _ [19, 20, 21, 22, 23, 24, 25, 26, 27, 28] (by decide +kernel) (by decide +kernel)
set_option maxRecDepth 20000 in
theorem gX3_total_X3_sum : GoodIn wsX3_total (wsV RX3 69 RX3 yX3_sum wsX3_sum) := goodIn_app (goodIn_of _ (by decide +kernel)) ggX3_total_X3_sum
theorem dX3_total_0 : decode cX3_total 0 = .ok (.aload_n 0, 1) := by decide +kernel
theorem dX3_total_1 : decode cX3_total 1 = .ok (.aload_n 0, 1) := by decide +kernel
theorem dX3_total_2 : decode cX3_total 2 = .ok (.iload_n 1, 1) := by decide +kernel
theorem dX3_total_3 : decode cX3_total 3 = .ok (.iload_n 2, 1) := by decide +kernel
theorem dX3_total_4 : decode cX3_total 4 = .ok (.invokevirtual 65, 3) := by decide +kernel
theorem dX3_total_7 : decode cX3_total 7 = .ok (.ifCond .eq 7, 3) := by decide +kernel
theorem dX3_total_10 : decode cX3_total 10 = .ok (.iconst 0, 1) := by decide +kernel
theorem dX3_total_11 : decode cX3_total 11 = .ok (.goto 4, 3) := by decide +kernel
theorem dX3_total_14 : decode cX3_total 14 = .ok (.iconst 1, 1) := by decide +kernel
theorem dX3_total_15 : decode cX3_total 15 = .ok (.invokevirtual 38, 3) := by decide +kernel
theorem dX3_total_18 : decode cX3_total 18 = .ok (.ifCond .eq 7, 3) := by decide +kernel
theorem dX3_total_21 : decode cX3_total 21 = .ok (.iconst 0, 1) := by decide +kernel
theorem dX3_total_22 : decode cX3_total 22 = .ok (.goto 9, 3) := by decide +kernel
theorem dX3_total_25 : decode cX3_total 25 = .ok (.aload_n 0, 1) := by decide +kernel
theorem dX3_total_26 : decode cX3_total 26 = .ok (.iload_n 1, 1) := by decide +kernel
theorem dX3_total_27 : decode cX3_total 27 = .ok (.iload_n 2, 1) := by decide +kernel
theorem dX3_total_28 : decode cX3_total 28 = .ok (.invokevirtual 69, 3) := by decide +kernel
theorem dX3_total_31 : decode cX3_total 31 = .ok (.ireturn, 1) := by decide +kernel
set_option maxRecDepth 20000 in
theorem ggX3_vector_X3_isReplica : GoodIn wsX3_vector wsX3_isReplica := goodIn_r _ [6, 7, 16, 17, 18, 19, 20, 21, 22, 23] (by decide +kernel) (by decide +kernel)
set_option maxRecDepth 20000 in
theorem gX3_vector_X3_isReplica : GoodIn wsX3_vector (wsV RX3 34 RX3 yX3_isReplica wsX3_isReplica) := goodIn_app (goodIn_of _ (by decide +kernel)) ggX3_vector_X3_isReplica
set_option maxRecDepth 20000 in
theorem ggX3_vector_X3_refuses : GoodIn wsX3_vector wsX3_refuses := goodIn_r _ [11, 12, 16, 17, 18, 19, 20, 21, 22, 23] (by decide +kernel) (by decide +kernel)
set_option maxRecDepth 20000 in
theorem gX3_vector_X3_refuses : GoodIn wsX3_vector (wsV RX3 38 RX3 yX3_refuses wsX3_refuses) := goodIn_app (goodIn_of _ (by decide +kernel)) ggX3_vector_X3_refuses
set_option maxRecDepth 20000 in
theorem ggX3_vector_X3_vectorAt : GoodIn wsX3_vector wsX3_vectorAt := goodIn_r _ [15] (by decide +kernel) (by decide +kernel)
set_option maxRecDepth 20000 in
theorem gX3_vector_X3_vectorAt : GoodIn wsX3_vector (va_wsS RX3 48 yX3_vectorAt wsX3_vectorAt) := goodIn_app (goodIn_of _ (by decide +kernel)) ggX3_vector_X3_vectorAt
theorem dX3_vector_0 : decode cX3_vector 0 = .ok (.aload_n 0, 1) := by decide +kernel
theorem dX3_vector_1 : decode cX3_vector 1 = .ok (.aload_n 0, 1) := by decide +kernel
theorem dX3_vector_2 : decode cX3_vector 2 = .ok (.iload_n 1, 1) := by decide +kernel
theorem dX3_vector_3 : decode cX3_vector 3 = .ok (.invokevirtual 34, 3) := by decide +kernel
theorem dX3_vector_6 : decode cX3_vector 6 = .ok (.ifCond .eq 15, 3) := by decide +kernel
theorem dX3_vector_9 : decode cX3_vector 9 = .ok (.aload_n 0, 1) := by decide +kernel
theorem dX3_vector_10 : decode cX3_vector 10 = .ok (.iload_n 2, 1) := by decide +kernel
theorem dX3_vector_11 : decode cX3_vector 11 = .ok (.invokevirtual 34, 3) := by decide +kernel
theorem dX3_vector_14 : decode cX3_vector 14 = .ok (.ifCond .eq 7, 3) := by decide +kernel
theorem dX3_vector_17 : decode cX3_vector 17 = .ok (.iconst 0, 1) := by decide +kernel
theorem dX3_vector_18 : decode cX3_vector 18 = .ok (.goto 4, 3) := by decide +kernel
theorem dX3_vector_21 : decode cX3_vector 21 = .ok (.iconst 1, 1) := by decide +kernel
theorem dX3_vector_22 : decode cX3_vector 22 = .ok (.invokevirtual 38, 3) := by decide +kernel
theorem dX3_vector_25 : decode cX3_vector 25 = .ok (.ifCond .eq 7, 3) := by decide +kernel
theorem dX3_vector_28 : decode cX3_vector 28 = .ok (.iconst 0, 1) := by decide +kernel
theorem dX3_vector_29 : decode cX3_vector 29 = .ok (.goto 13, 3) := by decide +kernel
theorem dX3_vector_32 : decode cX3_vector 32 = .ok (.aload_n 0, 1) := by decide +kernel
theorem dX3_vector_33 : decode cX3_vector 33 = .ok (.getfield 14, 3) := by decide +kernel
theorem dX3_vector_36 : decode cX3_vector 36 = .ok (.iload_n 1, 1) := by decide +kernel
theorem dX3_vector_37 : decode cX3_vector 37 = .ok (.iload_n 2, 1) := by decide +kernel
theorem dX3_vector_38 : decode cX3_vector 38 = .ok (.invokestatic 48, 3) := by decide +kernel
theorem dX3_vector_41 : decode cX3_vector 41 = .ok (.iaload, 1) := by decide +kernel
theorem dX3_vector_42 : decode cX3_vector 42 = .ok (.ireturn, 1) := by decide +kernel
set_option maxRecDepth 20000 in
theorem ggX3_same_X3_isReplica : GoodIn wsX3_same wsX3_isReplica := goodIn_r _ [8, 9, 18, 19, 20, 21, 22, 23, 24, 25] (by decide +kernel) (by decide +kernel)
set_option maxRecDepth 20000 in
theorem gX3_same_X3_isReplica : GoodIn wsX3_same (wsV RX3 34 RX3 yX3_isReplica wsX3_isReplica) := goodIn_app (goodIn_of _ (by decide +kernel)) ggX3_same_X3_isReplica
set_option maxRecDepth 20000 in
theorem ggX3_same_X3_refuses : GoodIn wsX3_same wsX3_refuses := goodIn_r _ [13, 14, 18, 19, 20, 21, 22, 23, 24, 25] (by decide +kernel) (by decide +kernel)
set_option maxRecDepth 20000 in
theorem gX3_same_X3_refuses : GoodIn wsX3_same (wsV RX3 38 RX3 yX3_refuses wsX3_refuses) := goodIn_app (goodIn_of _ (by decide +kernel)) ggX3_same_X3_refuses
set_option maxRecDepth 20000 in
theorem ggX3_same_X3_dots : GoodIn wsX3_same wsX3_dots := goodIn_r _ [17] (by decide +kernel) (by decide +kernel)
set_option maxRecDepth 20000 in
theorem gX3_same_X3_dots : GoodIn wsX3_same (va_wsS RX3 44 yX3_dots wsX3_dots) := goodIn_app (goodIn_of _ (by decide +kernel)) ggX3_same_X3_dots
theorem dX3_same_0 : decode cX3_same 0 = .ok (.aload_n 0, 1) := by decide +kernel
theorem dX3_same_1 : decode cX3_same 1 = .ok (.aload_n 0, 1) := by decide +kernel
theorem dX3_same_2 : decode cX3_same 2 = .ok (.iload_n 1, 1) := by decide +kernel
theorem dX3_same_3 : decode cX3_same 3 = .ok (.invokevirtual 34, 3) := by decide +kernel
theorem dX3_same_6 : decode cX3_same 6 = .ok (.ifCond .eq 15, 3) := by decide +kernel
theorem dX3_same_9 : decode cX3_same 9 = .ok (.aload_n 0, 1) := by decide +kernel
theorem dX3_same_10 : decode cX3_same 10 = .ok (.iload_n 2, 1) := by decide +kernel
theorem dX3_same_11 : decode cX3_same 11 = .ok (.invokevirtual 34, 3) := by decide +kernel
theorem dX3_same_14 : decode cX3_same 14 = .ok (.ifCond .eq 7, 3) := by decide +kernel
theorem dX3_same_17 : decode cX3_same 17 = .ok (.iconst 0, 1) := by decide +kernel
theorem dX3_same_18 : decode cX3_same 18 = .ok (.goto 4, 3) := by decide +kernel
theorem dX3_same_21 : decode cX3_same 21 = .ok (.iconst 1, 1) := by decide +kernel
theorem dX3_same_22 : decode cX3_same 22 = .ok (.invokevirtual 38, 3) := by decide +kernel
theorem dX3_same_25 : decode cX3_same 25 = .ok (.ifCond .eq 5, 3) := by decide +kernel
theorem dX3_same_28 : decode cX3_same 28 = .ok (.iconst 0, 1) := by decide +kernel
theorem dX3_same_29 : decode cX3_same 29 = .ok (.ireturn, 1) := by decide +kernel
theorem dX3_same_30 : decode cX3_same 30 = .ok (.iconst 1, 1) := by decide +kernel
theorem dX3_same_31 : decode cX3_same 31 = .ok (.istore_n 3, 1) := by decide +kernel
theorem dX3_same_32 : decode cX3_same 32 = .ok (.iconst 0, 1) := by decide +kernel
theorem dX3_same_33 : decode cX3_same 33 = .ok (.istore 4, 2) := by decide +kernel
theorem dX3_same_35 : decode cX3_same 35 = .ok (.iload 4, 2) := by decide +kernel
theorem dX3_same_37 : decode cX3_same 37 = .ok (.sipush 414, 3) := by decide +kernel
theorem dX3_same_40 : decode cX3_same 40 = .ok (.if_icmp .ge 48, 3) := by decide +kernel
theorem dX3_same_43 : decode cX3_same 43 = .ok (.iload_n 3, 1) := by decide +kernel
theorem dX3_same_44 : decode cX3_same 44 = .ok (.ifCond .eq 36, 3) := by decide +kernel
theorem dX3_same_47 : decode cX3_same 47 = .ok (.aload_n 0, 1) := by decide +kernel
theorem dX3_same_48 : decode cX3_same 48 = .ok (.getfield 14, 3) := by decide +kernel
theorem dX3_same_51 : decode cX3_same 51 = .ok (.sipush 414, 3) := by decide +kernel
theorem dX3_same_54 : decode cX3_same 54 = .ok (.iload_n 1, 1) := by decide +kernel
theorem dX3_same_55 : decode cX3_same 55 = .ok (.imul, 1) := by decide +kernel
theorem dX3_same_56 : decode cX3_same 56 = .ok (.iload 4, 2) := by decide +kernel
theorem dX3_same_58 : decode cX3_same 58 = .ok (.iadd, 1) := by decide +kernel
theorem dX3_same_59 : decode cX3_same 59 = .ok (.iaload, 1) := by decide +kernel
theorem dX3_same_60 : decode cX3_same 60 = .ok (.aload_n 0, 1) := by decide +kernel
theorem dX3_same_61 : decode cX3_same 61 = .ok (.getfield 14, 3) := by decide +kernel
theorem dX3_same_64 : decode cX3_same 64 = .ok (.sipush 414, 3) := by decide +kernel
theorem dX3_same_67 : decode cX3_same 67 = .ok (.iload_n 2, 1) := by decide +kernel
theorem dX3_same_68 : decode cX3_same 68 = .ok (.imul, 1) := by decide +kernel
theorem dX3_same_69 : decode cX3_same 69 = .ok (.iload 4, 2) := by decide +kernel
theorem dX3_same_71 : decode cX3_same 71 = .ok (.iadd, 1) := by decide +kernel
theorem dX3_same_72 : decode cX3_same 72 = .ok (.iaload, 1) := by decide +kernel
theorem dX3_same_73 : decode cX3_same 73 = .ok (.if_icmp .ne 7, 3) := by decide +kernel
theorem dX3_same_76 : decode cX3_same 76 = .ok (.iconst 1, 1) := by decide +kernel
theorem dX3_same_77 : decode cX3_same 77 = .ok (.goto 4, 3) := by decide +kernel
theorem dX3_same_80 : decode cX3_same 80 = .ok (.iconst 0, 1) := by decide +kernel
theorem dX3_same_81 : decode cX3_same 81 = .ok (.istore_n 3, 1) := by decide +kernel
theorem dX3_same_82 : decode cX3_same 82 = .ok (.iinc 4 1, 3) := by decide +kernel
theorem dX3_same_85 : decode cX3_same 85 = .ok (.goto (-50), 3) := by decide +kernel
theorem dX3_same_88 : decode cX3_same 88 = .ok (.iconst 0, 1) := by decide +kernel
theorem dX3_same_89 : decode cX3_same 89 = .ok (.istore 4, 2) := by decide +kernel
theorem dX3_same_91 : decode cX3_same 91 = .ok (.iload 4, 2) := by decide +kernel
theorem dX3_same_93 : decode cX3_same 93 = .ok (.bipush 24, 2) := by decide +kernel
theorem dX3_same_95 : decode cX3_same 95 = .ok (.if_icmp .ge 75, 3) := by decide +kernel
theorem dX3_same_98 : decode cX3_same 98 = .ok (.aload_n 0, 1) := by decide +kernel
theorem dX3_same_99 : decode cX3_same 99 = .ok (.getfield 14, 3) := by decide +kernel
theorem dX3_same_102 : decode cX3_same 102 = .ok (.iload_n 1, 1) := by decide +kernel
theorem dX3_same_103 : decode cX3_same 103 = .ok (.bipush 64, 2) := by decide +kernel
theorem dX3_same_105 : decode cX3_same 105 = .ok (.invokestatic 44, 3) := by decide +kernel
theorem dX3_same_108 : decode cX3_same 108 = .ok (.iload 4, 2) := by decide +kernel
theorem dX3_same_110 : decode cX3_same 110 = .ok (.iadd, 1) := by decide +kernel
theorem dX3_same_111 : decode cX3_same 111 = .ok (.iaload, 1) := by decide +kernel
theorem dX3_same_112 : decode cX3_same 112 = .ok (.ifCond .le 7, 3) := by decide +kernel
theorem dX3_same_115 : decode cX3_same 115 = .ok (.iconst 1, 1) := by decide +kernel
theorem dX3_same_116 : decode cX3_same 116 = .ok (.goto 4, 3) := by decide +kernel
theorem dX3_same_119 : decode cX3_same 119 = .ok (.iconst 0, 1) := by decide +kernel
theorem dX3_same_120 : decode cX3_same 120 = .ok (.istore 5, 2) := by decide +kernel
theorem dX3_same_122 : decode cX3_same 122 = .ok (.iload_n 3, 1) := by decide +kernel
theorem dX3_same_123 : decode cX3_same 123 = .ok (.ifCond .eq 39, 3) := by decide +kernel
theorem dX3_same_126 : decode cX3_same 126 = .ok (.iload 5, 2) := by decide +kernel
theorem dX3_same_128 : decode cX3_same 128 = .ok (.ifCond .eq 30, 3) := by decide +kernel
theorem dX3_same_131 : decode cX3_same 131 = .ok (.aload_n 0, 1) := by decide +kernel
theorem dX3_same_132 : decode cX3_same 132 = .ok (.getfield 18, 3) := by decide +kernel
theorem dX3_same_135 : decode cX3_same 135 = .ok (.bipush 24, 2) := by decide +kernel
theorem dX3_same_137 : decode cX3_same 137 = .ok (.iload_n 1, 1) := by decide +kernel
theorem dX3_same_138 : decode cX3_same 138 = .ok (.imul, 1) := by decide +kernel
theorem dX3_same_139 : decode cX3_same 139 = .ok (.iload 4, 2) := by decide +kernel
theorem dX3_same_141 : decode cX3_same 141 = .ok (.iadd, 1) := by decide +kernel
theorem dX3_same_142 : decode cX3_same 142 = .ok (.iaload, 1) := by decide +kernel
theorem dX3_same_143 : decode cX3_same 143 = .ok (.aload_n 0, 1) := by decide +kernel
theorem dX3_same_144 : decode cX3_same 144 = .ok (.getfield 18, 3) := by decide +kernel
theorem dX3_same_147 : decode cX3_same 147 = .ok (.bipush 24, 2) := by decide +kernel
theorem dX3_same_149 : decode cX3_same 149 = .ok (.iload_n 2, 1) := by decide +kernel
theorem dX3_same_150 : decode cX3_same 150 = .ok (.imul, 1) := by decide +kernel
theorem dX3_same_151 : decode cX3_same 151 = .ok (.iload 4, 2) := by decide +kernel
theorem dX3_same_153 : decode cX3_same 153 = .ok (.iadd, 1) := by decide +kernel
theorem dX3_same_154 : decode cX3_same 154 = .ok (.iaload, 1) := by decide +kernel
theorem dX3_same_155 : decode cX3_same 155 = .ok (.if_icmp .ne 7, 3) := by decide +kernel
theorem dX3_same_158 : decode cX3_same 158 = .ok (.iconst 1, 1) := by decide +kernel
theorem dX3_same_159 : decode cX3_same 159 = .ok (.goto 4, 3) := by decide +kernel
theorem dX3_same_162 : decode cX3_same 162 = .ok (.iconst 0, 1) := by decide +kernel
theorem dX3_same_163 : decode cX3_same 163 = .ok (.istore_n 3, 1) := by decide +kernel
theorem dX3_same_164 : decode cX3_same 164 = .ok (.iinc 4 1, 3) := by decide +kernel
theorem dX3_same_167 : decode cX3_same 167 = .ok (.goto (-76), 3) := by decide +kernel
theorem dX3_same_170 : decode cX3_same 170 = .ok (.iconst 0, 1) := by decide +kernel
theorem dX3_same_171 : decode cX3_same 171 = .ok (.istore 4, 2) := by decide +kernel
theorem dX3_same_173 : decode cX3_same 173 = .ok (.iload 4, 2) := by decide +kernel
theorem dX3_same_175 : decode cX3_same 175 = .ok (.bipush 48, 2) := by decide +kernel
theorem dX3_same_177 : decode cX3_same 177 = .ok (.if_icmp .ge 47, 3) := by decide +kernel
theorem dX3_same_180 : decode cX3_same 180 = .ok (.iload_n 3, 1) := by decide +kernel
theorem dX3_same_181 : decode cX3_same 181 = .ok (.ifCond .eq 35, 3) := by decide +kernel
theorem dX3_same_184 : decode cX3_same 184 = .ok (.aload_n 0, 1) := by decide +kernel
theorem dX3_same_185 : decode cX3_same 185 = .ok (.getfield 21, 3) := by decide +kernel
theorem dX3_same_188 : decode cX3_same 188 = .ok (.bipush 48, 2) := by decide +kernel
theorem dX3_same_190 : decode cX3_same 190 = .ok (.iload_n 1, 1) := by decide +kernel
theorem dX3_same_191 : decode cX3_same 191 = .ok (.imul, 1) := by decide +kernel
theorem dX3_same_192 : decode cX3_same 192 = .ok (.iload 4, 2) := by decide +kernel
theorem dX3_same_194 : decode cX3_same 194 = .ok (.iadd, 1) := by decide +kernel
theorem dX3_same_195 : decode cX3_same 195 = .ok (.laload, 1) := by decide +kernel
theorem dX3_same_196 : decode cX3_same 196 = .ok (.aload_n 0, 1) := by decide +kernel
theorem dX3_same_197 : decode cX3_same 197 = .ok (.getfield 21, 3) := by decide +kernel
theorem dX3_same_200 : decode cX3_same 200 = .ok (.bipush 48, 2) := by decide +kernel
theorem dX3_same_202 : decode cX3_same 202 = .ok (.iload_n 2, 1) := by decide +kernel
theorem dX3_same_203 : decode cX3_same 203 = .ok (.imul, 1) := by decide +kernel
theorem dX3_same_204 : decode cX3_same 204 = .ok (.iload 4, 2) := by decide +kernel
theorem dX3_same_206 : decode cX3_same 206 = .ok (.iadd, 1) := by decide +kernel
theorem dX3_same_207 : decode cX3_same 207 = .ok (.laload, 1) := by decide +kernel
theorem dX3_same_208 : decode cX3_same 208 = .ok (.lcmp, 1) := by decide +kernel
theorem dX3_same_209 : decode cX3_same 209 = .ok (.ifCond .ne 7, 3) := by decide +kernel
theorem dX3_same_212 : decode cX3_same 212 = .ok (.iconst 1, 1) := by decide +kernel
theorem dX3_same_213 : decode cX3_same 213 = .ok (.goto 4, 3) := by decide +kernel
theorem dX3_same_216 : decode cX3_same 216 = .ok (.iconst 0, 1) := by decide +kernel
theorem dX3_same_217 : decode cX3_same 217 = .ok (.istore_n 3, 1) := by decide +kernel
theorem dX3_same_218 : decode cX3_same 218 = .ok (.iinc 4 1, 3) := by decide +kernel
theorem dX3_same_221 : decode cX3_same 221 = .ok (.goto (-48), 3) := by decide +kernel
theorem dX3_same_224 : decode cX3_same 224 = .ok (.iload_n 3, 1) := by decide +kernel
theorem dX3_same_225 : decode cX3_same 225 = .ok (.ireturn, 1) := by decide +kernel
set_option maxRecDepth 20000 in
theorem ggX3_message_X3_isMessage : GoodIn wsX3_message wsX3_isMessage := goodIn_r _ [11, 3, 19, 20, 21, 22, 23, 24, 25, 26] (by decide +kernel) (by decide +kernel)
set_option maxRecDepth 20000 in
theorem gX3_message_X3_isMessage : GoodIn wsX3_message (wsV RX3 75 RX3 yX3_isMessage wsX3_isMessage) := goodIn_app (goodIn_of _ (by decide +kernel)) ggX3_message_X3_isMessage
set_option maxRecDepth 20000 in
theorem ggX3_message_X3_refuses : GoodIn wsX3_message wsX3_refuses := goodIn_r _ [15, 1, 19, 20, 21, 22, 23, 24, 25, 26] (by decide +kernel) (by decide +kernel)
set_option maxRecDepth 20000 in
theorem gX3_message_X3_refuses : GoodIn wsX3_message (wsV RX3 38 RX3 yX3_refuses wsX3_refuses) := goodIn_app (goodIn_of _ (by decide +kernel)) ggX3_message_X3_refuses
set_option maxRecDepth 20000 in
theorem ggX3_message_X3_vectorAt : GoodIn wsX3_message wsX3_vectorAt := goodIn_r _ [18] (by decide +kernel) (by decide +kernel)
set_option maxRecDepth 20000 in
theorem gX3_message_X3_vectorAt : GoodIn wsX3_message (va_wsS RX3 48 yX3_vectorAt wsX3_vectorAt) := goodIn_app (goodIn_of _ (by decide +kernel)) ggX3_message_X3_vectorAt
theorem dX3_message_0 : decode cX3_message 0 = .ok (.iload_n 2, 1) := by decide +kernel
theorem dX3_message_1 : decode cX3_message 1 = .ok (.iconst (-1), 1) := by decide +kernel
theorem dX3_message_2 : decode cX3_message 2 = .ok (.if_icmp .eq 9, 3) := by decide +kernel
theorem dX3_message_5 : decode cX3_message 5 = .ok (.iload_n 2, 1) := by decide +kernel
theorem dX3_message_6 : decode cX3_message 6 = .ok (.bipush (-2), 2) := by decide +kernel
theorem dX3_message_8 : decode cX3_message 8 = .ok (.if_icmp .ne 25, 3) := by decide +kernel
theorem dX3_message_11 : decode cX3_message 11 = .ok (.aload_n 0, 1) := by decide +kernel
theorem dX3_message_12 : decode cX3_message 12 = .ok (.iconst 0, 1) := by decide +kernel
theorem dX3_message_13 : decode cX3_message 13 = .ok (.putfield 31, 3) := by decide +kernel
theorem dX3_message_16 : decode cX3_message 16 = .ok (.iload_n 2, 1) := by decide +kernel
theorem dX3_message_17 : decode cX3_message 17 = .ok (.iconst (-1), 1) := by decide +kernel
theorem dX3_message_18 : decode cX3_message 18 = .ok (.if_icmp .ne 10, 3) := by decide +kernel
theorem dX3_message_21 : decode cX3_message 21 = .ok (.aload_n 0, 1) := by decide +kernel
theorem dX3_message_22 : decode cX3_message 22 = .ok (.getfield 7, 3) := by decide +kernel
theorem dX3_message_25 : decode cX3_message 25 = .ok (.goto 7, 3) := by decide +kernel
theorem dX3_message_28 : decode cX3_message 28 = .ok (.aload_n 0, 1) := by decide +kernel
theorem dX3_message_29 : decode cX3_message 29 = .ok (.getfield 41, 3) := by decide +kernel
theorem dX3_message_32 : decode cX3_message 32 = .ok (.ireturn, 1) := by decide +kernel
theorem dX3_message_33 : decode cX3_message 33 = .ok (.aload_n 0, 1) := by decide +kernel
theorem dX3_message_34 : decode cX3_message 34 = .ok (.aload_n 0, 1) := by decide +kernel
theorem dX3_message_35 : decode cX3_message 35 = .ok (.iload_n 1, 1) := by decide +kernel
theorem dX3_message_36 : decode cX3_message 36 = .ok (.invokevirtual 75, 3) := by decide +kernel
theorem dX3_message_39 : decode cX3_message 39 = .ok (.ifCond .eq 21, 3) := by decide +kernel
theorem dX3_message_42 : decode cX3_message 42 = .ok (.iload_n 2, 1) := by decide +kernel
theorem dX3_message_43 : decode cX3_message 43 = .ok (.ifCond .lt 17, 3) := by decide +kernel
theorem dX3_message_46 : decode cX3_message 46 = .ok (.iload_n 2, 1) := by decide +kernel
theorem dX3_message_47 : decode cX3_message 47 = .ok (.aload_n 0, 1) := by decide +kernel
theorem dX3_message_48 : decode cX3_message 48 = .ok (.getfield 7, 3) := by decide +kernel
theorem dX3_message_51 : decode cX3_message 51 = .ok (.iconst 2, 1) := by decide +kernel
theorem dX3_message_52 : decode cX3_message 52 = .ok (.iadd, 1) := by decide +kernel
end
section
theorem dX3_message_53 : decode cX3_message 53 = .ok (.if_icmp .ge 7, 3) := by decide +kernel
theorem dX3_message_56 : decode cX3_message 56 = .ok (.iconst 0, 1) := by decide +kernel
theorem dX3_message_57 : decode cX3_message 57 = .ok (.goto 4, 3) := by decide +kernel
theorem dX3_message_60 : decode cX3_message 60 = .ok (.iconst 1, 1) := by decide +kernel
theorem dX3_message_61 : decode cX3_message 61 = .ok (.invokevirtual 38, 3) := by decide +kernel
theorem dX3_message_64 : decode cX3_message 64 = .ok (.ifCond .eq 5, 3) := by decide +kernel
theorem dX3_message_67 : decode cX3_message 67 = .ok (.iconst 0, 1) := by decide +kernel
theorem dX3_message_68 : decode cX3_message 68 = .ok (.ireturn, 1) := by decide +kernel
theorem dX3_message_69 : decode cX3_message 69 = .ok (.iload_n 2, 1) := by decide +kernel
theorem dX3_message_70 : decode cX3_message 70 = .ok (.ifCond .ne 12, 3) := by decide +kernel
theorem dX3_message_73 : decode cX3_message 73 = .ok (.aload_n 0, 1) := by decide +kernel
theorem dX3_message_74 : decode cX3_message 74 = .ok (.getfield 25, 3) := by decide +kernel
theorem dX3_message_77 : decode cX3_message 77 = .ok (.iload_n 1, 1) := by decide +kernel
theorem dX3_message_78 : decode cX3_message 78 = .ok (.iaload, 1) := by decide +kernel
theorem dX3_message_79 : decode cX3_message 79 = .ok (.goto 32, 3) := by decide +kernel
theorem dX3_message_82 : decode cX3_message 82 = .ok (.iload_n 2, 1) := by decide +kernel
theorem dX3_message_83 : decode cX3_message 83 = .ok (.iconst 1, 1) := by decide +kernel
theorem dX3_message_84 : decode cX3_message 84 = .ok (.if_icmp .ne 12, 3) := by decide +kernel
theorem dX3_message_87 : decode cX3_message 87 = .ok (.aload_n 0, 1) := by decide +kernel
theorem dX3_message_88 : decode cX3_message 88 = .ok (.getfield 28, 3) := by decide +kernel
theorem dX3_message_91 : decode cX3_message 91 = .ok (.iload_n 1, 1) := by decide +kernel
theorem dX3_message_92 : decode cX3_message 92 = .ok (.iaload, 1) := by decide +kernel
theorem dX3_message_93 : decode cX3_message 93 = .ok (.goto 18, 3) := by decide +kernel
theorem dX3_message_96 : decode cX3_message 96 = .ok (.aload_n 0, 1) := by decide +kernel
theorem dX3_message_97 : decode cX3_message 97 = .ok (.getfield 14, 3) := by decide +kernel
theorem dX3_message_100 : decode cX3_message 100 = .ok (.bipush 6, 2) := by decide +kernel
theorem dX3_message_102 : decode cX3_message 102 = .ok (.iload_n 1, 1) := by decide +kernel
theorem dX3_message_103 : decode cX3_message 103 = .ok (.iadd, 1) := by decide +kernel
theorem dX3_message_104 : decode cX3_message 104 = .ok (.iload_n 2, 1) := by decide +kernel
theorem dX3_message_105 : decode cX3_message 105 = .ok (.iconst 2, 1) := by decide +kernel
theorem dX3_message_106 : decode cX3_message 106 = .ok (.isub, 1) := by decide +kernel
theorem dX3_message_107 : decode cX3_message 107 = .ok (.invokestatic 48, 3) := by decide +kernel
theorem dX3_message_110 : decode cX3_message 110 = .ok (.iaload, 1) := by decide +kernel
theorem dX3_message_111 : decode cX3_message 111 = .ok (.ireturn, 1) := by decide +kernel
theorem dJ9_max_7cf53_0 : decode cJ9_max_7cf53 0 = .ok (.iload_n 0, 1) := by decide +kernel
theorem dJ9_max_7cf53_1 : decode cJ9_max_7cf53 1 = .ok (.iload_n 1, 1) := by decide +kernel
theorem dJ9_max_7cf53_2 : decode cJ9_max_7cf53 2 = .ok (.if_icmp .lt 7, 3) := by decide +kernel
theorem dJ9_max_7cf53_5 : decode cJ9_max_7cf53 5 = .ok (.iload_n 0, 1) := by decide +kernel
theorem dJ9_max_7cf53_6 : decode cJ9_max_7cf53 6 = .ok (.goto 4, 3) := by decide +kernel
theorem dJ9_max_7cf53_9 : decode cJ9_max_7cf53 9 = .ok (.iload_n 1, 1) := by decide +kernel
theorem dJ9_max_7cf53_10 : decode cJ9_max_7cf53 10 = .ok (.ireturn, 1) := by decide +kernel
theorem dJ9_max_f86c9_0 : decode cJ9_max_f86c9 0 = .ok (.lload_n 0, 1) := by decide +kernel
theorem dJ9_max_f86c9_1 : decode cJ9_max_f86c9 1 = .ok (.lload_n 2, 1) := by decide +kernel
theorem dJ9_max_f86c9_2 : decode cJ9_max_f86c9 2 = .ok (.lcmp, 1) := by decide +kernel
theorem dJ9_max_f86c9_3 : decode cJ9_max_f86c9 3 = .ok (.ifCond .lt 7, 3) := by decide +kernel
theorem dJ9_max_f86c9_6 : decode cJ9_max_f86c9 6 = .ok (.lload_n 0, 1) := by decide +kernel
theorem dJ9_max_f86c9_7 : decode cJ9_max_f86c9 7 = .ok (.goto 4, 3) := by decide +kernel
theorem dJ9_max_f86c9_10 : decode cJ9_max_f86c9 10 = .ok (.lload_n 2, 1) := by decide +kernel
theorem dJ9_max_f86c9_11 : decode cJ9_max_f86c9 11 = .ok (.lreturn, 1) := by decide +kernel
theorem dJ9_min_7cf53_0 : decode cJ9_min_7cf53 0 = .ok (.iload_n 0, 1) := by decide +kernel
theorem dJ9_min_7cf53_1 : decode cJ9_min_7cf53 1 = .ok (.iload_n 1, 1) := by decide +kernel
theorem dJ9_min_7cf53_2 : decode cJ9_min_7cf53 2 = .ok (.if_icmp .gt 7, 3) := by decide +kernel
theorem dJ9_min_7cf53_5 : decode cJ9_min_7cf53 5 = .ok (.iload_n 0, 1) := by decide +kernel
theorem dJ9_min_7cf53_6 : decode cJ9_min_7cf53 6 = .ok (.goto 4, 3) := by decide +kernel
theorem dJ9_min_7cf53_9 : decode cJ9_min_7cf53 9 = .ok (.iload_n 1, 1) := by decide +kernel
theorem dJ9_min_7cf53_10 : decode cJ9_min_7cf53 10 = .ok (.ireturn, 1) := by decide +kernel
theorem dJxa1e45_init_da8c8_0 : decode cJxa1e45_init_da8c8 0 = .ok (.aload_n 0, 1) := by decide +kernel
theorem dJxa1e45_init_da8c8_1 : decode cJxa1e45_init_da8c8 1 = .ok (.invokespecial 1, 3) := by decide +kernel
theorem dJxa1e45_init_da8c8_4 : decode cJxa1e45_init_da8c8 4 = .ok (.return_, 1) := by decide +kernel
set_option maxRecDepth 20000 in
theorem ggJxc12de_init_da8c8_Jxa1e45_init_da8c8 : GoodIn wsJxc12de_init_da8c8 wsJxa1e45_init_da8c8 := goodIn_r _ [5, 6, 7, 8] (by decide +kernel) (by decide +kernel)
set_option maxRecDepth 20000 in
theorem gJxc12de_init_da8c8_Jxa1e45_init_da8c8 : GoodIn wsJxc12de_init_da8c8 (wsJxa1e45_init_da8c8) := ggJxc12de_init_da8c8_Jxa1e45_init_da8c8
theorem dJxc12de_init_da8c8_0 : decode cJxc12de_init_da8c8 0 = .ok (.aload_n 0, 1) := by decide +kernel
theorem dJxc12de_init_da8c8_1 : decode cJxc12de_init_da8c8 1 = .ok (.invokespecial 1, 3) := by decide +kernel
theorem dJxc12de_init_da8c8_4 : decode cJxc12de_init_da8c8 4 = .ok (.aload_n 0, 1) := by decide +kernel
theorem dJxc12de_init_da8c8_5 : decode cJxc12de_init_da8c8 5 = .ok (.iconst 0, 1) := by decide +kernel
theorem dJxc12de_init_da8c8_6 : decode cJxc12de_init_da8c8 6 = .ok (.putfield 7, 3) := by decide +kernel
theorem dJxc12de_init_da8c8_9 : decode cJxc12de_init_da8c8 9 = .ok (.return_, 1) := by decide +kernel
set_option maxRecDepth 20000 in
theorem ggJx4a65c_init_da8c8_Jxc12de_init_da8c8 : GoodIn wsJx4a65c_init_da8c8 wsJxc12de_init_da8c8 := goodIn_r _ [6, 7, 8, 9, 10, 11, 12, 13, 14, 15, 16, 17] (by decide +kernel) (by decide +kernel)
set_option maxRecDepth 20000 in
theorem gJx4a65c_init_da8c8_Jxc12de_init_da8c8 : GoodIn wsJx4a65c_init_da8c8 (wsJxc12de_init_da8c8) := ggJx4a65c_init_da8c8_Jxc12de_init_da8c8
theorem dJx4a65c_init_da8c8_0 : decode cJx4a65c_init_da8c8 0 = .ok (.aload_n 0, 1) := by decide +kernel
theorem dJx4a65c_init_da8c8_1 : decode cJx4a65c_init_da8c8 1 = .ok (.invokespecial 1, 3) := by decide +kernel
theorem dJx4a65c_init_da8c8_4 : decode cJx4a65c_init_da8c8 4 = .ok (.aload_n 0, 1) := by decide +kernel
theorem dJx4a65c_init_da8c8_5 : decode cJx4a65c_init_da8c8 5 = .ok (.getstatic 39, 3) := by decide +kernel
theorem dJx4a65c_init_da8c8_8 : decode cJx4a65c_init_da8c8 8 = .ok (.putfield 9, 3) := by decide +kernel
theorem dJx4a65c_init_da8c8_11 : decode cJx4a65c_init_da8c8 11 = .ok (.return_, 1) := by decide +kernel
set_option maxRecDepth 20000 in
theorem ggJx4a65c_grow_92f84_J8_newLength_cabcc : GoodIn wsJx4a65c_grow_92f84 wsJ8_newLength_cabcc := goodIn_r _ [11, 12, 4, 5, 6, 13, 14, 15, 10, 16] (by decide +kernel) (by decide +kernel)
set_option maxRecDepth 20000 in
theorem gJx4a65c_grow_92f84_J8_newLength_cabcc : GoodIn wsJx4a65c_grow_92f84 (va_wsS RJx4a65c 73 yJ8_newLength_cabcc wsJ8_newLength_cabcc) := goodIn_app (goodIn_of _ (by decide +kernel)) ggJx4a65c_grow_92f84_J8_newLength_cabcc
set_option maxRecDepth 20000 in
theorem ggJx4a65c_grow_92f84_J7_copyOf_1904c : GoodIn wsJx4a65c_grow_92f84 wsJ7_copyOf_1904c := goodIn_r _ [20, 21, 22, 23, 24, 25, 26, 19, 27, 28, 29, 30, 31, 5, 32, 33, 34, 35, 36] (by decide +kernel) (by decide +kernel)
set_option maxRecDepth 20000 in
theorem gJx4a65c_grow_92f84_J7_copyOf_1904c : GoodIn wsJx4a65c_grow_92f84 (va_wsS RJx4a65c 66 yJ7_copyOf_1904c wsJ7_copyOf_1904c) := goodIn_app (goodIn_of _ (by decide +kernel)) ggJx4a65c_grow_92f84_J7_copyOf_1904c
theorem dJx4a65c_grow_92f84_0 : decode cJx4a65c_grow_92f84 0 = .ok (.aload_n 0, 1) := by decide +kernel
theorem dJx4a65c_grow_92f84_1 : decode cJx4a65c_grow_92f84 1 = .ok (.getfield 9, 3) := by decide +kernel
theorem dJx4a65c_grow_92f84_4 : decode cJx4a65c_grow_92f84 4 = .ok (.arraylength, 1) := by decide +kernel
theorem dJx4a65c_grow_92f84_5 : decode cJx4a65c_grow_92f84 5 = .ok (.istore_n 2, 1) := by decide +kernel
theorem dJx4a65c_grow_92f84_6 : decode cJx4a65c_grow_92f84 6 = .ok (.iload_n 2, 1) := by decide +kernel
theorem dJx4a65c_grow_92f84_7 : decode cJx4a65c_grow_92f84 7 = .ok (.ifCond .gt 13, 3) := by decide +kernel
theorem dJx4a65c_grow_92f84_10 : decode cJx4a65c_grow_92f84 10 = .ok (.aload_n 0, 1) := by decide +kernel
theorem dJx4a65c_grow_92f84_11 : decode cJx4a65c_grow_92f84 11 = .ok (.getfield 9, 3) := by decide +kernel
theorem dJx4a65c_grow_92f84_14 : decode cJx4a65c_grow_92f84 14 = .ok (.getstatic 39, 3) := by decide +kernel
theorem dJx4a65c_grow_92f84_17 : decode cJx4a65c_grow_92f84 17 = .ok (.if_acmp .eq 28, 3) := by decide +kernel
theorem dJx4a65c_grow_92f84_20 : decode cJx4a65c_grow_92f84 20 = .ok (.iload_n 2, 1) := by decide +kernel
theorem dJx4a65c_grow_92f84_21 : decode cJx4a65c_grow_92f84 21 = .ok (.iload_n 1, 1) := by decide +kernel
theorem dJx4a65c_grow_92f84_22 : decode cJx4a65c_grow_92f84 22 = .ok (.iload_n 2, 1) := by decide +kernel
theorem dJx4a65c_grow_92f84_23 : decode cJx4a65c_grow_92f84 23 = .ok (.isub, 1) := by decide +kernel
theorem dJx4a65c_grow_92f84_24 : decode cJx4a65c_grow_92f84 24 = .ok (.iload_n 2, 1) := by decide +kernel
theorem dJx4a65c_grow_92f84_25 : decode cJx4a65c_grow_92f84 25 = .ok (.iconst 1, 1) := by decide +kernel
theorem dJx4a65c_grow_92f84_26 : decode cJx4a65c_grow_92f84 26 = .ok (.ishr, 1) := by decide +kernel
theorem dJx4a65c_grow_92f84_27 : decode cJx4a65c_grow_92f84 27 = .ok (.invokestatic 73, 3) := by decide +kernel
theorem dJx4a65c_grow_92f84_30 : decode cJx4a65c_grow_92f84 30 = .ok (.istore_n 3, 1) := by decide +kernel
theorem dJx4a65c_grow_92f84_31 : decode cJx4a65c_grow_92f84 31 = .ok (.aload_n 0, 1) := by decide +kernel
theorem dJx4a65c_grow_92f84_32 : decode cJx4a65c_grow_92f84 32 = .ok (.aload_n 0, 1) := by decide +kernel
theorem dJx4a65c_grow_92f84_33 : decode cJx4a65c_grow_92f84 33 = .ok (.getfield 9, 3) := by decide +kernel
theorem dJx4a65c_grow_92f84_36 : decode cJx4a65c_grow_92f84 36 = .ok (.iload_n 3, 1) := by decide +kernel
theorem dJx4a65c_grow_92f84_37 : decode cJx4a65c_grow_92f84 37 = .ok (.invokestatic 66, 3) := by decide +kernel
theorem dJx4a65c_grow_92f84_40 : decode cJx4a65c_grow_92f84 40 = .ok (.dup_x1, 1) := by decide +kernel
theorem dJx4a65c_grow_92f84_41 : decode cJx4a65c_grow_92f84 41 = .ok (.putfield 9, 3) := by decide +kernel
theorem dJx4a65c_grow_92f84_44 : decode cJx4a65c_grow_92f84 44 = .ok (.areturn, 1) := by decide +kernel
theorem dJx4a65c_grow_92f84_45 : decode cJx4a65c_grow_92f84 45 = .ok (.aload_n 0, 1) := by decide +kernel
theorem dJx4a65c_grow_92f84_46 : decode cJx4a65c_grow_92f84 46 = .ok (.bipush 10, 2) := by decide +kernel
theorem dJx4a65c_grow_92f84_48 : decode cJx4a65c_grow_92f84 48 = .ok (.iload_n 1, 1) := by decide +kernel
theorem dJx4a65c_grow_92f84_49 : decode cJx4a65c_grow_92f84 49 = .ok (.invokestatic 79, 3) := by decide +kernel
theorem dJx4a65c_grow_92f84_52 : decode cJx4a65c_grow_92f84 52 = .ok (.anewarray 7, 3) := by decide +kernel
theorem dJx4a65c_grow_92f84_55 : decode cJx4a65c_grow_92f84 55 = .ok (.dup_x1, 1) := by decide +kernel
theorem dJx4a65c_grow_92f84_56 : decode cJx4a65c_grow_92f84 56 = .ok (.putfield 9, 3) := by decide +kernel
theorem dJx4a65c_grow_92f84_59 : decode cJx4a65c_grow_92f84 59 = .ok (.areturn, 1) := by decide +kernel
set_option maxRecDepth 20000 in
theorem ggJx4a65c_grow_d5877_Jx4a65c_grow_92f84 : GoodIn wsJx4a65c_grow_d5877 wsJx4a65c_grow_92f84 := goodIn_r _ [6, 7, 8, 9, 10, 11, 12, 13, 14, 15, 16, 17, 18, 19, 20, 21, 22, 23, 24, 25, 26, 27, 28, 29, 30, 31, 32, 33, 34, 35, 36, 37, 38, 39, 40, 41, 42, 43, 44, 45] (by decide +kernel) (by decide +kernel)
set_option maxRecDepth 20000 in
theorem gJx4a65c_grow_d5877_Jx4a65c_grow_92f84 : GoodIn wsJx4a65c_grow_d5877 (wsV RJx4a65c 69 RJx4a65c yJx4a65c_grow_92f84 wsJx4a65c_grow_92f84) := goodIn_app (goodIn_of _ (by decide +kernel)) ggJx4a65c_grow_d5877_Jx4a65c_grow_92f84
theorem dJx4a65c_grow_d5877_0 : decode cJx4a65c_grow_d5877 0 = .ok (.aload_n 0, 1) := by decide +kernel
theorem dJx4a65c_grow_d5877_1 : decode cJx4a65c_grow_d5877 1 = .ok (.aload_n 0, 1) := by decide +kernel
theorem dJx4a65c_grow_d5877_2 : decode cJx4a65c_grow_d5877 2 = .ok (.getfield 48, 3) := by decide +kernel
theorem dJx4a65c_grow_d5877_5 : decode cJx4a65c_grow_d5877 5 = .ok (.iconst 1, 1) := by decide +kernel
theorem dJx4a65c_grow_d5877_6 : decode cJx4a65c_grow_d5877 6 = .ok (.iadd, 1) := by decide +kernel
theorem dJx4a65c_grow_d5877_7 : decode cJx4a65c_grow_d5877 7 = .ok (.invokevirtual 69, 3) := by decide +kernel
theorem dJx4a65c_grow_d5877_10 : decode cJx4a65c_grow_d5877 10 = .ok (.areturn, 1) := by decide +kernel
theorem dJx4a65c_size_8abf5_0 : decode cJx4a65c_size_8abf5 0 = .ok (.aload_n 0, 1) := by decide +kernel
theorem dJx4a65c_size_8abf5_1 : decode cJx4a65c_size_8abf5 1 = .ok (.getfield 48, 3) := by decide +kernel
theorem dJx4a65c_size_8abf5_4 : decode cJx4a65c_size_8abf5 4 = .ok (.ireturn, 1) := by decide +kernel
theorem dJx4a65c_elementData_915e3_0 : decode cJx4a65c_elementData_915e3 0 = .ok (.aload_n 0, 1) := by decide +kernel
theorem dJx4a65c_elementData_915e3_1 : decode cJx4a65c_elementData_915e3 1 = .ok (.getfield 9, 3) := by decide +kernel
theorem dJx4a65c_elementData_915e3_4 : decode cJx4a65c_elementData_915e3 4 = .ok (.iload_n 1, 1) := by decide +kernel
theorem dJx4a65c_elementData_915e3_5 : decode cJx4a65c_elementData_915e3 5 = .ok (.aaload, 1) := by decide +kernel
theorem dJx4a65c_elementData_915e3_6 : decode cJx4a65c_elementData_915e3 6 = .ok (.areturn, 1) := by decide +kernel
set_option maxRecDepth 20000 in
theorem ggJx4a65c_get_915e3_J15_checkIndex_7cf53 : GoodIn wsJx4a65c_get_915e3 wsJ15_checkIndex_7cf53 := goodIn_r _ [5, 6, 7, 8, 9] (by decide +kernel) (by decide +kernel)
set_option maxRecDepth 20000 in
theorem gJx4a65c_get_915e3_J15_checkIndex_7cf53 : GoodIn wsJx4a65c_get_915e3 (va_wsS RJx4a65c 118 yJ15_checkIndex_7cf53 wsJ15_checkIndex_7cf53) := goodIn_app (goodIn_of _ (by decide +kernel)) ggJx4a65c_get_915e3_J15_checkIndex_7cf53
set_option maxRecDepth 20000 in
theorem ggJx4a65c_get_915e3_Jx4a65c_elementData_915e3 : GoodIn wsJx4a65c_get_915e3 wsJx4a65c_elementData_915e3 := goodIn_r _ [14, 15, 16, 17, 18] (by decide +kernel) (by decide +kernel)
set_option maxRecDepth 20000 in
theorem gJx4a65c_get_915e3_Jx4a65c_elementData_915e3 : GoodIn wsJx4a65c_get_915e3 (wsV RJx4a65c 123 RJx4a65c yJx4a65c_elementData_915e3 wsJx4a65c_elementData_915e3) := goodIn_app (goodIn_of _ (by decide +kernel)) ggJx4a65c_get_915e3_Jx4a65c_elementData_915e3
theorem dJx4a65c_get_915e3_0 : decode cJx4a65c_get_915e3 0 = .ok (.iload_n 1, 1) := by decide +kernel
theorem dJx4a65c_get_915e3_1 : decode cJx4a65c_get_915e3 1 = .ok (.aload_n 0, 1) := by decide +kernel
theorem dJx4a65c_get_915e3_2 : decode cJx4a65c_get_915e3 2 = .ok (.getfield 48, 3) := by decide +kernel
theorem dJx4a65c_get_915e3_5 : decode cJx4a65c_get_915e3 5 = .ok (.invokestatic 118, 3) := by decide +kernel
theorem dJx4a65c_get_915e3_8 : decode cJx4a65c_get_915e3 8 = .ok (.pop, 1) := by decide +kernel
theorem dJx4a65c_get_915e3_9 : decode cJx4a65c_get_915e3 9 = .ok (.aload_n 0, 1) := by decide +kernel
theorem dJx4a65c_get_915e3_10 : decode cJx4a65c_get_915e3 10 = .ok (.iload_n 1, 1) := by decide +kernel
theorem dJx4a65c_get_915e3_11 : decode cJx4a65c_get_915e3 11 = .ok (.invokevirtual 123, 3) := by decide +kernel
theorem dJx4a65c_get_915e3_14 : decode cJx4a65c_get_915e3 14 = .ok (.areturn, 1) := by decide +kernel
set_option maxRecDepth 20000 in
theorem ggJx4a65c_add_72be8_Jx4a65c_grow_d5877 : GoodIn wsJx4a65c_add_72be8 wsJx4a65c_grow_d5877 := goodIn_r _ [6, 1, 7, 8, 9, 5, 10, 11, 12, 13, 14, 15, 16, 17, 18, 19, 20, 21, 22, 23, 24, 25, 26, 27, 28, 29, 30, 31, 32, 33, 34, 35, 36, 37, 38, 39, 40, 41, 42, 43, 44, 45, 46, 47, 48, 49] (by decide +kernel) (by decide +kernel)
set_option maxRecDepth 20000 in
theorem gJx4a65c_add_72be8_Jx4a65c_grow_d5877 : GoodIn wsJx4a65c_add_72be8 (wsV RJx4a65c 129 RJx4a65c yJx4a65c_grow_d5877 wsJx4a65c_grow_d5877) := goodIn_app (goodIn_of _ (by decide +kernel)) ggJx4a65c_add_72be8_Jx4a65c_grow_d5877
theorem dJx4a65c_add_72be8_0 : decode cJx4a65c_add_72be8 0 = .ok (.iload_n 3, 1) := by decide +kernel
theorem dJx4a65c_add_72be8_1 : decode cJx4a65c_add_72be8 1 = .ok (.aload_n 2, 1) := by decide +kernel
theorem dJx4a65c_add_72be8_2 : decode cJx4a65c_add_72be8 2 = .ok (.arraylength, 1) := by decide +kernel
theorem dJx4a65c_add_72be8_3 : decode cJx4a65c_add_72be8 3 = .ok (.if_icmp .ne 8, 3) := by decide +kernel
theorem dJx4a65c_add_72be8_6 : decode cJx4a65c_add_72be8 6 = .ok (.aload_n 0, 1) := by decide +kernel
theorem dJx4a65c_add_72be8_7 : decode cJx4a65c_add_72be8 7 = .ok (.invokevirtual 129, 3) := by decide +kernel
theorem dJx4a65c_add_72be8_10 : decode cJx4a65c_add_72be8 10 = .ok (.astore_n 2, 1) := by decide +kernel
theorem dJx4a65c_add_72be8_11 : decode cJx4a65c_add_72be8 11 = .ok (.aload_n 2, 1) := by decide +kernel
theorem dJx4a65c_add_72be8_12 : decode cJx4a65c_add_72be8 12 = .ok (.iload_n 3, 1) := by decide +kernel
theorem dJx4a65c_add_72be8_13 : decode cJx4a65c_add_72be8 13 = .ok (.aload_n 1, 1) := by decide +kernel
theorem dJx4a65c_add_72be8_14 : decode cJx4a65c_add_72be8 14 = .ok (.aastore, 1) := by decide +kernel
theorem dJx4a65c_add_72be8_15 : decode cJx4a65c_add_72be8 15 = .ok (.aload_n 0, 1) := by decide +kernel
theorem dJx4a65c_add_72be8_16 : decode cJx4a65c_add_72be8 16 = .ok (.iload_n 3, 1) := by decide +kernel
theorem dJx4a65c_add_72be8_17 : decode cJx4a65c_add_72be8 17 = .ok (.iconst 1, 1) := by decide +kernel
theorem dJx4a65c_add_72be8_18 : decode cJx4a65c_add_72be8 18 = .ok (.iadd, 1) := by decide +kernel
theorem dJx4a65c_add_72be8_19 : decode cJx4a65c_add_72be8 19 = .ok (.putfield 48, 3) := by decide +kernel
theorem dJx4a65c_add_72be8_22 : decode cJx4a65c_add_72be8 22 = .ok (.return_, 1) := by decide +kernel
set_option maxRecDepth 20000 in
theorem ggJx4a65c_add_9ea2d_Jx4a65c_add_72be8 : GoodIn wsJx4a65c_add_9ea2d wsJx4a65c_add_72be8 := goodIn_r _ [9, 4, 10, 11, 12, 8, 13, 14, 15, 16, 17, 3, 18, 19, 20, 21, 22, 23, 24, 25, 26, 27, 28, 29, 30, 31, 32, 33, 34, 35, 36, 37, 38, 39, 40, 41, 42, 43, 44, 45, 46, 47, 48, 49, 50, 51, 52, 53, 54, 55] (by decide +kernel) (by decide +kernel)
set_option maxRecDepth 20000 in
theorem gJx4a65c_add_9ea2d_Jx4a65c_add_72be8 : GoodIn wsJx4a65c_add_9ea2d (wsV RJx4a65c 131 RJx4a65c yJx4a65c_add_72be8 wsJx4a65c_add_72be8) := goodIn_app (goodIn_of _ (by decide +kernel)) ggJx4a65c_add_9ea2d_Jx4a65c_add_72be8
theorem dJx4a65c_add_9ea2d_0 : decode cJx4a65c_add_9ea2d 0 = .ok (.aload_n 0, 1) := by decide +kernel
theorem dJx4a65c_add_9ea2d_1 : decode cJx4a65c_add_9ea2d 1 = .ok (.dup, 1) := by decide +kernel
theorem dJx4a65c_add_9ea2d_2 : decode cJx4a65c_add_9ea2d 2 = .ok (.getfield 63, 3) := by decide +kernel
theorem dJx4a65c_add_9ea2d_5 : decode cJx4a65c_add_9ea2d 5 = .ok (.iconst 1, 1) := by decide +kernel
theorem dJx4a65c_add_9ea2d_6 : decode cJx4a65c_add_9ea2d 6 = .ok (.iadd, 1) := by decide +kernel
theorem dJx4a65c_add_9ea2d_7 : decode cJx4a65c_add_9ea2d 7 = .ok (.putfield 63, 3) := by decide +kernel
theorem dJx4a65c_add_9ea2d_10 : decode cJx4a65c_add_9ea2d 10 = .ok (.aload_n 0, 1) := by decide +kernel
theorem dJx4a65c_add_9ea2d_11 : decode cJx4a65c_add_9ea2d 11 = .ok (.aload_n 1, 1) := by decide +kernel
theorem dJx4a65c_add_9ea2d_12 : decode cJx4a65c_add_9ea2d 12 = .ok (.aload_n 0, 1) := by decide +kernel
theorem dJx4a65c_add_9ea2d_13 : decode cJx4a65c_add_9ea2d 13 = .ok (.getfield 9, 3) := by decide +kernel
theorem dJx4a65c_add_9ea2d_16 : decode cJx4a65c_add_9ea2d 16 = .ok (.aload_n 0, 1) := by decide +kernel
theorem dJx4a65c_add_9ea2d_17 : decode cJx4a65c_add_9ea2d 17 = .ok (.getfield 48, 3) := by decide +kernel
theorem dJx4a65c_add_9ea2d_20 : decode cJx4a65c_add_9ea2d 20 = .ok (.invokevirtual 131, 3) := by decide +kernel
theorem dJx4a65c_add_9ea2d_23 : decode cJx4a65c_add_9ea2d 23 = .ok (.iconst 1, 1) := by decide +kernel
theorem dJx4a65c_add_9ea2d_24 : decode cJx4a65c_add_9ea2d 24 = .ok (.ireturn, 1) := by decide +kernel
set_option maxRecDepth 20000 in
theorem ggJx4a65c_remove_915e3_J15_checkIndex_7cf53 : GoodIn wsJx4a65c_remove_915e3 wsJ15_checkIndex_7cf53 := goodIn_r _ [6, 7, 8, 9, 10] (by decide +kernel) (by decide +kernel)
set_option maxRecDepth 20000 in
theorem gJx4a65c_remove_915e3_J15_checkIndex_7cf53 : GoodIn wsJx4a65c_remove_915e3 (va_wsS RJx4a65c 118 yJ15_checkIndex_7cf53 wsJ15_checkIndex_7cf53) := goodIn_app (goodIn_of _ (by decide +kernel)) ggJx4a65c_remove_915e3_J15_checkIndex_7cf53
set_option maxRecDepth 20000 in
theorem ggJx4a65c_remove_915e3_Jx4a65c_fastRemove_b59b0 : GoodIn wsJx4a65c_remove_915e3 wsJx4a65c_fastRemove_b59b0 := goodIn_r _ [15, 16, 17, 1, 18, 19, 20, 21, 22, 23, 24] (by decide +kernel) (by decide +kernel)
set_option maxRecDepth 20000 in
theorem gJx4a65c_remove_915e3_Jx4a65c_fastRemove_b59b0 : GoodIn wsJx4a65c_remove_915e3 (wsV RJx4a65c 144 RJx4a65c yJx4a65c_fastRemove_b59b0 wsJx4a65c_fastRemove_b59b0) := goodIn_app (goodIn_of _ (by decide +kernel)) ggJx4a65c_remove_915e3_Jx4a65c_fastRemove_b59b0
theorem dJx4a65c_remove_915e3_0 : decode cJx4a65c_remove_915e3 0 = .ok (.iload_n 1, 1) := by decide +kernel
theorem dJx4a65c_remove_915e3_1 : decode cJx4a65c_remove_915e3 1 = .ok (.aload_n 0, 1) := by decide +kernel
theorem dJx4a65c_remove_915e3_2 : decode cJx4a65c_remove_915e3 2 = .ok (.getfield 48, 3) := by decide +kernel
theorem dJx4a65c_remove_915e3_5 : decode cJx4a65c_remove_915e3 5 = .ok (.invokestatic 118, 3) := by decide +kernel
theorem dJx4a65c_remove_915e3_8 : decode cJx4a65c_remove_915e3 8 = .ok (.pop, 1) := by decide +kernel
theorem dJx4a65c_remove_915e3_9 : decode cJx4a65c_remove_915e3 9 = .ok (.aload_n 0, 1) := by decide +kernel
theorem dJx4a65c_remove_915e3_10 : decode cJx4a65c_remove_915e3 10 = .ok (.getfield 9, 3) := by decide +kernel
theorem dJx4a65c_remove_915e3_13 : decode cJx4a65c_remove_915e3 13 = .ok (.astore_n 2, 1) := by decide +kernel
theorem dJx4a65c_remove_915e3_14 : decode cJx4a65c_remove_915e3 14 = .ok (.aload_n 2, 1) := by decide +kernel
theorem dJx4a65c_remove_915e3_15 : decode cJx4a65c_remove_915e3 15 = .ok (.iload_n 1, 1) := by decide +kernel
theorem dJx4a65c_remove_915e3_16 : decode cJx4a65c_remove_915e3 16 = .ok (.aaload, 1) := by decide +kernel
theorem dJx4a65c_remove_915e3_17 : decode cJx4a65c_remove_915e3 17 = .ok (.astore_n 3, 1) := by decide +kernel
theorem dJx4a65c_remove_915e3_18 : decode cJx4a65c_remove_915e3 18 = .ok (.aload_n 0, 1) := by decide +kernel
theorem dJx4a65c_remove_915e3_19 : decode cJx4a65c_remove_915e3 19 = .ok (.aload_n 2, 1) := by decide +kernel
theorem dJx4a65c_remove_915e3_20 : decode cJx4a65c_remove_915e3 20 = .ok (.iload_n 1, 1) := by decide +kernel
theorem dJx4a65c_remove_915e3_21 : decode cJx4a65c_remove_915e3 21 = .ok (.invokevirtual 144, 3) := by decide +kernel
theorem dJx4a65c_remove_915e3_24 : decode cJx4a65c_remove_915e3 24 = .ok (.aload_n 3, 1) := by decide +kernel
theorem dJx4a65c_remove_915e3_25 : decode cJx4a65c_remove_915e3 25 = .ok (.areturn, 1) := by decide +kernel
theorem dJx4a65c_fastRemove_b59b0_0 : decode cJx4a65c_fastRemove_b59b0 0 = .ok (.aload_n 0, 1) := by decide +kernel
theorem dJx4a65c_fastRemove_b59b0_1 : decode cJx4a65c_fastRemove_b59b0 1 = .ok (.dup, 1) := by decide +kernel
theorem dJx4a65c_fastRemove_b59b0_2 : decode cJx4a65c_fastRemove_b59b0 2 = .ok (.getfield 63, 3) := by decide +kernel
theorem dJx4a65c_fastRemove_b59b0_5 : decode cJx4a65c_fastRemove_b59b0 5 = .ok (.iconst 1, 1) := by decide +kernel
theorem dJx4a65c_fastRemove_b59b0_6 : decode cJx4a65c_fastRemove_b59b0 6 = .ok (.iadd, 1) := by decide +kernel
theorem dJx4a65c_fastRemove_b59b0_7 : decode cJx4a65c_fastRemove_b59b0 7 = .ok (.putfield 63, 3) := by decide +kernel
theorem dJx4a65c_fastRemove_b59b0_10 : decode cJx4a65c_fastRemove_b59b0 10 = .ok (.aload_n 0, 1) := by decide +kernel
theorem dJx4a65c_fastRemove_b59b0_11 : decode cJx4a65c_fastRemove_b59b0 11 = .ok (.getfield 48, 3) := by decide +kernel
theorem dJx4a65c_fastRemove_b59b0_14 : decode cJx4a65c_fastRemove_b59b0 14 = .ok (.iconst 1, 1) := by decide +kernel
theorem dJx4a65c_fastRemove_b59b0_15 : decode cJx4a65c_fastRemove_b59b0 15 = .ok (.isub, 1) := by decide +kernel
theorem dJx4a65c_fastRemove_b59b0_16 : decode cJx4a65c_fastRemove_b59b0 16 = .ok (.dup, 1) := by decide +kernel
theorem dJx4a65c_fastRemove_b59b0_17 : decode cJx4a65c_fastRemove_b59b0 17 = .ok (.istore_n 3, 1) := by decide +kernel
theorem dJx4a65c_fastRemove_b59b0_18 : decode cJx4a65c_fastRemove_b59b0 18 = .ok (.iload_n 2, 1) := by decide +kernel
theorem dJx4a65c_fastRemove_b59b0_19 : decode cJx4a65c_fastRemove_b59b0 19 = .ok (.if_icmp .le 15, 3) := by decide +kernel
theorem dJx4a65c_fastRemove_b59b0_22 : decode cJx4a65c_fastRemove_b59b0 22 = .ok (.aload_n 1, 1) := by decide +kernel
theorem dJx4a65c_fastRemove_b59b0_23 : decode cJx4a65c_fastRemove_b59b0 23 = .ok (.iload_n 2, 1) := by decide +kernel
theorem dJx4a65c_fastRemove_b59b0_24 : decode cJx4a65c_fastRemove_b59b0 24 = .ok (.iconst 1, 1) := by decide +kernel
theorem dJx4a65c_fastRemove_b59b0_25 : decode cJx4a65c_fastRemove_b59b0 25 = .ok (.iadd, 1) := by decide +kernel
theorem dJx4a65c_fastRemove_b59b0_26 : decode cJx4a65c_fastRemove_b59b0 26 = .ok (.aload_n 1, 1) := by decide +kernel
theorem dJx4a65c_fastRemove_b59b0_27 : decode cJx4a65c_fastRemove_b59b0 27 = .ok (.iload_n 2, 1) := by decide +kernel
theorem dJx4a65c_fastRemove_b59b0_28 : decode cJx4a65c_fastRemove_b59b0 28 = .ok (.iload_n 3, 1) := by decide +kernel
theorem dJx4a65c_fastRemove_b59b0_29 : decode cJx4a65c_fastRemove_b59b0 29 = .ok (.iload_n 2, 1) := by decide +kernel
theorem dJx4a65c_fastRemove_b59b0_30 : decode cJx4a65c_fastRemove_b59b0 30 = .ok (.isub, 1) := by decide +kernel
theorem dJx4a65c_fastRemove_b59b0_31 : decode cJx4a65c_fastRemove_b59b0 31 = .ok (.invokestatic 112, 3) := by decide +kernel
theorem dJx4a65c_fastRemove_b59b0_34 : decode cJx4a65c_fastRemove_b59b0 34 = .ok (.aload_n 1, 1) := by decide +kernel
theorem dJx4a65c_fastRemove_b59b0_35 : decode cJx4a65c_fastRemove_b59b0 35 = .ok (.aload_n 0, 1) := by decide +kernel
theorem dJx4a65c_fastRemove_b59b0_36 : decode cJx4a65c_fastRemove_b59b0 36 = .ok (.iload_n 3, 1) := by decide +kernel
theorem dJx4a65c_fastRemove_b59b0_37 : decode cJx4a65c_fastRemove_b59b0 37 = .ok (.dup_x1, 1) := by decide +kernel
theorem dJx4a65c_fastRemove_b59b0_38 : decode cJx4a65c_fastRemove_b59b0 38 = .ok (.putfield 48, 3) := by decide +kernel
theorem dJx4a65c_fastRemove_b59b0_41 : decode cJx4a65c_fastRemove_b59b0 41 = .ok (.aconst_null, 1) := by decide +kernel
theorem dJx4a65c_fastRemove_b59b0_42 : decode cJx4a65c_fastRemove_b59b0 42 = .ok (.aastore, 1) := by decide +kernel
theorem dJx4a65c_fastRemove_b59b0_43 : decode cJx4a65c_fastRemove_b59b0 43 = .ok (.return_, 1) := by decide +kernel
theorem dJx4a65c_clear_da8c8_0 : decode cJx4a65c_clear_da8c8 0 = .ok (.aload_n 0, 1) := by decide +kernel
theorem dJx4a65c_clear_da8c8_1 : decode cJx4a65c_clear_da8c8 1 = .ok (.dup, 1) := by decide +kernel
theorem dJx4a65c_clear_da8c8_2 : decode cJx4a65c_clear_da8c8 2 = .ok (.getfield 63, 3) := by decide +kernel
theorem dJx4a65c_clear_da8c8_5 : decode cJx4a65c_clear_da8c8 5 = .ok (.iconst 1, 1) := by decide +kernel
theorem dJx4a65c_clear_da8c8_6 : decode cJx4a65c_clear_da8c8 6 = .ok (.iadd, 1) := by decide +kernel
theorem dJx4a65c_clear_da8c8_7 : decode cJx4a65c_clear_da8c8 7 = .ok (.putfield 63, 3) := by decide +kernel
theorem dJx4a65c_clear_da8c8_10 : decode cJx4a65c_clear_da8c8 10 = .ok (.aload_n 0, 1) := by decide +kernel
theorem dJx4a65c_clear_da8c8_11 : decode cJx4a65c_clear_da8c8 11 = .ok (.getfield 9, 3) := by decide +kernel
theorem dJx4a65c_clear_da8c8_14 : decode cJx4a65c_clear_da8c8 14 = .ok (.astore_n 1, 1) := by decide +kernel
theorem dJx4a65c_clear_da8c8_15 : decode cJx4a65c_clear_da8c8 15 = .ok (.aload_n 0, 1) := by decide +kernel
theorem dJx4a65c_clear_da8c8_16 : decode cJx4a65c_clear_da8c8 16 = .ok (.getfield 48, 3) := by decide +kernel
theorem dJx4a65c_clear_da8c8_19 : decode cJx4a65c_clear_da8c8 19 = .ok (.istore_n 2, 1) := by decide +kernel
theorem dJx4a65c_clear_da8c8_20 : decode cJx4a65c_clear_da8c8 20 = .ok (.aload_n 0, 1) := by decide +kernel
theorem dJx4a65c_clear_da8c8_21 : decode cJx4a65c_clear_da8c8 21 = .ok (.iconst 0, 1) := by decide +kernel
theorem dJx4a65c_clear_da8c8_22 : decode cJx4a65c_clear_da8c8 22 = .ok (.dup_x1, 1) := by decide +kernel
theorem dJx4a65c_clear_da8c8_23 : decode cJx4a65c_clear_da8c8 23 = .ok (.putfield 48, 3) := by decide +kernel
theorem dJx4a65c_clear_da8c8_26 : decode cJx4a65c_clear_da8c8 26 = .ok (.istore_n 3, 1) := by decide +kernel
theorem dJx4a65c_clear_da8c8_27 : decode cJx4a65c_clear_da8c8 27 = .ok (.iload_n 3, 1) := by decide +kernel
theorem dJx4a65c_clear_da8c8_28 : decode cJx4a65c_clear_da8c8 28 = .ok (.iload_n 2, 1) := by decide +kernel
theorem dJx4a65c_clear_da8c8_29 : decode cJx4a65c_clear_da8c8 29 = .ok (.if_icmp .ge 13, 3) := by decide +kernel
theorem dJx4a65c_clear_da8c8_32 : decode cJx4a65c_clear_da8c8 32 = .ok (.aload_n 1, 1) := by decide +kernel
theorem dJx4a65c_clear_da8c8_33 : decode cJx4a65c_clear_da8c8 33 = .ok (.iload_n 3, 1) := by decide +kernel
theorem dJx4a65c_clear_da8c8_34 : decode cJx4a65c_clear_da8c8 34 = .ok (.aconst_null, 1) := by decide +kernel
theorem dJx4a65c_clear_da8c8_35 : decode cJx4a65c_clear_da8c8 35 = .ok (.aastore, 1) := by decide +kernel
theorem dJx4a65c_clear_da8c8_36 : decode cJx4a65c_clear_da8c8 36 = .ok (.iinc 3 1, 3) := by decide +kernel
theorem dJx4a65c_clear_da8c8_39 : decode cJx4a65c_clear_da8c8 39 = .ok (.goto (-12), 3) := by decide +kernel
theorem dJx4a65c_clear_da8c8_42 : decode cJx4a65c_clear_da8c8 42 = .ok (.return_, 1) := by decide +kernel
theorem dJ7_fill_d0a16_0 : decode cJ7_fill_d0a16 0 = .ok (.iconst 0, 1) := by decide +kernel
theorem dJ7_fill_d0a16_1 : decode cJ7_fill_d0a16 1 = .ok (.istore_n 3, 1) := by decide +kernel
theorem dJ7_fill_d0a16_2 : decode cJ7_fill_d0a16 2 = .ok (.aload_n 0, 1) := by decide +kernel
theorem dJ7_fill_d0a16_3 : decode cJ7_fill_d0a16 3 = .ok (.arraylength, 1) := by decide +kernel
theorem dJ7_fill_d0a16_4 : decode cJ7_fill_d0a16 4 = .ok (.istore 4, 2) := by decide +kernel
theorem dJ7_fill_d0a16_6 : decode cJ7_fill_d0a16 6 = .ok (.iload_n 3, 1) := by decide +kernel
theorem dJ7_fill_d0a16_7 : decode cJ7_fill_d0a16 7 = .ok (.iload 4, 2) := by decide +kernel
theorem dJ7_fill_d0a16_9 : decode cJ7_fill_d0a16 9 = .ok (.if_icmp .ge 13, 3) := by decide +kernel
theorem dJ7_fill_d0a16_12 : decode cJ7_fill_d0a16 12 = .ok (.aload_n 0, 1) := by decide +kernel
theorem dJ7_fill_d0a16_13 : decode cJ7_fill_d0a16 13 = .ok (.iload_n 3, 1) := by decide +kernel
theorem dJ7_fill_d0a16_14 : decode cJ7_fill_d0a16 14 = .ok (.lload_n 1, 1) := by decide +kernel
theorem dJ7_fill_d0a16_15 : decode cJ7_fill_d0a16 15 = .ok (.lastore, 1) := by decide +kernel
theorem dJ7_fill_d0a16_16 : decode cJ7_fill_d0a16 16 = .ok (.iinc 3 1, 3) := by decide +kernel
theorem dJ7_fill_d0a16_19 : decode cJ7_fill_d0a16 19 = .ok (.goto (-13), 3) := by decide +kernel
theorem dJ7_fill_d0a16_22 : decode cJ7_fill_d0a16 22 = .ok (.return_, 1) := by decide +kernel
theorem dJ7_fill_53178_0 : decode cJ7_fill_53178 0 = .ok (.iconst 0, 1) := by decide +kernel
theorem dJ7_fill_53178_1 : decode cJ7_fill_53178 1 = .ok (.istore_n 2, 1) := by decide +kernel
theorem dJ7_fill_53178_2 : decode cJ7_fill_53178 2 = .ok (.aload_n 0, 1) := by decide +kernel
theorem dJ7_fill_53178_3 : decode cJ7_fill_53178 3 = .ok (.arraylength, 1) := by decide +kernel
theorem dJ7_fill_53178_4 : decode cJ7_fill_53178 4 = .ok (.istore_n 3, 1) := by decide +kernel
theorem dJ7_fill_53178_5 : decode cJ7_fill_53178 5 = .ok (.iload_n 2, 1) := by decide +kernel
theorem dJ7_fill_53178_6 : decode cJ7_fill_53178 6 = .ok (.iload_n 3, 1) := by decide +kernel
theorem dJ7_fill_53178_7 : decode cJ7_fill_53178 7 = .ok (.if_icmp .ge 13, 3) := by decide +kernel
theorem dJ7_fill_53178_10 : decode cJ7_fill_53178 10 = .ok (.aload_n 0, 1) := by decide +kernel
theorem dJ7_fill_53178_11 : decode cJ7_fill_53178 11 = .ok (.iload_n 2, 1) := by decide +kernel
theorem dJ7_fill_53178_12 : decode cJ7_fill_53178 12 = .ok (.iload_n 1, 1) := by decide +kernel
theorem dJ7_fill_53178_13 : decode cJ7_fill_53178 13 = .ok (.iastore, 1) := by decide +kernel
theorem dJ7_fill_53178_14 : decode cJ7_fill_53178 14 = .ok (.iinc 2 1, 3) := by decide +kernel
theorem dJ7_fill_53178_17 : decode cJ7_fill_53178 17 = .ok (.goto (-12), 3) := by decide +kernel
theorem dJ7_fill_53178_20 : decode cJ7_fill_53178 20 = .ok (.return_, 1) := by decide +kernel
set_option maxRecDepth 20000 in
theorem ggJ7_copyOf_1904c_J7_copyOf_6403c : GoodIn wsJ7_copyOf_1904c wsJ7_copyOf_6403c := goodIn_r _ [8, 9, 10, 11, 12, 13, 14, 15, 16, 17, 18] (by decide +kernel) (by decide +kernel)
set_option maxRecDepth 20000 in
theorem gJ7_copyOf_1904c_J7_copyOf_6403c : GoodIn wsJ7_copyOf_1904c (va_wsS RJ7 300 yJ7_copyOf_6403c wsJ7_copyOf_6403c) := goodIn_app (goodIn_of _ (by decide +kernel)) ggJ7_copyOf_1904c_J7_copyOf_6403c
theorem dJ7_copyOf_1904c_0 : decode cJ7_copyOf_1904c 0 = .ok (.aload_n 0, 1) := by decide +kernel
theorem dJ7_copyOf_1904c_1 : decode cJ7_copyOf_1904c 1 = .ok (.iload_n 1, 1) := by decide +kernel
theorem dJ7_copyOf_1904c_2 : decode cJ7_copyOf_1904c 2 = .ok (.aload_n 0, 1) := by decide +kernel
theorem dJ7_copyOf_1904c_3 : decode cJ7_copyOf_1904c 3 = .ok (.invokevirtual 86, 3) := by decide +kernel
theorem dJ7_copyOf_1904c_6 : decode cJ7_copyOf_1904c 6 = .ok (.invokestatic 300, 3) := by decide +kernel
theorem dJ7_copyOf_1904c_9 : decode cJ7_copyOf_1904c 9 = .ok (.areturn, 1) := by decide +kernel
theorem dJ7_copyOf_6403c_0 : decode cJ7_copyOf_6403c 0 = .ok (.aload_n 2, 1) := by decide +kernel
theorem dJ7_copyOf_6403c_1 : decode cJ7_copyOf_6403c 1 = .ok (.ldc 110, 2) := by decide +kernel
theorem dJ7_copyOf_6403c_3 : decode cJ7_copyOf_6403c 3 = .ok (.if_acmp .ne 10, 3) := by decide +kernel
theorem dJ7_copyOf_6403c_6 : decode cJ7_copyOf_6403c 6 = .ok (.iload_n 1, 1) := by decide +kernel
theorem dJ7_copyOf_6403c_7 : decode cJ7_copyOf_6403c 7 = .ok (.anewarray 2, 3) := by decide +kernel
theorem dJ7_copyOf_6403c_10 : decode cJ7_copyOf_6403c 10 = .ok (.goto 14, 3) := by decide +kernel
theorem dJ7_copyOf_6403c_13 : decode cJ7_copyOf_6403c 13 = .ok (.aload_n 2, 1) := by decide +kernel
theorem dJ7_copyOf_6403c_14 : decode cJ7_copyOf_6403c 14 = .ok (.invokevirtual 90, 3) := by decide +kernel
theorem dJ7_copyOf_6403c_17 : decode cJ7_copyOf_6403c 17 = .ok (.iload_n 1, 1) := by decide +kernel
theorem dJ7_copyOf_6403c_18 : decode cJ7_copyOf_6403c 18 = .ok (.invokestatic 95, 3) := by decide +kernel
theorem dJ7_copyOf_6403c_21 : decode cJ7_copyOf_6403c 21 = .ok (.checkcast 110, 3) := by decide +kernel
theorem dJ7_copyOf_6403c_24 : decode cJ7_copyOf_6403c 24 = .ok (.astore_n 3, 1) := by decide +kernel
theorem dJ7_copyOf_6403c_25 : decode cJ7_copyOf_6403c 25 = .ok (.aload_n 0, 1) := by decide +kernel
theorem dJ7_copyOf_6403c_26 : decode cJ7_copyOf_6403c 26 = .ok (.iconst 0, 1) := by decide +kernel
theorem dJ7_copyOf_6403c_27 : decode cJ7_copyOf_6403c 27 = .ok (.aload_n 3, 1) := by decide +kernel
theorem dJ7_copyOf_6403c_28 : decode cJ7_copyOf_6403c 28 = .ok (.iconst 0, 1) := by decide +kernel
theorem dJ7_copyOf_6403c_29 : decode cJ7_copyOf_6403c 29 = .ok (.aload_n 0, 1) := by decide +kernel
theorem dJ7_copyOf_6403c_30 : decode cJ7_copyOf_6403c 30 = .ok (.arraylength, 1) := by decide +kernel
theorem dJ7_copyOf_6403c_31 : decode cJ7_copyOf_6403c 31 = .ok (.iload_n 1, 1) := by decide +kernel
theorem dJ7_copyOf_6403c_32 : decode cJ7_copyOf_6403c 32 = .ok (.invokestatic 304, 3) := by decide +kernel
theorem dJ7_copyOf_6403c_35 : decode cJ7_copyOf_6403c 35 = .ok (.invokestatic 150, 3) := by decide +kernel
theorem dJ7_copyOf_6403c_38 : decode cJ7_copyOf_6403c 38 = .ok (.aload_n 3, 1) := by decide +kernel
theorem dJ7_copyOf_6403c_39 : decode cJ7_copyOf_6403c 39 = .ok (.areturn, 1) := by decide +kernel
set_option maxRecDepth 20000 in
theorem ggJ15_checkIndex_7cf53_J3_checkIndex_8e157 : GoodIn wsJ15_checkIndex_7cf53 wsJ3_checkIndex_8e157 := goodIn_r _ [4] (by decide +kernel) (by decide +kernel)
set_option maxRecDepth 20000 in
theorem gJ15_checkIndex_7cf53_J3_checkIndex_8e157 : GoodIn wsJ15_checkIndex_7cf53 (va_wsS RJ15 105 yJ3_checkIndex_8e157 wsJ3_checkIndex_8e157) := goodIn_app (goodIn_of _ (by decide +kernel)) ggJ15_checkIndex_7cf53_J3_checkIndex_8e157
theorem dJ15_checkIndex_7cf53_0 : decode cJ15_checkIndex_7cf53 0 = .ok (.iload_n 0, 1) := by decide +kernel
theorem dJ15_checkIndex_7cf53_1 : decode cJ15_checkIndex_7cf53 1 = .ok (.iload_n 1, 1) := by decide +kernel
theorem dJ15_checkIndex_7cf53_2 : decode cJ15_checkIndex_7cf53 2 = .ok (.aconst_null, 1) := by decide +kernel
theorem dJ15_checkIndex_7cf53_3 : decode cJ15_checkIndex_7cf53 3 = .ok (.invokestatic 105, 3) := by decide +kernel
theorem dJ15_checkIndex_7cf53_6 : decode cJ15_checkIndex_7cf53 6 = .ok (.ireturn, 1) := by decide +kernel
set_option maxRecDepth 20000 in
theorem ggJ8_newLength_cabcc_J8_hugeLength_7cf53 : GoodIn wsJ8_newLength_cabcc wsJ8_hugeLength_7cf53 := goodIn_r _ [9, 5] (by decide +kernel) (by decide +kernel)
set_option maxRecDepth 20000 in
theorem gJ8_newLength_cabcc_J8_hugeLength_7cf53 : GoodIn wsJ8_newLength_cabcc (va_wsS RJ8 201 yJ8_hugeLength_7cf53 wsJ8_hugeLength_7cf53) := goodIn_app (goodIn_of _ (by decide +kernel)) ggJ8_newLength_cabcc_J8_hugeLength_7cf53
theorem dJ8_newLength_cabcc_0 : decode cJ8_newLength_cabcc 0 = .ok (.iload_n 0, 1) := by decide +kernel
theorem dJ8_newLength_cabcc_1 : decode cJ8_newLength_cabcc 1 = .ok (.iload_n 1, 1) := by decide +kernel
theorem dJ8_newLength_cabcc_2 : decode cJ8_newLength_cabcc 2 = .ok (.iload_n 2, 1) := by decide +kernel
theorem dJ8_newLength_cabcc_3 : decode cJ8_newLength_cabcc 3 = .ok (.invokestatic 194, 3) := by decide +kernel
theorem dJ8_newLength_cabcc_6 : decode cJ8_newLength_cabcc 6 = .ok (.iadd, 1) := by decide +kernel
theorem dJ8_newLength_cabcc_7 : decode cJ8_newLength_cabcc 7 = .ok (.istore_n 3, 1) := by decide +kernel
theorem dJ8_newLength_cabcc_8 : decode cJ8_newLength_cabcc 8 = .ok (.iconst 0, 1) := by decide +kernel
theorem dJ8_newLength_cabcc_9 : decode cJ8_newLength_cabcc 9 = .ok (.iload_n 3, 1) := by decide +kernel
theorem dJ8_newLength_cabcc_10 : decode cJ8_newLength_cabcc 10 = .ok (.if_icmp .ge 11, 3) := by decide +kernel
theorem dJ8_newLength_cabcc_13 : decode cJ8_newLength_cabcc 13 = .ok (.iload_n 3, 1) := by decide +kernel
theorem dJ8_newLength_cabcc_14 : decode cJ8_newLength_cabcc 14 = .ok (.ldc 200, 2) := by decide +kernel
theorem dJ8_newLength_cabcc_16 : decode cJ8_newLength_cabcc 16 = .ok (.if_icmp .gt 5, 3) := by decide +kernel
theorem dJ8_newLength_cabcc_19 : decode cJ8_newLength_cabcc 19 = .ok (.iload_n 3, 1) := by decide +kernel
theorem dJ8_newLength_cabcc_20 : decode cJ8_newLength_cabcc 20 = .ok (.ireturn, 1) := by decide +kernel
theorem dJ8_newLength_cabcc_21 : decode cJ8_newLength_cabcc 21 = .ok (.iload_n 0, 1) := by decide +kernel
theorem dJ8_newLength_cabcc_22 : decode cJ8_newLength_cabcc 22 = .ok (.iload_n 1, 1) := by decide +kernel
theorem dJ8_newLength_cabcc_23 : decode cJ8_newLength_cabcc 23 = .ok (.invokestatic 201, 3) := by decide +kernel
theorem dJ8_newLength_cabcc_26 : decode cJ8_newLength_cabcc 26 = .ok (.ireturn, 1) := by decide +kernel
theorem dJ8_hugeLength_7cf53_0 : decode cJ8_hugeLength_7cf53 0 = .ok (.iload_n 0, 1) := by decide +kernel
theorem dJ8_hugeLength_7cf53_1 : decode cJ8_hugeLength_7cf53 1 = .ok (.iload_n 1, 1) := by decide +kernel
theorem dJ8_hugeLength_7cf53_2 : decode cJ8_hugeLength_7cf53 2 = .ok (.iadd, 1) := by decide +kernel
theorem dJ8_hugeLength_7cf53_3 : decode cJ8_hugeLength_7cf53 3 = .ok (.istore_n 2, 1) := by decide +kernel
theorem dJ8_hugeLength_7cf53_4 : decode cJ8_hugeLength_7cf53 4 = .ok (.iload_n 2, 1) := by decide +kernel
theorem dJ8_hugeLength_7cf53_5 : decode cJ8_hugeLength_7cf53 5 = .ok (.ifCond .ge 44, 3) := by decide +kernel
theorem dJ8_hugeLength_7cf53_8 : decode cJ8_hugeLength_7cf53 8 = .ok (.new 204, 3) := by decide +kernel
theorem dJ8_hugeLength_7cf53_11 : decode cJ8_hugeLength_7cf53 11 = .ok (.dup, 1) := by decide +kernel
theorem dJ8_hugeLength_7cf53_12 : decode cJ8_hugeLength_7cf53 12 = .ok (.new 89, 3) := by decide +kernel
theorem dJ8_hugeLength_7cf53_15 : decode cJ8_hugeLength_7cf53 15 = .ok (.dup, 1) := by decide +kernel
theorem dJ8_hugeLength_7cf53_16 : decode cJ8_hugeLength_7cf53 16 = .ok (.invokespecial 91, 3) := by decide +kernel
theorem dJ8_hugeLength_7cf53_19 : decode cJ8_hugeLength_7cf53 19 = .ok (.ldc 206, 2) := by decide +kernel
theorem dJ8_hugeLength_7cf53_21 : decode cJ8_hugeLength_7cf53 21 = .ok (.invokevirtual 94, 3) := by decide +kernel
theorem dJ8_hugeLength_7cf53_24 : decode cJ8_hugeLength_7cf53 24 = .ok (.iload_n 0, 1) := by decide +kernel
theorem dJ8_hugeLength_7cf53_25 : decode cJ8_hugeLength_7cf53 25 = .ok (.invokevirtual 98, 3) := by decide +kernel
theorem dJ8_hugeLength_7cf53_28 : decode cJ8_hugeLength_7cf53 28 = .ok (.ldc 208, 2) := by decide +kernel
theorem dJ8_hugeLength_7cf53_30 : decode cJ8_hugeLength_7cf53 30 = .ok (.invokevirtual 94, 3) := by decide +kernel
theorem dJ8_hugeLength_7cf53_33 : decode cJ8_hugeLength_7cf53 33 = .ok (.iload_n 1, 1) := by decide +kernel
theorem dJ8_hugeLength_7cf53_34 : decode cJ8_hugeLength_7cf53 34 = .ok (.invokevirtual 98, 3) := by decide +kernel
theorem dJ8_hugeLength_7cf53_37 : decode cJ8_hugeLength_7cf53 37 = .ok (.ldc 210, 2) := by decide +kernel
theorem dJ8_hugeLength_7cf53_39 : decode cJ8_hugeLength_7cf53 39 = .ok (.invokevirtual 94, 3) := by decide +kernel
theorem dJ8_hugeLength_7cf53_42 : decode cJ8_hugeLength_7cf53 42 = .ok (.invokevirtual 101, 3) := by decide +kernel
theorem dJ8_hugeLength_7cf53_45 : decode cJ8_hugeLength_7cf53 45 = .ok (.invokespecial 212, 3) := by decide +kernel
theorem dJ8_hugeLength_7cf53_48 : decode cJ8_hugeLength_7cf53 48 = .ok (.athrow, 1) := by decide +kernel
theorem dJ8_hugeLength_7cf53_49 : decode cJ8_hugeLength_7cf53 49 = .ok (.iload_n 2, 1) := by decide +kernel
theorem dJ8_hugeLength_7cf53_50 : decode cJ8_hugeLength_7cf53 50 = .ok (.ldc 200, 2) := by decide +kernel
theorem dJ8_hugeLength_7cf53_52 : decode cJ8_hugeLength_7cf53 52 = .ok (.if_icmp .gt 6, 3) := by decide +kernel
theorem dJ8_hugeLength_7cf53_55 : decode cJ8_hugeLength_7cf53 55 = .ok (.ldc 200, 2) := by decide +kernel
theorem dJ8_hugeLength_7cf53_57 : decode cJ8_hugeLength_7cf53 57 = .ok (.ireturn, 1) := by decide +kernel
theorem dJ8_hugeLength_7cf53_58 : decode cJ8_hugeLength_7cf53 58 = .ok (.iload_n 2, 1) := by decide +kernel
theorem dJ8_hugeLength_7cf53_59 : decode cJ8_hugeLength_7cf53 59 = .ok (.ireturn, 1) := by decide +kernel
theorem dJ3_checkIndex_8e157_0 : decode cJ3_checkIndex_8e157 0 = .ok (.iload_n 0, 1) := by decide +kernel
theorem dJ3_checkIndex_8e157_1 : decode cJ3_checkIndex_8e157 1 = .ok (.ifCond .lt 8, 3) := by decide +kernel
theorem dJ3_checkIndex_8e157_4 : decode cJ3_checkIndex_8e157 4 = .ok (.iload_n 0, 1) := by decide +kernel
theorem dJ3_checkIndex_8e157_5 : decode cJ3_checkIndex_8e157 5 = .ok (.iload_n 1, 1) := by decide +kernel
theorem dJ3_checkIndex_8e157_6 : decode cJ3_checkIndex_8e157 6 = .ok (.if_icmp .lt 10, 3) := by decide +kernel
theorem dJ3_checkIndex_8e157_9 : decode cJ3_checkIndex_8e157 9 = .ok (.aload_n 2, 1) := by decide +kernel
theorem dJ3_checkIndex_8e157_10 : decode cJ3_checkIndex_8e157 10 = .ok (.iload_n 0, 1) := by decide +kernel
theorem dJ3_checkIndex_8e157_11 : decode cJ3_checkIndex_8e157 11 = .ok (.iload_n 1, 1) := by decide +kernel
theorem dJ3_checkIndex_8e157_12 : decode cJ3_checkIndex_8e157 12 = .ok (.invokestatic 95, 3) := by decide +kernel
theorem dJ3_checkIndex_8e157_15 : decode cJ3_checkIndex_8e157 15 = .ok (.athrow, 1) := by decide +kernel
theorem dJ3_checkIndex_8e157_16 : decode cJ3_checkIndex_8e157 16 = .ok (.iload_n 0, 1) := by decide +kernel
theorem dJ3_checkIndex_8e157_17 : decode cJ3_checkIndex_8e157 17 = .ok (.ireturn, 1) := by decide +kernel
set_option maxRecDepth 20000 in
theorem ggL_open_X2_open : GoodIn wsL_open wsX2_open := goodIn_ca (goodIn_r _ [6, 7, 8, 9, 10, 11, 5, 12, 13, 14, 15, 16, 17, 18, 19, 20, 21, 22, 23, 24, 25, 26, 27, 28, 29, 30, 31, 32, 33, 34, 35, 36, 37, 38, 39, 40, 41, 42, 43, 44, 45, 46, 47, 48, 49, 50, 51] (by decide +kernel) (by decide +kernel)) (goodIn_sub (fun _ h => List.mem_cons_of_mem _ (List.mem_append_right _ h)) (by decide +kernel))
set_option maxRecDepth 20000 in
theorem gL_open_X2_open : GoodIn wsL_open (wsV RL 7 RX2 yX2_open wsX2_open) := goodIn_app (goodIn_of _ (by decide +kernel)) ggL_open_X2_open
theorem dL_open_0 : decode cL_open 0 = .ok (.aload_n 0, 1) := by decide +kernel
theorem dL_open_1 : decode cL_open 1 = .ok (.iload_n 1, 1) := by decide +kernel
theorem dL_open_2 : decode cL_open 2 = .ok (.invokevirtual 7, 3) := by decide +kernel
theorem dL_open_5 : decode cL_open 5 = .ok (.goto 6, 3) := by decide +kernel
theorem dL_open_8 : decode cL_open 8 = .ok (.astore_n 2, 1) := by decide +kernel
theorem dL_open_9 : decode cL_open 9 = .ok (.iconst 1, 1) := by decide +kernel
theorem dL_open_10 : decode cL_open 10 = .ok (.ireturn, 1) := by decide +kernel
theorem dL_open_11 : decode cL_open 11 = .ok (.iconst 0, 1) := by decide +kernel
theorem dL_open_12 : decode cL_open 12 = .ok (.ireturn, 1) := by decide +kernel
set_option maxRecDepth 20000 in
theorem ggL_add_X2_add : GoodIn wsL_add wsX2_add := goodIn_ca (goodIn_r _ [6, 7, 8, 9, 10, 5, 11, 12, 13, 14, 15, 16, 17, 18, 19, 20, 21, 22, 23, 24, 25, 26, 27, 28, 29, 30, 31, 32, 33, 34, 35, 36, 37, 38, 39, 40, 41, 42, 43, 44, 45, 46, 47, 48, 49, 50] (by decide +kernel) (by decide +kernel)) (goodIn_sub (fun _ h => List.mem_cons_of_mem _ (List.mem_append_right _ h)) (by decide +kernel))
set_option maxRecDepth 20000 in
theorem gL_add_X2_add : GoodIn wsL_add (wsV RL 15 RX2 yX2_add wsX2_add) := goodIn_app (goodIn_of _ (by decide +kernel)) ggL_add_X2_add
theorem dL_add_0 : decode cL_add 0 = .ok (.aload 4, 2) := by decide +kernel
theorem dL_add_2 : decode cL_add 2 = .ok (.iconst 0, 1) := by decide +kernel
theorem dL_add_3 : decode cL_add 3 = .ok (.aload_n 0, 1) := by decide +kernel
theorem dL_add_4 : decode cL_add 4 = .ok (.iload_n 1, 1) := by decide +kernel
theorem dL_add_5 : decode cL_add 5 = .ok (.iload_n 2, 1) := by decide +kernel
theorem dL_add_6 : decode cL_add 6 = .ok (.iload_n 3, 1) := by decide +kernel
theorem dL_add_7 : decode cL_add 7 = .ok (.invokevirtual 15, 3) := by decide +kernel
theorem dL_add_10 : decode cL_add 10 = .ok (.i2l, 1) := by decide +kernel
theorem dL_add_11 : decode cL_add 11 = .ok (.lastore, 1) := by decide +kernel
theorem dL_add_12 : decode cL_add 12 = .ok (.goto 7, 3) := by decide +kernel
theorem dL_add_15 : decode cL_add 15 = .ok (.astore 5, 2) := by decide +kernel
theorem dL_add_17 : decode cL_add 17 = .ok (.iconst 1, 1) := by decide +kernel
theorem dL_add_18 : decode cL_add 18 = .ok (.ireturn, 1) := by decide +kernel
theorem dL_add_19 : decode cL_add 19 = .ok (.iconst 0, 1) := by decide +kernel
theorem dL_add_20 : decode cL_add 20 = .ok (.ireturn, 1) := by decide +kernel
set_option maxRecDepth 20000 in
theorem ggL_remove_X2_remove : GoodIn wsL_remove wsX2_remove := goodIn_ca (goodIn_r _ [6, 7, 8, 9, 10, 5, 11, 12, 13, 14, 15, 16, 17, 18, 19, 20, 21, 22, 23, 24, 25, 26, 27, 28, 29, 30, 31, 32, 33, 34, 35, 36, 37, 38, 39, 40, 41, 42, 43, 44, 45] (by decide +kernel) (by decide +kernel)) (goodIn_sub (fun _ h => List.mem_cons_of_mem _ (List.mem_append_right _ h)) (by decide +kernel))
set_option maxRecDepth 20000 in
theorem gL_remove_X2_remove : GoodIn wsL_remove (wsV RL 19 RX2 yX2_remove wsX2_remove) := goodIn_app (goodIn_of _ (by decide +kernel)) ggL_remove_X2_remove
theorem dL_remove_0 : decode cL_remove 0 = .ok (.aload 4, 2) := by decide +kernel
theorem dL_remove_2 : decode cL_remove 2 = .ok (.iconst 0, 1) := by decide +kernel
theorem dL_remove_3 : decode cL_remove 3 = .ok (.aload_n 0, 1) := by decide +kernel
theorem dL_remove_4 : decode cL_remove 4 = .ok (.iload_n 1, 1) := by decide +kernel
theorem dL_remove_5 : decode cL_remove 5 = .ok (.iload_n 2, 1) := by decide +kernel
theorem dL_remove_6 : decode cL_remove 6 = .ok (.iload_n 3, 1) := by decide +kernel
theorem dL_remove_7 : decode cL_remove 7 = .ok (.invokevirtual 19, 3) := by decide +kernel
theorem dL_remove_10 : decode cL_remove 10 = .ok (.i2l, 1) := by decide +kernel
theorem dL_remove_11 : decode cL_remove 11 = .ok (.lastore, 1) := by decide +kernel
theorem dL_remove_12 : decode cL_remove 12 = .ok (.goto 7, 3) := by decide +kernel
theorem dL_remove_15 : decode cL_remove 15 = .ok (.astore 5, 2) := by decide +kernel
theorem dL_remove_17 : decode cL_remove 17 = .ok (.iconst 1, 1) := by decide +kernel
theorem dL_remove_18 : decode cL_remove 18 = .ok (.ireturn, 1) := by decide +kernel
theorem dL_remove_19 : decode cL_remove 19 = .ok (.iconst 0, 1) := by decide +kernel
theorem dL_remove_20 : decode cL_remove 20 = .ok (.ireturn, 1) := by decide +kernel
set_option maxRecDepth 20000 in
theorem ggL_clear_X2_clear : GoodIn wsL_clear wsX2_clear := goodIn_ca (goodIn_r _ [6, 7, 8, 9, 10, 5, 11, 12, 13, 14, 15, 16, 17, 18, 19, 20, 21, 22, 23, 24, 25, 26, 27, 28, 29, 30, 31, 32, 33, 34, 35, 36, 37, 38, 39, 40, 41] (by decide +kernel) (by decide +kernel)) (goodIn_sub (fun _ h => List.mem_cons_of_mem _ (List.mem_append_right _ h)) (by decide +kernel))
set_option maxRecDepth 20000 in
theorem gL_clear_X2_clear : GoodIn wsL_clear (wsV RL 22 RX2 yX2_clear wsX2_clear) := goodIn_app (goodIn_of _ (by decide +kernel)) ggL_clear_X2_clear
theorem dL_clear_0 : decode cL_clear 0 = .ok (.aload_n 3, 1) := by decide +kernel
theorem dL_clear_1 : decode cL_clear 1 = .ok (.iconst 0, 1) := by decide +kernel
theorem dL_clear_2 : decode cL_clear 2 = .ok (.aload_n 0, 1) := by decide +kernel
theorem dL_clear_3 : decode cL_clear 3 = .ok (.iload_n 1, 1) := by decide +kernel
theorem dL_clear_4 : decode cL_clear 4 = .ok (.iload_n 2, 1) := by decide +kernel
theorem dL_clear_5 : decode cL_clear 5 = .ok (.invokevirtual 22, 3) := by decide +kernel
theorem dL_clear_8 : decode cL_clear 8 = .ok (.i2l, 1) := by decide +kernel
theorem dL_clear_9 : decode cL_clear 9 = .ok (.lastore, 1) := by decide +kernel
theorem dL_clear_10 : decode cL_clear 10 = .ok (.goto 7, 3) := by decide +kernel
theorem dL_clear_13 : decode cL_clear 13 = .ok (.astore 4, 2) := by decide +kernel
theorem dL_clear_15 : decode cL_clear 15 = .ok (.iconst 1, 1) := by decide +kernel
theorem dL_clear_16 : decode cL_clear 16 = .ok (.ireturn, 1) := by decide +kernel
theorem dL_clear_17 : decode cL_clear 17 = .ok (.iconst 0, 1) := by decide +kernel
theorem dL_clear_18 : decode cL_clear 18 = .ok (.ireturn, 1) := by decide +kernel
set_option maxRecDepth 20000 in
theorem ggL_write_X2_write : GoodIn wsL_write wsX2_write := goodIn_ca (goodIn_r _ [6, 7, 8, 9, 10, 11, 5, 12, 13, 14, 15, 16, 17, 18, 19, 20, 21, 22, 23, 24, 25, 26, 27, 28, 29, 30, 31, 32, 33, 34, 35, 36, 37, 38, 39, 40, 41, 42, 43, 44] (by decide +kernel) (by decide +kernel)) (goodIn_sub (fun _ h => List.mem_cons_of_mem _ (List.mem_append_right _ h)) (by decide +kernel))
set_option maxRecDepth 20000 in
theorem gL_write_X2_write : GoodIn wsL_write (wsV RL 26 RX2 yX2_write wsX2_write) := goodIn_app (goodIn_of _ (by decide +kernel)) ggL_write_X2_write
theorem dL_write_0 : decode cL_write 0 = .ok (.aload 4, 2) := by decide +kernel
theorem dL_write_2 : decode cL_write 2 = .ok (.iconst 0, 1) := by decide +kernel
theorem dL_write_3 : decode cL_write 3 = .ok (.aload_n 0, 1) := by decide +kernel
theorem dL_write_4 : decode cL_write 4 = .ok (.iload_n 1, 1) := by decide +kernel
theorem dL_write_5 : decode cL_write 5 = .ok (.iload_n 2, 1) := by decide +kernel
theorem dL_write_6 : decode cL_write 6 = .ok (.iload_n 3, 1) := by decide +kernel
theorem dL_write_7 : decode cL_write 7 = .ok (.invokevirtual 26, 3) := by decide +kernel
theorem dL_write_10 : decode cL_write 10 = .ok (.i2l, 1) := by decide +kernel
theorem dL_write_11 : decode cL_write 11 = .ok (.lastore, 1) := by decide +kernel
theorem dL_write_12 : decode cL_write 12 = .ok (.goto 7, 3) := by decide +kernel
theorem dL_write_15 : decode cL_write 15 = .ok (.astore 5, 2) := by decide +kernel
theorem dL_write_17 : decode cL_write 17 = .ok (.iconst 1, 1) := by decide +kernel
theorem dL_write_18 : decode cL_write 18 = .ok (.ireturn, 1) := by decide +kernel
theorem dL_write_19 : decode cL_write 19 = .ok (.iconst 0, 1) := by decide +kernel
theorem dL_write_20 : decode cL_write 20 = .ok (.ireturn, 1) := by decide +kernel
set_option maxRecDepth 20000 in
theorem ggL_count_X2_count : GoodIn wsL_count wsX2_count := goodIn_ca (goodIn_r _ [6, 7, 8, 9, 10, 11, 12, 5, 13, 14, 15, 16, 17, 18, 19, 20, 21, 22, 23, 24, 25, 26, 27, 28, 29, 30, 31, 32, 33, 34, 35, 36, 37] (by decide +kernel) (by decide +kernel)) (goodIn_sub (fun _ h => List.mem_cons_of_mem _ (List.mem_append_right _ h)) (by decide +kernel))
set_option maxRecDepth 20000 in
theorem gL_count_X2_count : GoodIn wsL_count (wsV RL 29 RX2 yX2_count wsX2_count) := goodIn_app (goodIn_of _ (by decide +kernel)) ggL_count_X2_count
theorem dL_count_0 : decode cL_count 0 = .ok (.aload 4, 2) := by decide +kernel
theorem dL_count_2 : decode cL_count 2 = .ok (.iconst 0, 1) := by decide +kernel
theorem dL_count_3 : decode cL_count 3 = .ok (.aload_n 0, 1) := by decide +kernel
theorem dL_count_4 : decode cL_count 4 = .ok (.iload_n 1, 1) := by decide +kernel
theorem dL_count_5 : decode cL_count 5 = .ok (.iload_n 2, 1) := by decide +kernel
theorem dL_count_6 : decode cL_count 6 = .ok (.iload_n 3, 1) := by decide +kernel
theorem dL_count_7 : decode cL_count 7 = .ok (.invokevirtual 29, 3) := by decide +kernel
theorem dL_count_10 : decode cL_count 10 = .ok (.i2l, 1) := by decide +kernel
theorem dL_count_11 : decode cL_count 11 = .ok (.lastore, 1) := by decide +kernel
theorem dL_count_12 : decode cL_count 12 = .ok (.goto 7, 3) := by decide +kernel
theorem dL_count_15 : decode cL_count 15 = .ok (.astore 5, 2) := by decide +kernel
theorem dL_count_17 : decode cL_count 17 = .ok (.iconst 1, 1) := by decide +kernel
theorem dL_count_18 : decode cL_count 18 = .ok (.ireturn, 1) := by decide +kernel
theorem dL_count_19 : decode cL_count 19 = .ok (.iconst 0, 1) := by decide +kernel
theorem dL_count_20 : decode cL_count 20 = .ok (.ireturn, 1) := by decide +kernel
set_option maxRecDepth 20000 in
theorem ggL_gossip_X2_gossip : GoodIn wsL_gossip wsX2_gossip := goodIn_ca (goodIn_ca (goodIn_r _ [7, 8, 9, 10, 11, 12, 13, 14, 15, 16, 17, 6, 18, 19, 20, 21, 22, 23, 24, 25, 26, 27, 28, 29, 30, 31, 32, 33, 34, 35, 36, 37, 38, 39, 40, 41, 42, 43, 44, 45, 46, 47, 48, 49, 50, 51, 52, 53, 54, 55, 56, 57, 58, 59, 60, 61, 62, 63, 64, 65, 66, 67, 68, 69, 70, 71, 72, 73, 74, 75, 76, 77, 78, 79, 80, 81, 82, 83, 84, 85, 86, 87, 88, 89, 90, 91, 92, 93, 94, 95, 96, 97, 98, 99, 100, 101, 102, 103, 104, 105, 106, 107, 108, 109, 110, 111, 112, 113, 114, 115, 116, 117, 118, 119, 120, 121, 122, 123, 124, 125, 126, 127, 128, 129] (by decide +kernel) (by decide +kernel)) (goodIn_sub (fun _ h => List.mem_cons_of_mem _ (List.mem_append_left _ (List.mem_append_right _ h))) (by decide +kernel))) (goodIn_sub (fun _ h => List.mem_cons_of_mem _ (List.mem_append_right _ h)) (by decide +kernel))
set_option maxRecDepth 20000 in
theorem gL_gossip_X2_gossip : GoodIn wsL_gossip (wsV RL 32 RX2 yX2_gossip wsX2_gossip) := goodIn_app (goodIn_of _ (by decide +kernel)) ggL_gossip_X2_gossip
theorem dL_gossip_0 : decode cL_gossip 0 = .ok (.aload_n 3, 1) := by decide +kernel
theorem dL_gossip_1 : decode cL_gossip 1 = .ok (.iconst 0, 1) := by decide +kernel
theorem dL_gossip_2 : decode cL_gossip 2 = .ok (.aload_n 0, 1) := by decide +kernel
theorem dL_gossip_3 : decode cL_gossip 3 = .ok (.iload_n 1, 1) := by decide +kernel
theorem dL_gossip_4 : decode cL_gossip 4 = .ok (.iload_n 2, 1) := by decide +kernel
theorem dL_gossip_5 : decode cL_gossip 5 = .ok (.invokevirtual 32, 3) := by decide +kernel
theorem dL_gossip_8 : decode cL_gossip 8 = .ok (.i2l, 1) := by decide +kernel
theorem dL_gossip_9 : decode cL_gossip 9 = .ok (.lastore, 1) := by decide +kernel
theorem dL_gossip_10 : decode cL_gossip 10 = .ok (.goto 11, 3) := by decide +kernel
theorem dL_gossip_13 : decode cL_gossip 13 = .ok (.astore 4, 2) := by decide +kernel
theorem dL_gossip_15 : decode cL_gossip 15 = .ok (.iconst 1, 1) := by decide +kernel
theorem dL_gossip_16 : decode cL_gossip 16 = .ok (.ireturn, 1) := by decide +kernel
theorem dL_gossip_17 : decode cL_gossip 17 = .ok (.astore 4, 2) := by decide +kernel
theorem dL_gossip_19 : decode cL_gossip 19 = .ok (.iconst 2, 1) := by decide +kernel
theorem dL_gossip_20 : decode cL_gossip 20 = .ok (.ireturn, 1) := by decide +kernel
theorem dL_gossip_21 : decode cL_gossip 21 = .ok (.iconst 0, 1) := by decide +kernel
theorem dL_gossip_22 : decode cL_gossip 22 = .ok (.ireturn, 1) := by decide +kernel
set_option maxRecDepth 20000 in
theorem ggL_deliver_X2_deliver : GoodIn wsL_deliver wsX2_deliver := goodIn_ca (goodIn_r _ [6, 7, 8, 9, 10, 11, 12, 13, 14, 15, 16, 17, 18, 19, 5, 20, 21, 22, 23, 24, 25, 26, 27, 28, 29, 30, 31, 32, 33, 34, 35, 36, 37, 38, 39, 40, 41, 42, 43, 44, 45, 46, 47, 48, 49, 50, 51, 52, 53, 54, 55, 56, 57, 58, 59, 60, 61, 62, 63, 64, 65, 66, 67, 68, 69, 70, 71, 72, 73, 74, 75, 76, 77, 78, 79, 80, 81, 82, 83] (by decide +kernel) (by decide +kernel)) (goodIn_sub (fun _ h => List.mem_cons_of_mem _ (List.mem_append_right _ h)) (by decide +kernel))
set_option maxRecDepth 20000 in
theorem gL_deliver_X2_deliver : GoodIn wsL_deliver (wsV RL 37 RX2 yX2_deliver wsX2_deliver) := goodIn_app (goodIn_of _ (by decide +kernel)) ggL_deliver_X2_deliver
theorem dL_deliver_0 : decode cL_deliver 0 = .ok (.aload_n 2, 1) := by decide +kernel
theorem dL_deliver_1 : decode cL_deliver 1 = .ok (.iconst 0, 1) := by decide +kernel
theorem dL_deliver_2 : decode cL_deliver 2 = .ok (.aload_n 0, 1) := by decide +kernel
theorem dL_deliver_3 : decode cL_deliver 3 = .ok (.iload_n 1, 1) := by decide +kernel
theorem dL_deliver_4 : decode cL_deliver 4 = .ok (.invokevirtual 37, 3) := by decide +kernel
theorem dL_deliver_7 : decode cL_deliver 7 = .ok (.i2l, 1) := by decide +kernel
theorem dL_deliver_8 : decode cL_deliver 8 = .ok (.lastore, 1) := by decide +kernel
theorem dL_deliver_9 : decode cL_deliver 9 = .ok (.goto 6, 3) := by decide +kernel
theorem dL_deliver_12 : decode cL_deliver 12 = .ok (.astore_n 3, 1) := by decide +kernel
theorem dL_deliver_13 : decode cL_deliver 13 = .ok (.iconst 1, 1) := by decide +kernel
theorem dL_deliver_14 : decode cL_deliver 14 = .ok (.ireturn, 1) := by decide +kernel
theorem dL_deliver_15 : decode cL_deliver 15 = .ok (.iconst 0, 1) := by decide +kernel
theorem dL_deliver_16 : decode cL_deliver 16 = .ok (.ireturn, 1) := by decide +kernel
set_option maxRecDepth 20000 in
theorem ggL_drop_X2_drop : GoodIn wsL_drop wsX2_drop := goodIn_ca (goodIn_r _ [6, 7, 8, 9, 10, 11, 12, 13, 14, 15, 16, 17, 5, 18, 19, 20, 21, 22, 23, 24, 25, 26, 27, 28, 29, 30, 31, 32, 33, 34, 35, 36, 37, 38, 39, 40, 41, 42, 43, 44, 45, 46, 47, 48, 49, 50, 51, 52, 53, 54, 55] (by decide +kernel) (by decide +kernel)) (goodIn_sub (fun _ h => List.mem_cons_of_mem _ (List.mem_append_right _ h)) (by decide +kernel))
set_option maxRecDepth 20000 in
theorem gL_drop_X2_drop : GoodIn wsL_drop (wsV RL 41 RX2 yX2_drop wsX2_drop) := goodIn_app (goodIn_of _ (by decide +kernel)) ggL_drop_X2_drop
theorem dL_drop_0 : decode cL_drop 0 = .ok (.aload_n 2, 1) := by decide +kernel
theorem dL_drop_1 : decode cL_drop 1 = .ok (.iconst 0, 1) := by decide +kernel
theorem dL_drop_2 : decode cL_drop 2 = .ok (.aload_n 0, 1) := by decide +kernel
theorem dL_drop_3 : decode cL_drop 3 = .ok (.iload_n 1, 1) := by decide +kernel
theorem dL_drop_4 : decode cL_drop 4 = .ok (.invokevirtual 41, 3) := by decide +kernel
theorem dL_drop_7 : decode cL_drop 7 = .ok (.i2l, 1) := by decide +kernel
theorem dL_drop_8 : decode cL_drop 8 = .ok (.lastore, 1) := by decide +kernel
theorem dL_drop_9 : decode cL_drop 9 = .ok (.goto 6, 3) := by decide +kernel
theorem dL_drop_12 : decode cL_drop 12 = .ok (.astore_n 3, 1) := by decide +kernel
theorem dL_drop_13 : decode cL_drop 13 = .ok (.iconst 1, 1) := by decide +kernel
theorem dL_drop_14 : decode cL_drop 14 = .ok (.ireturn, 1) := by decide +kernel
theorem dL_drop_15 : decode cL_drop 15 = .ok (.iconst 0, 1) := by decide +kernel
theorem dL_drop_16 : decode cL_drop 16 = .ok (.ireturn, 1) := by decide +kernel
set_option maxRecDepth 20000 in
theorem ggL_copy_X2_copy : GoodIn wsL_copy wsX2_copy := goodIn_ca (goodIn_r _ [6, 7, 8, 9, 10, 11, 12, 13, 14, 15, 16, 17, 18, 19, 20, 21, 22, 5, 23, 24, 25, 26, 27, 28, 29, 30, 31, 32, 33, 34, 35, 36, 37, 38, 39, 40, 41, 42, 43, 44, 45, 46, 47, 48, 49, 50, 51, 52, 53, 54, 55, 56, 57, 58, 59, 60, 61, 62, 63, 64, 65, 66, 67, 68, 69, 70, 71, 72, 73, 74, 75, 76, 77, 78, 79, 80, 81, 82, 83, 84, 85, 86, 87, 88, 89, 90, 91, 92, 93, 94, 95, 96, 97, 98, 99, 100, 101, 102, 103, 104, 105, 106, 107, 108, 109, 110, 111, 112, 113, 114, 115, 116] (by decide +kernel) (by decide +kernel)) (goodIn_sub (fun _ h => List.mem_cons_of_mem _ (List.mem_append_right _ h)) (by decide +kernel))
set_option maxRecDepth 20000 in
theorem gL_copy_X2_copy : GoodIn wsL_copy (wsV RL 44 RX2 yX2_copy wsX2_copy) := goodIn_app (goodIn_of _ (by decide +kernel)) ggL_copy_X2_copy
theorem dL_copy_0 : decode cL_copy 0 = .ok (.aload_n 2, 1) := by decide +kernel
theorem dL_copy_1 : decode cL_copy 1 = .ok (.iconst 0, 1) := by decide +kernel
theorem dL_copy_2 : decode cL_copy 2 = .ok (.aload_n 0, 1) := by decide +kernel
theorem dL_copy_3 : decode cL_copy 3 = .ok (.iload_n 1, 1) := by decide +kernel
theorem dL_copy_4 : decode cL_copy 4 = .ok (.invokevirtual 44, 3) := by decide +kernel
theorem dL_copy_7 : decode cL_copy 7 = .ok (.ifCond .eq 7, 3) := by decide +kernel
theorem dL_copy_10 : decode cL_copy 10 = .ok (.lconst 1, 1) := by decide +kernel
theorem dL_copy_11 : decode cL_copy 11 = .ok (.goto 4, 3) := by decide +kernel
theorem dL_copy_14 : decode cL_copy 14 = .ok (.lconst 0, 1) := by decide +kernel
theorem dL_copy_15 : decode cL_copy 15 = .ok (.lastore, 1) := by decide +kernel
theorem dL_copy_16 : decode cL_copy 16 = .ok (.goto 6, 3) := by decide +kernel
theorem dL_copy_19 : decode cL_copy 19 = .ok (.astore_n 3, 1) := by decide +kernel
theorem dL_copy_20 : decode cL_copy 20 = .ok (.iconst 1, 1) := by decide +kernel
theorem dL_copy_21 : decode cL_copy 21 = .ok (.ireturn, 1) := by decide +kernel
theorem dL_copy_22 : decode cL_copy 22 = .ok (.iconst 0, 1) := by decide +kernel
theorem dL_copy_23 : decode cL_copy 23 = .ok (.ireturn, 1) := by decide +kernel
set_option maxRecDepth 20000 in
theorem ggL_turn_X2_turn : GoodIn wsL_turn wsX2_turn := goodIn_ca (goodIn_r _ [6, 7, 8, 9, 10, 11, 12, 13, 14, 15, 16, 17, 5, 18, 19, 20, 21, 22, 23, 24, 25, 26, 27, 28, 29, 30, 31, 32, 33, 34, 35, 36, 37, 38, 39, 40, 41, 42, 43, 44, 45, 46, 47, 48, 49, 50, 51, 52, 53, 54] (by decide +kernel) (by decide +kernel)) (goodIn_sub (fun _ h => List.mem_cons_of_mem _ (List.mem_append_right _ h)) (by decide +kernel))
set_option maxRecDepth 20000 in
theorem gL_turn_X2_turn : GoodIn wsL_turn (wsV RL 48 RX2 yX2_turn wsX2_turn) := goodIn_app (goodIn_of _ (by decide +kernel)) ggL_turn_X2_turn
theorem dL_turn_0 : decode cL_turn 0 = .ok (.aload_n 0, 1) := by decide +kernel
theorem dL_turn_1 : decode cL_turn 1 = .ok (.iload_n 1, 1) := by decide +kernel
theorem dL_turn_2 : decode cL_turn 2 = .ok (.iload_n 2, 1) := by decide +kernel
theorem dL_turn_3 : decode cL_turn 3 = .ok (.invokevirtual 48, 3) := by decide +kernel
theorem dL_turn_6 : decode cL_turn 6 = .ok (.goto 6, 3) := by decide +kernel
theorem dL_turn_9 : decode cL_turn 9 = .ok (.astore_n 3, 1) := by decide +kernel
theorem dL_turn_10 : decode cL_turn 10 = .ok (.iconst 1, 1) := by decide +kernel
theorem dL_turn_11 : decode cL_turn 11 = .ok (.ireturn, 1) := by decide +kernel
theorem dL_turn_12 : decode cL_turn 12 = .ok (.iconst 0, 1) := by decide +kernel
theorem dL_turn_13 : decode cL_turn 13 = .ok (.ireturn, 1) := by decide +kernel
set_option maxRecDepth 20000 in
theorem ggL_contains_X2_contains : GoodIn wsL_contains wsX2_contains := goodIn_ca (goodIn_r _ [6, 7, 8, 9, 10, 5, 11, 12, 13, 14, 15, 16, 17, 18, 19, 20, 21, 22, 23, 24, 25, 26, 27, 28, 29, 30, 31, 32, 33, 34, 35, 36, 37, 38, 39, 40, 41] (by decide +kernel) (by decide +kernel)) (goodIn_sub (fun _ h => List.mem_cons_of_mem _ (List.mem_append_right _ h)) (by decide +kernel))
set_option maxRecDepth 20000 in
theorem gL_contains_X2_contains : GoodIn wsL_contains (wsV RL 52 RX2 yX2_contains wsX2_contains) := goodIn_app (goodIn_of _ (by decide +kernel)) ggL_contains_X2_contains
theorem dL_contains_0 : decode cL_contains 0 = .ok (.aload 4, 2) := by decide +kernel
theorem dL_contains_2 : decode cL_contains 2 = .ok (.iconst 0, 1) := by decide +kernel
theorem dL_contains_3 : decode cL_contains 3 = .ok (.aload_n 0, 1) := by decide +kernel
theorem dL_contains_4 : decode cL_contains 4 = .ok (.iload_n 1, 1) := by decide +kernel
theorem dL_contains_5 : decode cL_contains 5 = .ok (.iload_n 2, 1) := by decide +kernel
theorem dL_contains_6 : decode cL_contains 6 = .ok (.iload_n 3, 1) := by decide +kernel
theorem dL_contains_7 : decode cL_contains 7 = .ok (.invokevirtual 52, 3) := by decide +kernel
theorem dL_contains_10 : decode cL_contains 10 = .ok (.ifCond .eq 7, 3) := by decide +kernel
theorem dL_contains_13 : decode cL_contains 13 = .ok (.lconst 1, 1) := by decide +kernel
theorem dL_contains_14 : decode cL_contains 14 = .ok (.goto 4, 3) := by decide +kernel
theorem dL_contains_17 : decode cL_contains 17 = .ok (.lconst 0, 1) := by decide +kernel
theorem dL_contains_18 : decode cL_contains 18 = .ok (.lastore, 1) := by decide +kernel
theorem dL_contains_19 : decode cL_contains 19 = .ok (.goto 7, 3) := by decide +kernel
theorem dL_contains_22 : decode cL_contains 22 = .ok (.astore 5, 2) := by decide +kernel
theorem dL_contains_24 : decode cL_contains 24 = .ok (.iconst 1, 1) := by decide +kernel
theorem dL_contains_25 : decode cL_contains 25 = .ok (.ireturn, 1) := by decide +kernel
theorem dL_contains_26 : decode cL_contains 26 = .ok (.iconst 0, 1) := by decide +kernel
theorem dL_contains_27 : decode cL_contains 27 = .ok (.ireturn, 1) := by decide +kernel
set_option maxRecDepth 20000 in
theorem ggL_size_X2_size : GoodIn wsL_size wsX2_size := goodIn_ca (goodIn_r _ [6, 7, 8, 9, 10, 5, 11, 12, 13, 14, 15, 16, 17, 18, 19, 20, 21, 22, 23, 24, 25, 26, 27, 28, 29, 30, 31, 32, 33, 34, 35, 36, 37] (by decide +kernel) (by decide +kernel)) (goodIn_sub (fun _ h => List.mem_cons_of_mem _ (List.mem_append_right _ h)) (by decide +kernel))
set_option maxRecDepth 20000 in
theorem gL_size_X2_size : GoodIn wsL_size (wsV RL 56 RX2 yX2_size wsX2_size) := goodIn_app (goodIn_of _ (by decide +kernel)) ggL_size_X2_size
theorem dL_size_0 : decode cL_size 0 = .ok (.aload_n 3, 1) := by decide +kernel
theorem dL_size_1 : decode cL_size 1 = .ok (.iconst 0, 1) := by decide +kernel
theorem dL_size_2 : decode cL_size 2 = .ok (.aload_n 0, 1) := by decide +kernel
theorem dL_size_3 : decode cL_size 3 = .ok (.iload_n 1, 1) := by decide +kernel
theorem dL_size_4 : decode cL_size 4 = .ok (.iload_n 2, 1) := by decide +kernel
theorem dL_size_5 : decode cL_size 5 = .ok (.invokevirtual 56, 3) := by decide +kernel
theorem dL_size_8 : decode cL_size 8 = .ok (.i2l, 1) := by decide +kernel
theorem dL_size_9 : decode cL_size 9 = .ok (.lastore, 1) := by decide +kernel
theorem dL_size_10 : decode cL_size 10 = .ok (.goto 7, 3) := by decide +kernel
theorem dL_size_13 : decode cL_size 13 = .ok (.astore 4, 2) := by decide +kernel
theorem dL_size_15 : decode cL_size 15 = .ok (.iconst 1, 1) := by decide +kernel
theorem dL_size_16 : decode cL_size 16 = .ok (.ireturn, 1) := by decide +kernel
theorem dL_size_17 : decode cL_size 17 = .ok (.iconst 0, 1) := by decide +kernel
theorem dL_size_18 : decode cL_size 18 = .ok (.ireturn, 1) := by decide +kernel
set_option maxRecDepth 20000 in
theorem ggL_dot_X2_dot : GoodIn wsL_dot wsX2_dot := goodIn_ca (goodIn_r _ [6, 7, 8, 9, 10, 5, 11, 12, 13, 14, 15, 16, 17, 18, 19, 20, 21, 22, 23, 24, 25, 26, 27, 28, 29, 30, 31, 32, 33, 34, 35, 36, 37, 38, 39, 40, 41, 42, 43, 44, 45] (by decide +kernel) (by decide +kernel)) (goodIn_sub (fun _ h => List.mem_cons_of_mem _ (List.mem_append_right _ h)) (by decide +kernel))
set_option maxRecDepth 20000 in
theorem gL_dot_X2_dot : GoodIn wsL_dot (wsV RL 59 RX2 yX2_dot wsX2_dot) := goodIn_app (goodIn_of _ (by decide +kernel)) ggL_dot_X2_dot
theorem dL_dot_0 : decode cL_dot 0 = .ok (.aload 6, 2) := by decide +kernel
theorem dL_dot_2 : decode cL_dot 2 = .ok (.iconst 0, 1) := by decide +kernel
theorem dL_dot_3 : decode cL_dot 3 = .ok (.aload_n 0, 1) := by decide +kernel
theorem dL_dot_4 : decode cL_dot 4 = .ok (.iload_n 1, 1) := by decide +kernel
theorem dL_dot_5 : decode cL_dot 5 = .ok (.iload_n 2, 1) := by decide +kernel
theorem dL_dot_6 : decode cL_dot 6 = .ok (.iload_n 3, 1) := by decide +kernel
theorem dL_dot_7 : decode cL_dot 7 = .ok (.iload 4, 2) := by decide +kernel
theorem dL_dot_9 : decode cL_dot 9 = .ok (.iload 5, 2) := by decide +kernel
theorem dL_dot_11 : decode cL_dot 11 = .ok (.invokevirtual 59, 3) := by decide +kernel
theorem dL_dot_14 : decode cL_dot 14 = .ok (.i2l, 1) := by decide +kernel
theorem dL_dot_15 : decode cL_dot 15 = .ok (.lastore, 1) := by decide +kernel
theorem dL_dot_16 : decode cL_dot 16 = .ok (.goto 7, 3) := by decide +kernel
theorem dL_dot_19 : decode cL_dot 19 = .ok (.astore 7, 2) := by decide +kernel
theorem dL_dot_21 : decode cL_dot 21 = .ok (.iconst 1, 1) := by decide +kernel
theorem dL_dot_22 : decode cL_dot 22 = .ok (.ireturn, 1) := by decide +kernel
theorem dL_dot_23 : decode cL_dot 23 = .ok (.iconst 0, 1) := by decide +kernel
theorem dL_dot_24 : decode cL_dot 24 = .ok (.ireturn, 1) := by decide +kernel
set_option maxRecDepth 20000 in
theorem ggL_value_X2_value : GoodIn wsL_value wsX2_value := goodIn_ca (goodIn_r _ [6, 7, 8, 9, 10, 11, 5, 12, 13, 14, 15, 16, 17, 18, 19, 20, 21, 22, 23, 24, 25, 26, 27, 28, 29, 30, 31, 32, 33, 34, 35, 36, 37, 38, 39] (by decide +kernel) (by decide +kernel)) (goodIn_sub (fun _ h => List.mem_cons_of_mem _ (List.mem_append_right _ h)) (by decide +kernel))
set_option maxRecDepth 20000 in
theorem gL_value_X2_value : GoodIn wsL_value (wsV RL 63 RX2 yX2_value wsX2_value) := goodIn_app (goodIn_of _ (by decide +kernel)) ggL_value_X2_value
theorem dL_value_0 : decode cL_value 0 = .ok (.aload 5, 2) := by decide +kernel
theorem dL_value_2 : decode cL_value 2 = .ok (.iconst 0, 1) := by decide +kernel
theorem dL_value_3 : decode cL_value 3 = .ok (.aload_n 0, 1) := by decide +kernel
theorem dL_value_4 : decode cL_value 4 = .ok (.iload_n 1, 1) := by decide +kernel
theorem dL_value_5 : decode cL_value 5 = .ok (.iload_n 2, 1) := by decide +kernel
theorem dL_value_6 : decode cL_value 6 = .ok (.iload_n 3, 1) := by decide +kernel
theorem dL_value_7 : decode cL_value 7 = .ok (.iload 4, 2) := by decide +kernel
theorem dL_value_9 : decode cL_value 9 = .ok (.invokevirtual 63, 3) := by decide +kernel
theorem dL_value_12 : decode cL_value 12 = .ok (.i2l, 1) := by decide +kernel
theorem dL_value_13 : decode cL_value 13 = .ok (.lastore, 1) := by decide +kernel
theorem dL_value_14 : decode cL_value 14 = .ok (.goto 7, 3) := by decide +kernel
theorem dL_value_17 : decode cL_value 17 = .ok (.astore 6, 2) := by decide +kernel
theorem dL_value_19 : decode cL_value 19 = .ok (.iconst 1, 1) := by decide +kernel
theorem dL_value_20 : decode cL_value 20 = .ok (.ireturn, 1) := by decide +kernel
theorem dL_value_21 : decode cL_value 21 = .ok (.iconst 0, 1) := by decide +kernel
theorem dL_value_22 : decode cL_value 22 = .ok (.ireturn, 1) := by decide +kernel
set_option maxRecDepth 20000 in
theorem ggL_values_X2_values : GoodIn wsL_values wsX2_values := goodIn_ca (goodIn_r _ [6, 7, 8, 9, 10, 5, 11, 12, 13, 14, 15, 16, 17, 18, 19, 20, 21, 22, 23, 24, 25, 26, 27, 28, 29, 30, 31, 32, 33, 34] (by decide +kernel) (by decide +kernel)) (goodIn_sub (fun _ h => List.mem_cons_of_mem _ (List.mem_append_right _ h)) (by decide +kernel))
set_option maxRecDepth 20000 in
theorem gL_values_X2_values : GoodIn wsL_values (wsV RL 67 RX2 yX2_values wsX2_values) := goodIn_app (goodIn_of _ (by decide +kernel)) ggL_values_X2_values
theorem dL_values_0 : decode cL_values 0 = .ok (.aload_n 3, 1) := by decide +kernel
theorem dL_values_1 : decode cL_values 1 = .ok (.iconst 0, 1) := by decide +kernel
theorem dL_values_2 : decode cL_values 2 = .ok (.aload_n 0, 1) := by decide +kernel
theorem dL_values_3 : decode cL_values 3 = .ok (.iload_n 1, 1) := by decide +kernel
theorem dL_values_4 : decode cL_values 4 = .ok (.iload_n 2, 1) := by decide +kernel
theorem dL_values_5 : decode cL_values 5 = .ok (.invokevirtual 67, 3) := by decide +kernel
theorem dL_values_8 : decode cL_values 8 = .ok (.i2l, 1) := by decide +kernel
theorem dL_values_9 : decode cL_values 9 = .ok (.lastore, 1) := by decide +kernel
theorem dL_values_10 : decode cL_values 10 = .ok (.goto 7, 3) := by decide +kernel
theorem dL_values_13 : decode cL_values 13 = .ok (.astore 4, 2) := by decide +kernel
theorem dL_values_15 : decode cL_values 15 = .ok (.iconst 1, 1) := by decide +kernel
theorem dL_values_16 : decode cL_values 16 = .ok (.ireturn, 1) := by decide +kernel
theorem dL_values_17 : decode cL_values 17 = .ok (.iconst 0, 1) := by decide +kernel
theorem dL_values_18 : decode cL_values 18 = .ok (.ireturn, 1) := by decide +kernel
set_option maxRecDepth 20000 in
theorem ggL_total_X2_total : GoodIn wsL_total wsX2_total := goodIn_ca (goodIn_r _ [6, 7, 8, 9, 10, 5, 11, 12, 13, 14, 15, 16, 17, 18, 19, 20, 21, 22, 23, 24, 25, 26, 27, 28, 29, 30, 31, 32, 33, 34, 35] (by decide +kernel) (by decide +kernel)) (goodIn_sub (fun _ h => List.mem_cons_of_mem _ (List.mem_append_right _ h)) (by decide +kernel))
set_option maxRecDepth 20000 in
theorem gL_total_X2_total : GoodIn wsL_total (wsV RL 70 RX2 yX2_total wsX2_total) := goodIn_app (goodIn_of _ (by decide +kernel)) ggL_total_X2_total
theorem dL_total_0 : decode cL_total 0 = .ok (.aload_n 3, 1) := by decide +kernel
theorem dL_total_1 : decode cL_total 1 = .ok (.iconst 0, 1) := by decide +kernel
theorem dL_total_2 : decode cL_total 2 = .ok (.aload_n 0, 1) := by decide +kernel
theorem dL_total_3 : decode cL_total 3 = .ok (.iload_n 1, 1) := by decide +kernel
theorem dL_total_4 : decode cL_total 4 = .ok (.iload_n 2, 1) := by decide +kernel
theorem dL_total_5 : decode cL_total 5 = .ok (.invokevirtual 70, 3) := by decide +kernel
theorem dL_total_8 : decode cL_total 8 = .ok (.i2l, 1) := by decide +kernel
theorem dL_total_9 : decode cL_total 9 = .ok (.lastore, 1) := by decide +kernel
theorem dL_total_10 : decode cL_total 10 = .ok (.goto 7, 3) := by decide +kernel
theorem dL_total_13 : decode cL_total 13 = .ok (.astore 4, 2) := by decide +kernel
theorem dL_total_15 : decode cL_total 15 = .ok (.iconst 1, 1) := by decide +kernel
theorem dL_total_16 : decode cL_total 16 = .ok (.ireturn, 1) := by decide +kernel
theorem dL_total_17 : decode cL_total 17 = .ok (.iconst 0, 1) := by decide +kernel
theorem dL_total_18 : decode cL_total 18 = .ok (.ireturn, 1) := by decide +kernel
set_option maxRecDepth 20000 in
theorem ggL_vector_X2_vector : GoodIn wsL_vector wsX2_vector := goodIn_ca (goodIn_r _ [6, 7, 8, 9, 10, 11, 5, 12, 13, 14, 15, 16, 17, 18, 19, 20, 21, 22, 23, 24, 25, 26, 27, 28, 29] (by decide +kernel) (by decide +kernel)) (goodIn_sub (fun _ h => List.mem_cons_of_mem _ (List.mem_append_right _ h)) (by decide +kernel))
set_option maxRecDepth 20000 in
theorem gL_vector_X2_vector : GoodIn wsL_vector (wsV RL 73 RX2 yX2_vector wsX2_vector) := goodIn_app (goodIn_of _ (by decide +kernel)) ggL_vector_X2_vector
theorem dL_vector_0 : decode cL_vector 0 = .ok (.aload_n 3, 1) := by decide +kernel
theorem dL_vector_1 : decode cL_vector 1 = .ok (.iconst 0, 1) := by decide +kernel
theorem dL_vector_2 : decode cL_vector 2 = .ok (.aload_n 0, 1) := by decide +kernel
theorem dL_vector_3 : decode cL_vector 3 = .ok (.iload_n 1, 1) := by decide +kernel
theorem dL_vector_4 : decode cL_vector 4 = .ok (.iload_n 2, 1) := by decide +kernel
theorem dL_vector_5 : decode cL_vector 5 = .ok (.invokevirtual 73, 3) := by decide +kernel
theorem dL_vector_8 : decode cL_vector 8 = .ok (.i2l, 1) := by decide +kernel
theorem dL_vector_9 : decode cL_vector 9 = .ok (.lastore, 1) := by decide +kernel
theorem dL_vector_10 : decode cL_vector 10 = .ok (.goto 7, 3) := by decide +kernel
theorem dL_vector_13 : decode cL_vector 13 = .ok (.astore 4, 2) := by decide +kernel
theorem dL_vector_15 : decode cL_vector 15 = .ok (.iconst 1, 1) := by decide +kernel
theorem dL_vector_16 : decode cL_vector 16 = .ok (.ireturn, 1) := by decide +kernel
theorem dL_vector_17 : decode cL_vector 17 = .ok (.iconst 0, 1) := by decide +kernel
theorem dL_vector_18 : decode cL_vector 18 = .ok (.ireturn, 1) := by decide +kernel
set_option maxRecDepth 20000 in
theorem ggL_same_X2_same : GoodIn wsL_same wsX2_same := goodIn_ca (goodIn_r _ [6, 7, 8, 9, 10, 5, 11, 12, 13, 14, 15, 16, 17, 18, 19, 20, 21, 22, 23, 24, 25, 26, 27, 28, 29, 30, 31, 32, 33, 34, 35, 36, 37, 38, 39, 40, 41, 42, 43] (by decide +kernel) (by decide +kernel)) (goodIn_sub (fun _ h => List.mem_cons_of_mem _ (List.mem_append_right _ h)) (by decide +kernel))
set_option maxRecDepth 20000 in
theorem gL_same_X2_same : GoodIn wsL_same (wsV RL 76 RX2 yX2_same wsX2_same) := goodIn_app (goodIn_of _ (by decide +kernel)) ggL_same_X2_same
theorem dL_same_0 : decode cL_same 0 = .ok (.aload_n 3, 1) := by decide +kernel
theorem dL_same_1 : decode cL_same 1 = .ok (.iconst 0, 1) := by decide +kernel
theorem dL_same_2 : decode cL_same 2 = .ok (.aload_n 0, 1) := by decide +kernel
theorem dL_same_3 : decode cL_same 3 = .ok (.iload_n 1, 1) := by decide +kernel
theorem dL_same_4 : decode cL_same 4 = .ok (.iload_n 2, 1) := by decide +kernel
theorem dL_same_5 : decode cL_same 5 = .ok (.invokevirtual 76, 3) := by decide +kernel
theorem dL_same_8 : decode cL_same 8 = .ok (.ifCond .eq 7, 3) := by decide +kernel
theorem dL_same_11 : decode cL_same 11 = .ok (.lconst 1, 1) := by decide +kernel
theorem dL_same_12 : decode cL_same 12 = .ok (.goto 4, 3) := by decide +kernel
theorem dL_same_15 : decode cL_same 15 = .ok (.lconst 0, 1) := by decide +kernel
theorem dL_same_16 : decode cL_same 16 = .ok (.lastore, 1) := by decide +kernel
end
section
section GwCopyQ
variable {p : Program} {l : Launch} {e : Env} {R : Room} {s : State} {m : MethodId} {args : Array Value} {below : List Frame} {meth : Method} {c : Code} {H : Heap} {locs : List Loc} {cells slots : Nat} {Q : State → Prop}
variable {cc : ByteArray} {pc : Nat} {ls : Array Slot} {rest : List Value} {K : gw_C} {M : gw_M} {a a0 : Nat} {tys : List (ClassId × FieldType)} {H0 : Heap}
/-- an object in the world, as an element of an array of E -/
theorem gw_any (hK : va_K K.1 vwCl tys s) (hG : gw_B K M H0 H locs) {y ci : Nat} {vs : List Value} {r : vw_C} {E : String} (hM : M y = some (.inr (ci, vs))) (hc : vwCl[ci]? = some r) (hca : va_Nw (.castable r.1 E) s) : va_Any E s H y := by
  obtain ⟨ws, hL, hP, hD, hS, h0⟩ := hG
  obtain ⟨q0, hq⟩ := (hL _ _).mp hM
  obtain ⟨c3, c4, hc3, hc4, hasg⟩ := Cond.castable_spec hca
  refine va_rAny hK hP hq hc (fun comp c0 h1 h2 => ?_)
  cases Option.some.inj (hc4.symm.trans h1)
  cases Option.some.inj (hc3.symm.trans h2)
  exact hasg
/-- System.arraycopy between arrays of Object (one and the same array too) -/
theorem gw_copyq (hexec : p.tables.exec = Jvm.exec) (hb : c.code = cc) (hml : c.maxLocals = ls.size) {own : String} {index : Nat} (hown : s.vm.findClass own = some m.cls) (hlink : (Cond.methodLink own index arraycopyName).before args s = true) (hnat : (Cond.native arraycopyName).before args s = true) (hstat : (Cond.static arraycopyName).before args s = true) (hini : (Cond.initialized "java/lang/System").before args s = true)
    (hK : va_K K.1 vwCl tys s) (hG : gw_B K M H0 H locs) {cA : ClassId} {E : String} {n0 n1 sp dp nn : Nat} {f g : Nat → Option Nat} (hM0 : M a0 = some (.inl (cA, n0, .inr (.inr (.inr (.inr f)))))) (hM1 : M a = some (.inl (cA, n1, .inr (.inr (.inr (.inr g)))))) (t0 : Nat) (ht : tys[t0]? = some (cA, .object E)) (h4 : sp + nn ≤ n0) (h5 : dp + nn ≤ n1) (hn0 : n0 < 2 ^ 31) (hn1 : n1 < 2 ^ 31)
    (hel : ∀ i : Nat, i < nn → ∀ y : Nat, f (sp + i) = some y → va_Any E s H y)
    (hframes : 1 ≤ R.frames) (hlocals : (rest.map fun v => v.category).sum + (nativeFrameWords "java/lang/System" "arraycopy" 5 + 11) ≤ R.locals) (hdg : decode cc pc = .ok (.invokestatic index, 3))
    (kk : ∀ (H1 : Heap) (locs1 : List Loc), gw_B K (gw_up M a (.inl (cA, n1, .inr (.inr (.inr (.inr (va_cpy f g sp dp nn))))))) H0 H1 locs1 → W p l e R s m args below meth c H1 locs1 cells slots Q (F0 m (pc + 3) ls rest)) : W p l e R s m args below meth c H locs cells slots Q (F0 m pc ls (.int (nI nn) :: .int (nI dp) :: .ref a :: .int (nI sp) :: .ref a0 :: rest)) := by
  obtain ⟨ws, hL, hP, hD, hS, h0⟩ := hG
  obtain ⟨q0, hq0⟩ := (hL _ _).mp hM0
  obtain ⟨q1, hq1⟩ := (hL _ _).mp hM1
  have es : (nI sp).toNatClampNeg = sp := nI_clamp (by omega)
  have ed : (nI dp).toNatClampNeg = dp := nI_clamp (by omega)
  have en : (nI nn).toNatClampNeg = nn := nI_clamp (by omega)
  refine va_copyM hexec hb hml hown hlink hnat hstat hini hK hP hD hS q0 q1 t0 t0 hq0 hq1 ht ht (nI_pos (by omega)) (nI_pos (by omega)) (nI_pos (by omega)) (by rw [es, en]; omega) (by rw [ed, en]; omega) (fun i hi y hy => ?_) hframes hlocals hdg (fun H1 locs1 hP1 hD1 hS1 => ?_)
  · rw [en] at hi
    rw [es] at hy
    exact hel i hi y hy
  · rw [es, ed, en] at hP1 hD1
    exact kk H1 locs1 (gw_B.put hL hD hq1 h0 hP1 hD1 hS1)
theorem gw_astq_n (hexec : p.tables.exec = Jvm.exec) (hb : c.code = cc) (hK : va_K K.1 vwCl tys s) (hG : gw_B K M H0 H locs) {E : String} {cA : ClassId} {r : vw_C} {n v j : Nat} {vs : List Value} {f : Nat → Option Nat} (hM : M a = some (.inl (cA, n, .inr (.inr (.inr (.inr f)))))) (t0 : Nat) (ht : tys[t0]? = some (cA, .object E)) (hca : va_Nw (.castable r.1 E) s) (ci : Nat) (hv : M v = some (.inr (ci, vs))) (hc : vwCl[ci]? = some r) (hj : j < n) (hn : n < 2 ^ 31) (hdg : decode cc pc = .ok (.aastore, 1))
    (kk : ∀ (H1 : Heap) (locs1 : List Loc), gw_B K (gw_up M a (.inl (cA, n, .inr (.inr (.inr (.inr (va_up f j (some v)))))))) H0 H1 locs1 → W p l e R s m args below meth c H1 locs1 cells slots Q (F0 m (pc + 1) ls rest)) : W p l e R s m args below meth c H locs cells slots Q (F0 m pc ls (.ref v :: .int (nI j) :: .ref a :: rest)) :=
  gw_astqO hexec hb hK hG hM t0 ht hca ci hv hc (gw_in hj hn) hdg (fun H1 locs1 h => kk H1 locs1 (by rw [nI_clamp (by omega)] at h; exact h))
theorem gw_astn_n (hexec : p.tables.exec = Jvm.exec) (hb : c.code = cc) (hK : va_K K.1 vwCl tys s) (hG : gw_B K M H0 H locs) {C : String} {cA : ClassId} {n j : Nat} {f : Nat → Option Nat} (hM : M a = some (.inl (cA, n, .inr (.inr (.inr (.inr f)))))) (t0 : Nat) (ht : tys[t0]? = some (cA, .object C)) (hj : j < n) (hn : n < 2 ^ 31) (hdg : decode cc pc = .ok (.aastore, 1))
    (kk : ∀ (H1 : Heap) (locs1 : List Loc), gw_B K (gw_up M a (.inl (cA, n, .inr (.inr (.inr (.inr (va_up f j none))))))) H0 H1 locs1 → W p l e R s m args below meth c H1 locs1 cells slots Q (F0 m (pc + 1) ls rest)) : W p l e R s m args below meth c H locs cells slots Q (F0 m pc ls (.null :: .int (nI j) :: .ref a :: rest)) :=
  gw_astqN hexec hb hK hG hM t0 ht (gw_in hj hn) hdg (fun H1 locs1 h => kk H1 locs1 (by rw [nI_clamp (by omega)] at h; exact h))
end GwCopyQ
/-! ARRAYLIST: the list w of sz elements, f: the array (at a, of cap places; ArrayList's own empty one where there never was an element) -/
def al (K : gw_C) (M : gw_M) (w a cap sz : Nat) (mc : Int32) (f : Nat → Option Nat) : Prop :=
  M w = some (.inr (0, [.int mc, .ref a, .int (nI sz)])) ∧ sz ≤ 100 ∧ ((a = K.2.2.2.1 ∧ cap = 0 ∧ sz = 0) ∨ (M a = some (.inl (K.2.1 3, cap, .inr (.inr (.inr (.inr f))))) ∧ sz ≤ cap ∧ 10 ≤ cap ∧ cap ≤ 150))
/-- its elements are messages -/
def ael (M : gw_M) (sz : Nat) (f : Nat → Option Nat) : Prop := ∀ k, k < sz → ∃ y vs, f k = some y ∧ M y = some (.inr (2, vs))
end
section
/-! HOLDING: its picture and its methods' contracts. V = (seen, numbers, written, added, taken) -/
abbrev hV : Type := (Nat → Int32) × (Nat → Int32) × (Nat → Int32) × (Nat → Int64) × (Nat → Int64)
def hd (K : gw_C) (M : gw_M) (h : Nat) (ad : Nat → Nat) (V : hV) : Prop :=
  M h = some (.inr (1, [.ref (ad 0), .ref (ad 1), .ref (ad 2), .ref (ad 3), .ref (ad 4)])) ∧ M (ad 0) = some (.inl (K.2.1 0, 6, .inl V.1)) ∧ M (ad 1) = some (.inl (K.2.1 0, 408, .inl V.2.1)) ∧ M (ad 2) = some (.inl (K.2.1 0, 24, .inl V.2.2.1)) ∧ M (ad 3) = some (.inl (K.2.1 1, 24, .inr (.inl V.2.2.2.1))) ∧ M (ad 4) = some (.inl (K.2.1 1, 24, .inr (.inl V.2.2.2.2))) ∧ ∀ i j, i < 5 → j < 5 → ad i = ad j → i = j
/-- how many dots a place has, among the first k makers -/
def dcnt (f : Nat → Int32) (pl : Nat) : Nat → Nat
  | 0 => 0
  | k + 1 => dcnt f pl k + (if f (pl * 6 + k) = 0 then 0 else 1)
theorem dcnt_le (f : Nat → Int32) (pl k : Nat) : dcnt f pl k ≤ k := by
  induction k with
  | zero => exact Nat.le_refl 0
  | succ k ih =>
    show dcnt f pl k + (if f (pl * 6 + k) = 0 then 0 else 1) ≤ k + 1
    split <;> omega
theorem gw_io {M : gw_M} {a b : Nat} {o : Nat × List Value} {x : ClassId × vp_A} (ha : M a = some (.inr o)) (hb : M b = some (.inl x)) : a ≠ b := fun z => by
  rw [z, hb] at ha
  cases ha
/-- nothing but the arrays at ad has changed -/
def hfr (M M1 : gw_M) (ad : Nat → Nat) : Prop := ∀ q, (∀ i, i < 5 → q ≠ ad i) → M1 q = M q
theorem hfr.rf {M : gw_M} {ad : Nat → Nat} : hfr M M ad := fun _ _ => rfl
theorem hfr.tr {M M1 M2 : gw_M} {ad : Nat → Nat} (h1 : hfr M M1 ad) (h2 : hfr M1 M2 ad) : hfr M M2 ad := fun q hq => (h2 q hq).trans (h1 q hq)
/-- a place's first i numbers made 0 -/
def hclr (f : Nat → Int32) (pl i : Nat) : Nat → Int32 := fun j => if pl * 6 ≤ j ∧ j < pl * 6 + i then 0 else f j
theorem hclr_0 (f : Nat → Int32) (pl : Nat) : hclr f pl 0 = f := by
  funext j
  unfold hclr
  rw [if_neg (by omega)]
theorem hclr_s (f : Nat → Int32) (pl i : Nat) : upd (hclr f pl i) (pl * 6 + i) (nI 0) = hclr f pl (i + 1) := by
  funext j
  unfold upd hclr
  by_cases h : j = pl * 6 + i
  · rw [if_pos h, if_pos (by omega)]; rfl
  · rw [if_neg h]
    by_cases h2 : pl * 6 ≤ j ∧ j < pl * 6 + i
    · rw [if_pos h2, if_pos (by omega)]
    · rw [if_neg h2, if_neg (by omega)]
/-- which maker's dot is the one at place ii, among the first k: -1 where there is none -/
def mko (f : Nat → Int32) (pl : Nat) (ii : Int32) : Nat → Int32
  | 0 => -1
  | k + 1 => if mko f pl ii k = -1 then (if f (pl * 6 + k) = 0 then -1 else if nI (dcnt f pl k) = ii then nI k else -1) else mko f pl ii k
theorem mko_stay (f : Nat → Int32) (pl : Nat) (ii : Int32) (k : Nat) (h : mko f pl ii k ≠ -1) : ∀ j, mko f pl ii (k + j) = mko f pl ii k := by
  intro j
  induction j with
  | zero => rfl
  | succ j ih =>
    show (if mko f pl ii (k + j) = -1 then _ else mko f pl ii (k + j)) = _
    rw [ih, if_neg h]
theorem nI_ne1 {k : Nat} (h : k < 2 ^ 31) : nI k ≠ -1 := fun q => by
  have := nI_toInt h
  rw [q] at this
  have e : (-1 : Int32).toInt = -1 := by decide
  omega
/-- a counter's value, of the first k replicas -/
def wsum (f g : Nat → Int64) (ct : Nat) : Nat → Int64
  | 0 => 0
  | k + 1 => wsum f g ct k + (f (ct * 6 + k) - g (ct * 6 + k))
set_option maxHeartbeats 4000000 in
set_option maxRecDepth 100000 in
/-- dotsAt: how many -/
theorem c_dotsAt (l : Launch) (K : gw_C) (M : gw_M) (h : Nat) (ad : Nat → Nat) (V : hV) (pl : Nat) (hh : hd K M h ad V) (hp : pl < 68) : Met l yX0_dotsAt wsX0_dotsAt ({ frames := 0, cells := 0, slots := 0, locals := 0 } : Room) (va_Pc [.ref h, .int (nI pl)] (gw_I K M)) (va_Qi (fun r M1 => M1 = M ∧ r = nI (dcnt V.2.1 pl 6)) (gw_I K) (gw_A K)) 0 0 (gw_A K) := by
  refine Met.ofW (cc := cX0_dotsAt) (maxL := 4) (ret := (some .int)) (by decide) rfl ?_
  intro p e s m args below meth c s₁ B hml hv
  obtain ⟨hav, hI⟩ := hv
  have hx := B.exec
  have hb := B.bytes
  have hr := B.returns
  have hts := atoms_spec (ws := wsX0_dotsAt) B.pre
  have hown : s.vm.findClass RX0 = some m.cls := findClass_of_methodNamed B.named
  have hlocks : meth.locks = false := B.notSynchronized
  have hT := hI.2.2
  have hK := hT.K
  have hG := hI.B
  have hf15 := hts (.fieldLink RX0 15 "DotGossip$Holding" "numbers" "[I") (by decide +kernel)
  have hinX0 : ∀ w ∈ wsX00, w ∈ wsX0_dotsAt := by decide +kernel
  have hE : entryFrame m args 4 = entryFrame m ([.ref h, .int (nI pl)] : List Value).toArray 4 := by rw [hav]
  rw [hE]
  have hl := lv_entry ([.ref h, .int (nI pl)]) (n := 4) (Nat.le_of_ble_eq_true rfl)
  rw [lg_entry_eq]
  generalize (lg_sl ([.ref h, .int (nI pl)]) ++ List.replicate (4 - (lg_sl ([.ref h, .int (nI pl)])).length) Slot.unset).toArray = ls at hl ⊢
  have hl : lv_has ls 4 [(0, .ref h), (1, .int (nI pl))] := hl
  obtain ⟨h_0, h_s, h_n, h_w, h_a, h_t, h_ne⟩ := id hh
  have hloop : ∀ (n : Nat) (i : Nat), i ≤ 6 → 6 + 1 ≤ i + n → ∀ (ls : Array Slot), lv_has ls 4 [(3, .int (nI i)), (2, .int (nI (dcnt V.2.1 pl i))), (0, .ref h), (1, .int (nI pl))] → W p l e ({ frames := 0, cells := 0, slots := 0, locals := 0 } : Room) s m args below meth c s.heap [] 0 0 (MQ below (va_Qi (fun r M1 => M1 = M ∧ r = nI (dcnt V.2.1 pl 6)) (gw_I K) (gw_A K)) args s 0 0 (gw_A K)) (F0 m 4 ls []) := by
    intro n
    induction n with
    | zero =>
      intro i hg0 hm
      exact absurd hm (by omega)
    | succ n ih =>
      intro i hg0 hm ls hl
      have hd9 := dcnt_le V.2.1 pl i
      refine lv_iload_n hx hb dX0_dotsAt_4 rfl (lv_at hl 0 rfl) ?_
      refine lv_bipush (v := nI 6) hx hb dX0_dotsAt_5 (by decide) ?_
      refine gw_icmp_ge hx hb (by omega) (by omega) (tgt := 33) dX0_dotsAt_7 (by decide) (fun hc => ?_) (fun hc => ?_)
      · obtain rfl : i = 6 := by omega
        refine lv_iload_n hx hb dX0_dotsAt_33 rfl (lv_at hl 1 rfl) ?_
        exact gw_iret hx hb hr hlocks hG hT (by omega) (by omega) dX0_dotsAt_34 ⟨rfl, rfl⟩
      · refine lv_aload_n hx hb dX0_dotsAt_10 rfl (lv_at hl 2 rfl) ?_
        refine gw_get (ci := 1) (C := RX0) (T := TX0) (N := 5) hx hb hts hinX0 hown hK hG h_0 rfl 1 (by decide) hf15 (fun _ h9 => h9) rfl dX0_dotsAt_11 ?_
        refine lv_iload_n hx hb dX0_dotsAt_14 rfl (lv_at hl 3 rfl) ?_
        refine lv_bipush (v := nI 6) hx hb dX0_dotsAt_15 (by decide) ?_
        refine gw_imul hx hb dX0_dotsAt_17 ?_
        refine lv_iload_n hx hb dX0_dotsAt_18 rfl (lv_at hl 0 rfl) ?_
        refine gw_iadd hx hb dX0_dotsAt_19 ?_
        refine gw_iald_n hx hb hK hG h_n 0 rfl (by omega) (by omega) dX0_dotsAt_20 ?_
        refine lv_if_eq hx hb (tgt := 27) dX0_dotsAt_21 (by decide) (fun hz => ?_) (fun hz => ?_)
        · have e9 : dcnt V.2.1 pl (i + 1) = dcnt V.2.1 pl i := by simp [dcnt, hz]
          refine lv_iinc (v := nI (i + 1)) (lv' := [(3, .int (nI (i + 1))), (2, .int (nI (dcnt V.2.1 pl i))), (0, .ref h), (1, .int (nI pl))]) hx hb dX0_dotsAt_27 hl (k := 0) rfl (gw_inc _) (by decide) rfl (fun ls hl => ?_)
          refine lv_goto (tgt := 4) hx hb dX0_dotsAt_30 (by decide) ?_
          rw [← e9] at hl
          exact ih (i + 1) (by omega) (by omega) ls (lv_sub hl [0, 1, 2, 3] rfl)
        · have e9 : dcnt V.2.1 pl (i + 1) = dcnt V.2.1 pl i + 1 := by simp [dcnt, hz]
          refine lv_iinc (v := nI ((dcnt V.2.1 pl i) + 1)) (lv' := [(2, .int (nI ((dcnt V.2.1 pl i) + 1))), (3, .int (nI i)), (0, .ref h), (1, .int (nI pl))]) hx hb dX0_dotsAt_24 hl (k := 1) rfl (gw_inc _) (by decide) rfl (fun ls hl => ?_)
          refine lv_iinc (v := nI (i + 1)) (lv' := [(3, .int (nI (i + 1))), (2, .int (nI ((dcnt V.2.1 pl i) + 1))), (0, .ref h), (1, .int (nI pl))]) hx hb dX0_dotsAt_27 hl (k := 1) rfl (gw_inc _) (by decide) rfl (fun ls hl => ?_)
          refine lv_goto (tgt := 4) hx hb dX0_dotsAt_30 (by decide) ?_
          rw [← e9] at hl
          exact ih (i + 1) (by omega) (by omega) ls (lv_sub hl [0, 1, 2, 3] rfl)
  refine lv_iconst (v := nI 0) hx hb dX0_dotsAt_0 (by decide) ?_
  refine lv_istore_n (lv' := [(2, .int (nI 0)), (0, .ref h), (1, .int (nI pl))]) hx hb dX0_dotsAt_1 rfl hl (by decide) rfl (fun ls hl => ?_)
  refine lv_iconst (v := nI 0) hx hb dX0_dotsAt_2 (by decide) ?_
  refine lv_istore_n (lv' := [(3, .int (nI 0)), (2, .int (nI 0)), (0, .ref h), (1, .int (nI pl))]) hx hb dX0_dotsAt_3 rfl hl (by decide) rfl (fun ls hl => ?_)
  exact hloop 7 0 (by omega) (by omega) ls (lv_sub hl [0, 1, 2, 3] rfl)

set_option maxHeartbeats 4000000 in
set_option maxRecDepth 100000 in
/-- makeDot: the next number -/
theorem c_makeDot (l : Launch) (K : gw_C) (M : gw_M) (h : Nat) (ad : Nat → Nat) (V : hV) (pl mk : Nat) (hh : hd K M h ad V) (hp : pl < 68) (hk : mk < 6) : Met l yX0_makeDot wsX0_makeDot ({ frames := 0, cells := 0, slots := 0, locals := 0 } : Room) (va_Pc [.ref h, .int (nI pl), .int (nI mk)] (gw_I K M)) (va_Qi (fun r M1 => r = V.1 mk + nI 1 ∧ hd K M1 h ad (upd V.1 mk (V.1 mk + nI 1), upd V.2.1 (pl * 6 + mk) (V.1 mk + nI 1), V.2.2) ∧ hfr M M1 ad) (gw_I K) (gw_A K)) 0 0 (gw_A K) := by
  refine Met.ofW (cc := cX0_makeDot) (maxL := 3) (ret := (some .int)) (by decide) rfl ?_
  intro p e s m args below meth c s₁ B hml hv
  obtain ⟨hav, hI⟩ := hv
  have hx := B.exec
  have hb := B.bytes
  have hr := B.returns
  have hts := atoms_spec (ws := wsX0_makeDot) B.pre
  have hown : s.vm.findClass RX0 = some m.cls := findClass_of_methodNamed B.named
  have hlocks : meth.locks = false := B.notSynchronized
  have hT := hI.2.2
  have hK := hT.K
  have hG := hI.B
  have hf9 := hts (.fieldLink RX0 9 "DotGossip$Holding" "seen" "[I") (by decide +kernel)
  have hf15 := hts (.fieldLink RX0 15 "DotGossip$Holding" "numbers" "[I") (by decide +kernel)
  have hinX0 : ∀ w ∈ wsX00, w ∈ wsX0_makeDot := by decide +kernel
  have hE : entryFrame m args 3 = entryFrame m ([.ref h, .int (nI pl), .int (nI mk)] : List Value).toArray 3 := by rw [hav]
  rw [hE]
  have hl := lv_entry ([.ref h, .int (nI pl), .int (nI mk)]) (n := 3) (Nat.le_of_ble_eq_true rfl)
  rw [lg_entry_eq]
  generalize (lg_sl ([.ref h, .int (nI pl), .int (nI mk)]) ++ List.replicate (3 - (lg_sl ([.ref h, .int (nI pl), .int (nI mk)])).length) Slot.unset).toArray = ls at hl ⊢
  have hl : lv_has ls 3 [(0, .ref h), (1, .int (nI pl)), (2, .int (nI mk))] := hl
  obtain ⟨h_0, h_s, h_n, h_w, h_a, h_t, h_ne⟩ := id hh
  have hne_1 : h ≠ ad 0 := (gw_io h_0 h_s)
  have hne_2 : h ≠ ad 1 := (gw_io h_0 h_n)
  have hne_3 : ad 0 ≠ ad 1 := (fun z => absurd (h_ne 0 1 (by decide) (by decide) z) (by decide))
  have hne_4 : ad 1 ≠ ad 0 := (fun z => absurd (h_ne 1 0 (by decide) (by decide) z) (by decide))
  have hne_5 : ad 2 ≠ ad 0 := (fun z => absurd (h_ne 2 0 (by decide) (by decide) z) (by decide))
  have hne_6 : ad 2 ≠ ad 1 := (fun z => absurd (h_ne 2 1 (by decide) (by decide) z) (by decide))
  have hne_7 : ad 3 ≠ ad 0 := (fun z => absurd (h_ne 3 0 (by decide) (by decide) z) (by decide))
  have hne_8 : ad 3 ≠ ad 1 := (fun z => absurd (h_ne 3 1 (by decide) (by decide) z) (by decide))
  have hne_9 : ad 4 ≠ ad 0 := (fun z => absurd (h_ne 4 0 (by decide) (by decide) z) (by decide))
  have hne_10 : ad 4 ≠ ad 1 := (fun z => absurd (h_ne 4 1 (by decide) (by decide) z) (by decide))
  refine lv_aload_n hx hb dX0_makeDot_0 rfl (lv_at hl 0 rfl) ?_
  refine gw_get (ci := 1) (C := RX0) (T := TX0) (N := 5) hx hb hts hinX0 hown hK hG h_0 rfl 0 (by decide) hf9 (fun _ h9 => h9) rfl dX0_makeDot_1 ?_
  refine lv_iload_n hx hb dX0_makeDot_4 rfl (lv_at hl 2 rfl) ?_
  refine lv_dup2_11 hx hb dX0_makeDot_5 rfl rfl ?_
  refine gw_iald_n hx hb hK hG h_s 0 rfl (by omega) (by omega) dX0_makeDot_6 ?_
  refine lv_iconst (v := nI 1) hx hb dX0_makeDot_7 (by decide) ?_
  refine lv_iadd hx hb dX0_makeDot_8 ?_
  refine gw_iast_n hx hb hK hG h_s 0 rfl (by omega) (by omega) dX0_makeDot_9 (fun H locs hG => ?_)
  obtain ⟨M_11, hM_12⟩ : ∃ M1 : gw_M, M1 = gw_up M (ad 0) (.inl (K.2.1 0, 6, .inl (upd V.1 mk ((V.1 mk) + (nI 1))))) := ⟨_, rfl⟩
  have hG : gw_B K M_11 s.heap H locs := by rw [hM_12]; exact hG
  have hc_13 := (congrFun hM_12 h).trans (gw_k hne_1 h_0)
  have hc_14 : M_11 (ad 0) = some (.inl (K.2.1 0, 6, .inl (upd V.1 mk ((V.1 mk) + (nI 1))))) := (congrFun hM_12 _).trans gw_s
  have hc_15 := (congrFun hM_12 (ad 1)).trans (gw_k hne_4 h_n)
  have hc_16 := (congrFun hM_12 (ad 2)).trans (gw_k hne_5 h_w)
  have hc_17 := (congrFun hM_12 (ad 3)).trans (gw_k hne_7 h_a)
  have hc_18 := (congrFun hM_12 (ad 4)).trans (gw_k hne_9 h_t)
  refine lv_aload_n hx hb dX0_makeDot_10 rfl (lv_at hl 0 rfl) ?_
  refine gw_get (ci := 1) (C := RX0) (T := TX0) (N := 5) hx hb hts hinX0 hown hK hG hc_13 rfl 1 (by decide) hf15 (fun _ h9 => h9) rfl dX0_makeDot_11 ?_
  refine lv_iload_n hx hb dX0_makeDot_14 rfl (lv_at hl 1 rfl) ?_
  refine lv_bipush (v := nI 6) hx hb dX0_makeDot_15 (by decide) ?_
  refine gw_imul hx hb dX0_makeDot_17 ?_
  refine lv_iload_n hx hb dX0_makeDot_18 rfl (lv_at hl 2 rfl) ?_
  refine gw_iadd hx hb dX0_makeDot_19 ?_
  refine lv_aload_n hx hb dX0_makeDot_20 rfl (lv_at hl 0 rfl) ?_
  refine gw_get (ci := 1) (C := RX0) (T := TX0) (N := 5) hx hb hts hinX0 hown hK hG hc_13 rfl 0 (by decide) hf9 (fun _ h9 => h9) rfl dX0_makeDot_21 ?_
  refine lv_iload_n hx hb dX0_makeDot_24 rfl (lv_at hl 2 rfl) ?_
  refine gw_iald_n hx hb hK hG hc_14 0 rfl (by omega) (by omega) dX0_makeDot_25 ?_
  refine gw_as pk_us ?_
  refine gw_iast_n hx hb hK hG hc_15 0 rfl (by omega) (by omega) dX0_makeDot_26 (fun H locs hG => ?_)
  obtain ⟨M_19, hM_20⟩ : ∃ M1 : gw_M, M1 = gw_up M_11 (ad 1) (.inl (K.2.1 0, 408, .inl (upd V.2.1 ((pl * 6) + mk) (V.1 mk + nI 1)))) := ⟨_, rfl⟩
  have hG : gw_B K M_19 s.heap H locs := by rw [hM_20]; exact hG
  have hc_21 := (congrFun hM_20 h).trans (gw_k hne_2 hc_13)
  have hc_22 := (congrFun hM_20 (ad 0)).trans (gw_k hne_3 hc_14)
  have hc_23 : M_19 (ad 1) = some (.inl (K.2.1 0, 408, .inl (upd V.2.1 ((pl * 6) + mk) (V.1 mk + nI 1)))) := (congrFun hM_20 _).trans gw_s
  have hc_24 := (congrFun hM_20 (ad 2)).trans (gw_k hne_6 hc_16)
  have hc_25 := (congrFun hM_20 (ad 3)).trans (gw_k hne_8 hc_17)
  have hc_26 := (congrFun hM_20 (ad 4)).trans (gw_k hne_10 hc_18)
  refine lv_aload_n hx hb dX0_makeDot_27 rfl (lv_at hl 0 rfl) ?_
  refine gw_get (ci := 1) (C := RX0) (T := TX0) (N := 5) hx hb hts hinX0 hown hK hG hc_21 rfl 0 (by decide) hf9 (fun _ h9 => h9) rfl dX0_makeDot_28 ?_
  refine lv_iload_n hx hb dX0_makeDot_31 rfl (lv_at hl 2 rfl) ?_
  refine gw_iald_n hx hb hK hG hc_22 0 rfl (by omega) (by omega) dX0_makeDot_32 ?_
  refine gw_as pk_us ?_
  exact gw_iret hx hb hr hlocks hG hT (by omega) (by omega) dX0_makeDot_33 ⟨rfl, ⟨hc_21, hc_22, hc_23, hc_24, hc_25, hc_26, h_ne⟩, fun q hq => by rw [hM_20, gw_n (hq 1 (by decide)), hM_12, gw_n (hq 0 (by decide))]⟩

set_option maxHeartbeats 4000000 in
set_option maxRecDepth 100000 in
/-- forget: the place has no dots behind it -/
theorem c_forget (l : Launch) (K : gw_C) (M : gw_M) (h : Nat) (ad : Nat → Nat) (V : hV) (pl : Nat) (hh : hd K M h ad V) (hp : pl < 68) : Met l yX0_forget wsX0_forget ({ frames := 1, cells := 0, slots := 0, locals := 23 } : Room) (va_Pc [.ref h, .int (nI pl)] (gw_I K M)) (va_Qi (fun r M1 => r = nI (dcnt V.2.1 pl 6) ∧ hd K M1 h ad (V.1, hclr V.2.1 pl 6, V.2.2) ∧ hfr M M1 ad) (gw_I K) (gw_A K)) 0 0 (gw_A K) := by
  refine Met.ofW (cc := cX0_forget) (maxL := 4) (ret := (some .int)) (by decide) rfl ?_
  intro p e s m args below meth c s₁ B hml hv
  obtain ⟨hav, hI⟩ := hv
  have hx := B.exec
  have hb := B.bytes
  have hr := B.returns
  have hts := atoms_spec (ws := wsX0_forget) B.pre
  have hown : s.vm.findClass RX0 = some m.cls := findClass_of_methodNamed B.named
  have hlocks : meth.locks = false := B.notSynchronized
  have hT := hI.2.2
  have hK := hT.K
  have hG := hI.B
  have hf15 := hts (.fieldLink RX0 15 "DotGossip$Holding" "numbers" "[I") (by decide +kernel)
  have hinX0 : ∀ w ∈ wsX00, w ∈ wsX0_forget := by decide +kernel
  have hE : entryFrame m args 4 = entryFrame m ([.ref h, .int (nI pl)] : List Value).toArray 4 := by rw [hav]
  rw [hE]
  have hl := lv_entry ([.ref h, .int (nI pl)]) (n := 4) (Nat.le_of_ble_eq_true rfl)
  rw [lg_entry_eq]
  generalize (lg_sl ([.ref h, .int (nI pl)]) ++ List.replicate (4 - (lg_sl ([.ref h, .int (nI pl)])).length) Slot.unset).toArray = ls at hl ⊢
  have hl : lv_has ls 4 [(0, .ref h), (1, .int (nI pl))] := hl
  obtain ⟨h_0, h_s, h_n, h_w, h_a, h_t, h_ne⟩ := id hh
  have hne_27 : h ≠ ad 1 := (gw_io h_0 h_n)
  have hne_28 : ad 0 ≠ ad 1 := (fun z => absurd (h_ne 0 1 (by decide) (by decide) z) (by decide))
  have hne_29 : ad 2 ≠ ad 1 := (fun z => absurd (h_ne 2 1 (by decide) (by decide) z) (by decide))
  have hne_30 : ad 3 ≠ ad 1 := (fun z => absurd (h_ne 3 1 (by decide) (by decide) z) (by decide))
  have hne_31 : ad 4 ≠ ad 1 := (fun z => absurd (h_ne 4 1 (by decide) (by decide) z) (by decide))
  refine lv_aload_n hx hb dX0_forget_0 rfl (lv_at hl 0 rfl) ?_
  refine lv_iload_n hx hb dX0_forget_1 rfl (lv_at hl 1 rfl) ?_
  refine gw_calli (va_runV (As := [.int (nI pl)]) (rest := []) ⟨hx, hb, hml, hown, hts⟩ (c_dotsAt l K M h ad V pl hh hp) (cwV 1 hts gX0_forget_X0_dotsAt rfl rfl rfl (by decide +kernel) ⟨Nat.le_of_ble_eq_true rfl, Nat.le_of_ble_eq_true rfl⟩) (gw_preV hG hT h_0 rfl) rfl rfl hl.1 rfl (lv_room (Nat.le_of_ble_eq_true rfl)) dX0_forget_2 ⟨Nat.le_of_ble_eq_true rfl, Nat.le_of_ble_eq_true rfl⟩) hG (fun r_32 M_33 H locs hw hG => ?_)
  rw [hw.1] at hG
  refine gw_as hw.2 ?_
  have hloop : ∀ (n : Nat) (i : Nat), i ≤ 6 → 6 + 1 ≤ i + n → ∀ (Mi : gw_M), Mi = gw_up M (ad 1) (.inl (K.2.1 0, 408, .inl (hclr V.2.1 pl i))) → ∀ (H : Heap) (locs : List Loc), gw_B K Mi s.heap H locs → ∀ (ls : Array Slot), lv_has ls 4 [(3, .int (nI i)), (2, .int (nI (dcnt V.2.1 pl 6))), (0, .ref h), (1, .int (nI pl))] → W p l e ({ frames := 1, cells := 0, slots := 0, locals := 23 } : Room) s m args below meth c H locs 0 0 (MQ below (va_Qi (fun r M1 => r = nI (dcnt V.2.1 pl 6) ∧ hd K M1 h ad (V.1, hclr V.2.1 pl 6, V.2.2) ∧ hfr M M1 ad) (gw_I K) (gw_A K)) args s 0 0 (gw_A K)) (F0 m 8 ls []) := by
    intro n
    induction n with
    | zero =>
      intro i hg0 hm
      exact absurd hm (by omega)
    | succ n ih =>
      intro i hg0 hm Mi hMi H locs hG ls hl
      have hc_34 := (congrFun hMi h).trans (gw_k hne_27 h_0)
      have hc_35 := (congrFun hMi (ad 0)).trans (gw_k hne_28 h_s)
      have hc_36 := (congrFun hMi (ad 1)).trans gw_s
      have hc_37 := (congrFun hMi (ad 2)).trans (gw_k hne_29 h_w)
      have hc_38 := (congrFun hMi (ad 3)).trans (gw_k hne_30 h_a)
      have hc_39 := (congrFun hMi (ad 4)).trans (gw_k hne_31 h_t)
      refine lv_iload_n hx hb dX0_forget_8 rfl (lv_at hl 0 rfl) ?_
      refine lv_bipush (v := nI 6) hx hb dX0_forget_9 (by decide) ?_
      refine gw_icmp_ge hx hb (by omega) (by omega) (tgt := 32) dX0_forget_11 (by decide) (fun hc => ?_) (fun hc => ?_)
      · obtain rfl : i = 6 := by omega
        refine lv_iload_n hx hb dX0_forget_32 rfl (lv_at hl 1 rfl) ?_
        exact gw_iret hx hb hr hlocks hG hT (by omega) (by omega) dX0_forget_33 ⟨rfl, ⟨hc_34, hc_35, hc_36, hc_37, hc_38, hc_39, h_ne⟩, fun q hq => by rw [hMi, gw_n (hq 1 (by decide))]⟩
      · refine lv_aload_n hx hb dX0_forget_14 rfl (lv_at hl 2 rfl) ?_
        refine gw_get (ci := 1) (C := RX0) (T := TX0) (N := 5) hx hb hts hinX0 hown hK hG hc_34 rfl 1 (by decide) hf15 (fun _ h9 => h9) rfl dX0_forget_15 ?_
        refine lv_iload_n hx hb dX0_forget_18 rfl (lv_at hl 3 rfl) ?_
        refine lv_bipush (v := nI 6) hx hb dX0_forget_19 (by decide) ?_
        refine gw_imul hx hb dX0_forget_21 ?_
        refine lv_iload_n hx hb dX0_forget_22 rfl (lv_at hl 0 rfl) ?_
        refine gw_iadd hx hb dX0_forget_23 ?_
        refine lv_iconst (v := nI 0) hx hb dX0_forget_24 (by decide) ?_
        refine gw_iast_n hx hb hK hG hc_36 0 rfl (by omega) (by omega) dX0_forget_25 (fun H locs hG => ?_)
        obtain ⟨M_40, hM_41⟩ : ∃ M1 : gw_M, M1 = gw_up Mi (ad 1) (.inl (K.2.1 0, 408, .inl (upd (hclr V.2.1 pl i) ((pl * 6) + i) (nI 0)))) := ⟨_, rfl⟩
        have hG : gw_B K M_40 s.heap H locs := by rw [hM_41]; exact hG
        have hc_42 := (congrFun hM_41 h).trans (gw_k hne_27 hc_34)
        have hc_43 := (congrFun hM_41 (ad 0)).trans (gw_k hne_28 hc_35)
        have hc_44 : M_40 (ad 1) = some (.inl (K.2.1 0, 408, .inl (upd (hclr V.2.1 pl i) ((pl * 6) + i) (nI 0)))) := (congrFun hM_41 _).trans gw_s
        have hc_45 := (congrFun hM_41 (ad 2)).trans (gw_k hne_29 hc_37)
        have hc_46 := (congrFun hM_41 (ad 3)).trans (gw_k hne_30 hc_38)
        have hc_47 := (congrFun hM_41 (ad 4)).trans (gw_k hne_31 hc_39)
        refine lv_iinc (v := nI (i + 1)) (lv' := [(3, .int (nI (i + 1))), (2, .int (nI (dcnt V.2.1 pl 6))), (0, .ref h), (1, .int (nI pl))]) hx hb dX0_forget_26 hl (k := 0) rfl (gw_inc _) (by decide) rfl (fun ls hl => ?_)
        refine lv_goto (tgt := 8) hx hb dX0_forget_29 (by decide) ?_
        exact ih (i + 1) (by omega) (by omega) _ (by rw [hM_41, hMi, gw_uu, hclr_s]) _ _ hG ls (lv_sub hl [0, 1, 2, 3] rfl)
  refine lv_istore_n (lv' := [(2, .int (nI (dcnt V.2.1 pl 6))), (0, .ref h), (1, .int (nI pl))]) hx hb dX0_forget_5 rfl hl (by decide) rfl (fun ls hl => ?_)
  refine lv_iconst (v := nI 0) hx hb dX0_forget_6 (by decide) ?_
  refine lv_istore_n (lv' := [(3, .int (nI 0)), (2, .int (nI (dcnt V.2.1 pl 6))), (0, .ref h), (1, .int (nI pl))]) hx hb dX0_forget_7 rfl hl (by decide) rfl (fun ls hl => ?_)
  exact hloop 7 0 (by omega) (by omega) M (by rw [hclr_0]; exact (gw_same h_n).symm) _ _ hG ls (lv_sub hl [0, 1, 2, 3] rfl)

set_option maxHeartbeats 4000000 in
set_option maxRecDepth 100000 in
/-- makerOf -/
theorem c_makerOf (l : Launch) (K : gw_C) (M : gw_M) (h : Nat) (ad : Nat → Nat) (V : hV) (pl : Nat) (ii : Int32) (hh : hd K M h ad V) (hp : pl < 68) : Met l yX0_makerOf wsX0_makerOf ({ frames := 0, cells := 0, slots := 0, locals := 0 } : Room) (va_Pc [.ref h, .int (nI pl), .int ii] (gw_I K M)) (va_Qi (fun r M1 => M1 = M ∧ r = mko V.2.1 pl ii 6) (gw_I K) (gw_A K)) 0 0 (gw_A K) := by
  refine Met.ofW (cc := cX0_makerOf) (maxL := 5) (ret := (some .int)) (by decide) rfl ?_
  intro p e s m args below meth c s₁ B hml hv
  obtain ⟨hav, hI⟩ := hv
  have hx := B.exec
  have hb := B.bytes
  have hr := B.returns
  have hts := atoms_spec (ws := wsX0_makerOf) B.pre
  have hown : s.vm.findClass RX0 = some m.cls := findClass_of_methodNamed B.named
  have hlocks : meth.locks = false := B.notSynchronized
  have hT := hI.2.2
  have hK := hT.K
  have hG := hI.B
  have hf15 := hts (.fieldLink RX0 15 "DotGossip$Holding" "numbers" "[I") (by decide +kernel)
  have hinX0 : ∀ w ∈ wsX00, w ∈ wsX0_makerOf := by decide +kernel
  have hE : entryFrame m args 5 = entryFrame m ([.ref h, .int (nI pl), .int ii] : List Value).toArray 5 := by rw [hav]
  rw [hE]
  have hl := lv_entry ([.ref h, .int (nI pl), .int ii]) (n := 5) (Nat.le_of_ble_eq_true rfl)
  rw [lg_entry_eq]
  generalize (lg_sl ([.ref h, .int (nI pl), .int ii]) ++ List.replicate (5 - (lg_sl ([.ref h, .int (nI pl), .int ii])).length) Slot.unset).toArray = ls at hl ⊢
  have hl : lv_has ls 5 [(0, .ref h), (1, .int (nI pl)), (2, .int ii)] := hl
  obtain ⟨h_0, h_s, h_n, h_w, h_a, h_t, h_ne⟩ := id hh
  have hloop : ∀ (n : Nat) (i : Nat), i ≤ 6 → mko V.2.1 pl ii i = -1 → 6 + 1 ≤ i + n → ∀ (ls : Array Slot), lv_has ls 5 [(4, .int (nI i)), (3, .int (nI (dcnt V.2.1 pl i))), (0, .ref h), (1, .int (nI pl)), (2, .int ii)] → W p l e ({ frames := 0, cells := 0, slots := 0, locals := 0 } : Room) s m args below meth c s.heap [] 0 0 (MQ below (va_Qi (fun r M1 => M1 = M ∧ r = mko V.2.1 pl ii 6) (gw_I K) (gw_A K)) args s 0 0 (gw_A K)) (F0 m 5 ls []) := by
    intro n
    induction n with
    | zero =>
      intro i hg0 hg1 hm
      exact absurd hm (by omega)
    | succ n ih =>
      intro i hg0 hg1 hm ls hl
      have hd9 := dcnt_le V.2.1 pl i
      refine lv_iload hx hb dX0_makerOf_5 (lv_at hl 0 rfl) ?_
      refine lv_bipush (v := nI 6) hx hb dX0_makerOf_7 (by decide) ?_
      refine gw_icmp_ge hx hb (by omega) (by omega) (tgt := 44) dX0_makerOf_9 (by decide) (fun hc => ?_) (fun hc => ?_)
      · obtain rfl : i = 6 := by omega
        refine lv_iconst (v := (-1)) hx hb dX0_makerOf_44 (by decide) ?_
        exact gw_iret hx hb hr hlocks hG hT (by omega) (by omega) dX0_makerOf_45 ⟨rfl, hg1.symm⟩
      · refine lv_aload_n hx hb dX0_makerOf_12 rfl (lv_at hl 2 rfl) ?_
        refine gw_get (ci := 1) (C := RX0) (T := TX0) (N := 5) hx hb hts hinX0 hown hK hG h_0 rfl 1 (by decide) hf15 (fun _ h9 => h9) rfl dX0_makerOf_13 ?_
        refine lv_iload_n hx hb dX0_makerOf_16 rfl (lv_at hl 3 rfl) ?_
        refine lv_bipush (v := nI 6) hx hb dX0_makerOf_17 (by decide) ?_
        refine gw_imul hx hb dX0_makerOf_19 ?_
        refine lv_iload hx hb dX0_makerOf_20 (lv_at hl 0 rfl) ?_
        refine gw_iadd hx hb dX0_makerOf_22 ?_
        refine gw_iald_n hx hb hK hG h_n 0 rfl (by omega) (by omega) dX0_makerOf_23 ?_
        refine lv_if_eq hx hb (tgt := 38) dX0_makerOf_24 (by decide) (fun hz => ?_) (fun hz => ?_)
        · have e9 : dcnt V.2.1 pl (i + 1) = dcnt V.2.1 pl i := by simp [dcnt, hz]
          have e8 : mko V.2.1 pl ii (i + 1) = -1 := by simp [mko, hg1, hz]
          refine lv_iinc (v := nI (i + 1)) (lv' := [(4, .int (nI (i + 1))), (3, .int (nI (dcnt V.2.1 pl i))), (0, .ref h), (1, .int (nI pl)), (2, .int ii)]) hx hb dX0_makerOf_38 hl (k := 0) rfl (gw_inc _) (by decide) rfl (fun ls hl => ?_)
          refine lv_goto (tgt := 5) hx hb dX0_makerOf_41 (by decide) ?_
          rw [← e9] at hl
          exact ih (i + 1) (by omega) e8 (by omega) ls (lv_sub hl [0, 1, 2, 3, 4] rfl)
        · refine lv_iload_n hx hb dX0_makerOf_27 rfl (lv_at hl 1 rfl) ?_
          refine lv_iload_n hx hb dX0_makerOf_28 rfl (lv_at hl 4 rfl) ?_
          refine lv_icmp_ne hx hb (tgt := 35) dX0_makerOf_29 (by decide) (fun hq => ?_) (fun hq => ?_)
          · have e9 : dcnt V.2.1 pl (i + 1) = dcnt V.2.1 pl i + 1 := by simp [dcnt, hz]
            have e8 : mko V.2.1 pl ii (i + 1) = -1 := by simp [mko, hg1, hz, hq]
            refine lv_iinc (v := nI ((dcnt V.2.1 pl i) + 1)) (lv' := [(3, .int (nI ((dcnt V.2.1 pl i) + 1))), (4, .int (nI i)), (0, .ref h), (1, .int (nI pl)), (2, .int ii)]) hx hb dX0_makerOf_35 hl (k := 1) rfl (gw_inc _) (by decide) rfl (fun ls hl => ?_)
            refine lv_iinc (v := nI (i + 1)) (lv' := [(4, .int (nI (i + 1))), (3, .int (nI ((dcnt V.2.1 pl i) + 1))), (0, .ref h), (1, .int (nI pl)), (2, .int ii)]) hx hb dX0_makerOf_38 hl (k := 1) rfl (gw_inc _) (by decide) rfl (fun ls hl => ?_)
            refine lv_goto (tgt := 5) hx hb dX0_makerOf_41 (by decide) ?_
            rw [← e9] at hl
            exact ih (i + 1) (by omega) e8 (by omega) ls (lv_sub hl [0, 1, 2, 3, 4] rfl)
          · have e8 : mko V.2.1 pl ii (i + 1) = nI i := by simp [mko, hg1, hz, hq]
            have e7 := mko_stay V.2.1 pl ii (i + 1) (by rw [e8]; exact nI_ne1 (by omega)) (6 - (i + 1))
            refine lv_iload hx hb dX0_makerOf_32 (lv_at hl 0 rfl) ?_
            rw [show i + 1 + (6 - (i + 1)) = 6 by omega, e8] at e7
            exact gw_iret hx hb hr hlocks hG hT (by omega) (by omega) dX0_makerOf_34 ⟨rfl, e7.symm⟩
  refine lv_iconst (v := nI 0) hx hb dX0_makerOf_0 (by decide) ?_
  refine lv_istore_n (lv' := [(3, .int (nI 0)), (0, .ref h), (1, .int (nI pl)), (2, .int ii)]) hx hb dX0_makerOf_1 rfl hl (by decide) rfl (fun ls hl => ?_)
  refine lv_iconst (v := nI 0) hx hb dX0_makerOf_2 (by decide) ?_
  refine lv_istore (lv' := [(4, .int (nI 0)), (3, .int (nI 0)), (0, .ref h), (1, .int (nI pl)), (2, .int ii)]) hx hb dX0_makerOf_3 hl (by decide) rfl (fun ls hl => ?_)
  exact hloop 7 0 (by omega) rfl (by omega) ls (lv_sub hl [0, 1, 2, 3, 4] rfl)

set_option maxHeartbeats 4000000 in
set_option maxRecDepth 100000 in
/-- worth -/
theorem c_worth (l : Launch) (K : gw_C) (M : gw_M) (h : Nat) (ad : Nat → Nat) (V : hV) (ct : Nat) (hh : hd K M h ad V) (hp : ct < 4) : Met l yX0_worth wsX0_worth ({ frames := 0, cells := 0, slots := 0, locals := 0 } : Room) (va_Pc [.ref h, .int (nI ct)] (gw_I K M)) (va_Qi (fun r M1 => M1 = M ∧ r = (wsum V.2.2.2.1 V.2.2.2.2 ct 6).toInt32) (gw_I K) (gw_A K)) 0 0 (gw_A K) := by
  refine Met.ofW (cc := cX0_worth) (maxL := 6) (ret := (some .int)) (by decide) rfl ?_
  intro p e s m args below meth c s₁ B hml hv
  obtain ⟨hav, hI⟩ := hv
  have hx := B.exec
  have hb := B.bytes
  have hr := B.returns
  have hts := atoms_spec (ws := wsX0_worth) B.pre
  have hown : s.vm.findClass RX0 = some m.cls := findClass_of_methodNamed B.named
  have hlocks : meth.locks = false := B.notSynchronized
  have hT := hI.2.2
  have hK := hT.K
  have hG := hI.B
  have hf21 := hts (.fieldLink RX0 21 "DotGossip$Holding" "added" "[J") (by decide +kernel)
  have hf25 := hts (.fieldLink RX0 25 "DotGossip$Holding" "taken" "[J") (by decide +kernel)
  have hinX0 : ∀ w ∈ wsX00, w ∈ wsX0_worth := by decide +kernel
  have hE : entryFrame m args 6 = entryFrame m ([.ref h, .int (nI ct)] : List Value).toArray 6 := by rw [hav]
  rw [hE]
  have hl := lv_entry ([.ref h, .int (nI ct)]) (n := 6) (Nat.le_of_ble_eq_true rfl)
  rw [lg_entry_eq]
  generalize (lg_sl ([.ref h, .int (nI ct)]) ++ List.replicate (6 - (lg_sl ([.ref h, .int (nI ct)])).length) Slot.unset).toArray = ls at hl ⊢
  have hl : lv_has ls 6 [(0, .ref h), (1, .int (nI ct))] := hl
  obtain ⟨h_0, h_s, h_n, h_w, h_a, h_t, h_ne⟩ := id hh
  have hloop : ∀ (n : Nat) (i : Nat), i ≤ 6 → 6 + 1 ≤ i + n → ∀ (ls : Array Slot), lv_has ls 6 [(4, .int (nI i)), (2, .long (wsum V.2.2.2.1 V.2.2.2.2 ct i)), (0, .ref h), (1, .int (nI ct))] → W p l e ({ frames := 0, cells := 0, slots := 0, locals := 0 } : Room) s m args below meth c s.heap [] 0 0 (MQ below (va_Qi (fun r M1 => M1 = M ∧ r = (wsum V.2.2.2.1 V.2.2.2.2 ct 6).toInt32) (gw_I K) (gw_A K)) args s 0 0 (gw_A K)) (F0 m 5 ls []) := by
    intro n
    induction n with
    | zero =>
      intro i hg0 hm
      exact absurd hm (by omega)
    | succ n ih =>
      intro i hg0 hm ls hl
      refine lv_iload hx hb dX0_worth_5 (lv_at hl 0 rfl) ?_
      refine lv_bipush (v := nI 6) hx hb dX0_worth_7 (by decide) ?_
      refine gw_icmp_ge hx hb (by omega) (by omega) (tgt := 45) dX0_worth_9 (by decide) (fun hc => ?_) (fun hc => ?_)
      · obtain rfl : i = 6 := by omega
        refine lv_lload_n hx hb dX0_worth_45 rfl (lv_at hl 1 rfl) ?_
        refine lv_l2i hx hb dX0_worth_46 rfl ?_
        exact gw_iret hx hb hr hlocks hG hT (by omega) (by omega) dX0_worth_47 ⟨rfl, rfl⟩
      · refine lv_iload_n hx hb dX0_worth_12 rfl (lv_at hl 3 rfl) ?_
        refine lv_bipush (v := nI 6) hx hb dX0_worth_13 (by decide) ?_
        refine gw_imul hx hb dX0_worth_15 ?_
        refine lv_iload hx hb dX0_worth_16 (lv_at hl 0 rfl) ?_
        refine gw_iadd hx hb dX0_worth_18 ?_
        refine lv_istore (lv' := [(5, .int (nI ((ct * 6) + i))), (4, .int (nI i)), (2, .long (wsum V.2.2.2.1 V.2.2.2.2 ct i)), (0, .ref h), (1, .int (nI ct))]) hx hb dX0_worth_19 hl (by decide) rfl (fun ls hl => ?_)
        refine lv_lload_n hx hb dX0_worth_21 rfl (lv_at hl 2 rfl) ?_
        refine lv_aload_n hx hb dX0_worth_22 rfl (lv_at hl 3 rfl) ?_
        refine gw_get (ci := 1) (C := RX0) (T := TX0) (N := 5) hx hb hts hinX0 hown hK hG h_0 rfl 3 (by decide) hf21 (fun _ h9 => h9) rfl dX0_worth_23 ?_
        refine lv_iload hx hb dX0_worth_26 (lv_at hl 0 rfl) ?_
        refine gw_lald_n hx hb hK hG h_a 1 rfl (by omega) (by omega) dX0_worth_28 ?_
        refine lv_aload_n hx hb dX0_worth_29 rfl (lv_at hl 3 rfl) ?_
        refine gw_get (ci := 1) (C := RX0) (T := TX0) (N := 5) hx hb hts hinX0 hown hK hG h_0 rfl 4 (by decide) hf25 (fun _ h9 => h9) rfl dX0_worth_30 ?_
        refine lv_iload hx hb dX0_worth_33 (lv_at hl 0 rfl) ?_
        refine gw_lald_n hx hb hK hG h_t 1 rfl (by omega) (by omega) dX0_worth_35 ?_
        refine lv_lsub hx hb dX0_worth_36 ?_
        refine lv_ladd hx hb dX0_worth_37 ?_
        refine lv_lstore_n (lv' := [(2, .long ((wsum V.2.2.2.1 V.2.2.2.2 ct i) + ((V.2.2.2.1 ((ct * 6) + i)) - (V.2.2.2.2 ((ct * 6) + i))))), (5, .int (nI ((ct * 6) + i))), (4, .int (nI i)), (0, .ref h), (1, .int (nI ct))]) hx hb dX0_worth_38 rfl hl (by decide) rfl (fun ls hl => ?_)
        refine lv_iinc (v := nI (i + 1)) (lv' := [(4, .int (nI (i + 1))), (2, .long ((wsum V.2.2.2.1 V.2.2.2.2 ct i) + ((V.2.2.2.1 ((ct * 6) + i)) - (V.2.2.2.2 ((ct * 6) + i))))), (5, .int (nI ((ct * 6) + i))), (0, .ref h), (1, .int (nI ct))]) hx hb dX0_worth_39 hl (k := 2) rfl (gw_inc _) (by decide) rfl (fun ls hl => ?_)
        refine lv_goto (tgt := 5) hx hb dX0_worth_42 (by decide) ?_
        exact ih (i + 1) (by omega) (by omega) ls (lv_sub hl [0, 1, 3, 4] rfl)
  refine lv_lconst (v := 0) hx hb dX0_worth_0 (by decide) ?_
  refine lv_lstore_n (lv' := [(2, .long 0), (0, .ref h), (1, .int (nI ct))]) hx hb dX0_worth_1 rfl hl (by decide) rfl (fun ls hl => ?_)
  refine lv_iconst (v := nI 0) hx hb dX0_worth_2 (by decide) ?_
  refine lv_istore (lv' := [(4, .int (nI 0)), (2, .long 0), (0, .ref h), (1, .int (nI ct))]) hx hb dX0_worth_3 hl (by decide) rfl (fun ls hl => ?_)
  exact hloop 7 0 (by omega) (by omega) ls (lv_sub hl [0, 1, 2, 3] rfl)
end
section
def eqv {α : Type} (n : Nat) (f g : Nat → α) (r : Int32) : Prop := (r = nI 1 ∧ ∀ k, k < n → f k = g k) ∨ (r = nI 0 ∧ ∃ k, k < n ∧ f k ≠ g k)
theorem eqv_z {α : Type} {n : Nat} {f g : Nat → α} {r : Int32} (h : eqv n f g r) (hz : r = 0) : ∃ k, k < n ∧ f k ≠ g k := by
  rcases h with ⟨h, -⟩ | ⟨-, h⟩
  · rw [hz] at h
    exact absurd h (by decide)
  · exact h
theorem eqv_o {α : Type} {n : Nat} {f g : Nat → α} {r : Int32} (h : eqv n f g r) (hz : ¬ r = 0) : ∀ k, k < n → f k = g k := by
  rcases h with ⟨-, h⟩ | ⟨h, -⟩
  · exact h
  · exact absurd (h.trans (by decide)) hz
/-- what matches looks at -/
def heq (V U : hV) : Prop := (∀ k, k < 6 → V.1 k = U.1 k) ∧ (∀ k, k < 408 → V.2.1 k = U.2.1 k) ∧ (∀ k, k < 24 → V.2.2.2.1 k = U.2.2.2.1 k) ∧ ∀ k, k < 24 → V.2.2.2.2 k = U.2.2.2.2 k
def ffl {α : Type} (f : Nat → α) (v : α) (i : Nat) : Nat → α := fun j => if j < i then v else f j
theorem ffl_0 {α : Type} (f : Nat → α) (v : α) : ffl f v 0 = f := by
  funext j
  unfold ffl
  rw [if_neg (by omega)]
theorem ffl_s (f : Nat → Int32) (v : Int32) (i : Nat) : upd (ffl f v i) i v = ffl f v (i + 1) := by
  funext j
  unfold upd ffl
  by_cases h : j = i
  · rw [if_pos h, if_pos (by omega)]
  · rw [if_neg h]
    by_cases h2 : j < i
    · rw [if_pos h2, if_pos (by omega)]
    · rw [if_neg h2, if_neg (by omega)]
theorem ffl_sl (f : Nat → Int64) (v : Int64) (i : Nat) : vp_updL (ffl f v i) i v = ffl f v (i + 1) := by
  funext j
  unfold vp_updL ffl
  by_cases h : j = i
  · rw [if_pos h, if_pos (by omega)]
  · rw [if_neg h]
    by_cases h2 : j < i
    · rw [if_pos h2, if_pos (by omega)]
    · rw [if_neg h2, if_neg (by omega)]
/-- one dot of the merge: what the place's row of this maker is behind it, and whether one came -/
def hmd (V U : hV) (pl mk : Nat) : hV :=
  if U.2.1 (pl * 6 + mk) ≤ V.1 mk then (if V.2.1 (pl * 6 + mk) = U.2.1 (pl * 6 + mk) then V else if U.1 mk < V.2.1 (pl * 6 + mk) then V else (V.1, upd V.2.1 (pl * 6 + mk) (nI 0), V.2.2))
  else (V.1, upd V.2.1 (pl * 6 + mk) (U.2.1 (pl * 6 + mk)), (if pl < 64 then V.2.2.1 else upd V.2.2.1 (pl * 6 + mk - 384) (U.2.2.1 (pl * 6 + mk - 384))), V.2.2.2)
def hmc (V U : hV) (pl mk : Nat) : Nat := if U.2.1 (pl * 6 + mk) ≤ V.1 mk then 0 else 1
theorem lcmp_eq {x y : Int64} (h : lg_cmp x y = 0) : x = y := by
  unfold lg_cmp at h
  split at h
  · exact absurd h (by decide)
  · split at h
    · assumption
    · exact absurd h (by decide)
theorem lcmp_of {x y : Int64} (h : x = y) : lg_cmp x y = 0 := by
  subst h
  simp [lg_cmp]
set_option maxHeartbeats 4000000 in
set_option maxRecDepth 100000 in
/-- equalInts -/
theorem c_equalInts (l : Launch) (K : gw_C) (M : gw_M) (a b nn : Nat) (f g : Nat → Int32) (ha : M a = some (.inl (K.2.1 0, nn, .inl f))) (hb9 : M b = some (.inl (K.2.1 0, nn, .inl g))) (hn : nn < 2147483648) : Met l yX0_equalInts wsX0_equalInts ({ frames := 0, cells := 0, slots := 0, locals := 0 } : Room) (va_Pc [.ref a, .ref b] (gw_I K M)) (va_Qi (fun r M1 => M1 = M ∧ eqv nn f g r) (gw_I K) (gw_A K)) 0 0 (gw_A K) := by
  refine Met.ofW (cc := cX0_equalInts) (maxL := 3) (ret := (some .boolean)) (by decide) rfl ?_
  intro p e s m args below meth c s₁ B hml hv
  obtain ⟨hav, hI⟩ := hv
  have hx := B.exec
  have hb := B.bytes
  have hr := B.returns
  have hts := atoms_spec (ws := wsX0_equalInts) B.pre
  have hown : s.vm.findClass RX0 = some m.cls := findClass_of_methodNamed B.named
  have hlocks : meth.locks = false := B.notSynchronized
  have hT := hI.2.2
  have hK := hT.K
  have hG := hI.B
  have hE : entryFrame m args 3 = entryFrame m ([.ref a, .ref b] : List Value).toArray 3 := by rw [hav]
  rw [hE]
  have hl := lv_entry ([.ref a, .ref b]) (n := 3) (Nat.le_of_ble_eq_true rfl)
  rw [lg_entry_eq]
  generalize (lg_sl ([.ref a, .ref b]) ++ List.replicate (3 - (lg_sl ([.ref a, .ref b])).length) Slot.unset).toArray = ls at hl ⊢
  have hl : lv_has ls 3 [(0, .ref a), (1, .ref b)] := hl
  have hloop : ∀ (n : Nat) (i : Nat), i ≤ nn → (∀ k, k < i → f k = g k) → nn + 1 ≤ i + n → ∀ (ls : Array Slot), lv_has ls 3 [(2, .int (nI i)), (0, .ref a), (1, .ref b)] → W p l e ({ frames := 0, cells := 0, slots := 0, locals := 0 } : Room) s m args below meth c s.heap [] 0 0 (MQ below (va_Qi (fun r M1 => M1 = M ∧ eqv nn f g r) (gw_I K) (gw_A K)) args s 0 0 (gw_A K)) (F0 m 2 ls []) := by
    intro n
    induction n with
    | zero =>
      intro i hg0 hg1 hm
      exact absurd hm (by omega)
    | succ n ih =>
      intro i hg0 hg1 hm ls hl
      refine lv_iload_n hx hb dX0_equalInts_2 rfl (lv_at hl 0 rfl) ?_
      refine lv_aload_n hx hb dX0_equalInts_3 rfl (lv_at hl 1 rfl) ?_
      refine gw_alen hx hb hK hG ha 0 rfl (v := nI nn) rfl dX0_equalInts_4 ?_
      refine gw_icmp_ge hx hb (by omega) (by omega) (tgt := 31) dX0_equalInts_5 (by decide) (fun hc => ?_) (fun hc => ?_)
      · obtain rfl : i = nn := by omega
        refine lv_iconst (v := nI 1) hx hb dX0_equalInts_31 (by decide) ?_
        exact gw_zret hx hb hr hlocks hG hT (by omega) (by omega) dX0_equalInts_32 (Or.inr (by decide)) ⟨rfl, Or.inl ⟨rfl, hg1⟩⟩
      · refine lv_iload_n hx hb dX0_equalInts_8 rfl (lv_at hl 0 rfl) ?_
        refine lv_aload_n hx hb dX0_equalInts_9 rfl (lv_at hl 2 rfl) ?_
        refine gw_alen hx hb hK hG hb9 0 rfl (v := nI nn) rfl dX0_equalInts_10 ?_
        refine gw_icmp_ge hx hb (by omega) (by omega) (tgt := 31) dX0_equalInts_11 (by decide) (fun hc2 => ?_) (fun hc2 => ?_)
        · exact absurd hc2 (by omega)
        · refine lv_aload_n hx hb dX0_equalInts_14 rfl (lv_at hl 1 rfl) ?_
          refine lv_iload_n hx hb dX0_equalInts_15 rfl (lv_at hl 0 rfl) ?_
          refine gw_iald_n hx hb hK hG ha 0 rfl (by omega) (by omega) dX0_equalInts_16 ?_
          refine lv_aload_n hx hb dX0_equalInts_17 rfl (lv_at hl 2 rfl) ?_
          refine lv_iload_n hx hb dX0_equalInts_18 rfl (lv_at hl 0 rfl) ?_
          refine gw_iald_n hx hb hK hG hb9 0 rfl (by omega) (by omega) dX0_equalInts_19 ?_
          refine lv_icmp_eq hx hb (tgt := 25) dX0_equalInts_20 (by decide) (fun hq => ?_) (fun hq => ?_)
          · refine lv_iinc (v := nI (i + 1)) (lv' := [(2, .int (nI (i + 1))), (0, .ref a), (1, .ref b)]) hx hb dX0_equalInts_25 hl (k := 0) rfl (gw_inc _) (by decide) rfl (fun ls hl => ?_)
            refine lv_goto (tgt := 2) hx hb dX0_equalInts_28 (by decide) ?_
            exact ih (i + 1) (by omega) (fun k hk => (Nat.lt_or_eq_of_le (Nat.le_of_lt_succ hk)).elim (hg1 k) (fun z => by rw [z]; exact hq)) (by omega) ls (lv_sub hl [0, 1, 2] rfl)
          · refine lv_iconst (v := nI 0) hx hb dX0_equalInts_23 (by decide) ?_
            exact gw_zret hx hb hr hlocks hG hT (by omega) (by omega) dX0_equalInts_24 (Or.inl (by decide)) ⟨rfl, Or.inr ⟨rfl, i, hc, hq⟩⟩
  refine lv_iconst (v := nI 0) hx hb dX0_equalInts_0 (by decide) ?_
  refine lv_istore_n (lv' := [(2, .int (nI 0)), (0, .ref a), (1, .ref b)]) hx hb dX0_equalInts_1 rfl hl (by decide) rfl (fun ls hl => ?_)
  exact hloop (nn + 1) 0 (by omega) (fun k hk => absurd hk (by omega)) (by omega) ls (lv_sub hl [0, 1, 2] rfl)

set_option maxHeartbeats 4000000 in
set_option maxRecDepth 100000 in
/-- equalLongs -/
theorem c_equalLongs (l : Launch) (K : gw_C) (M : gw_M) (a b nn : Nat) (f g : Nat → Int64) (ha : M a = some (.inl (K.2.1 1, nn, .inr (.inl f)))) (hb9 : M b = some (.inl (K.2.1 1, nn, .inr (.inl g)))) (hn : nn < 2147483648) : Met l yX0_equalLongs wsX0_equalLongs ({ frames := 0, cells := 0, slots := 0, locals := 0 } : Room) (va_Pc [.ref a, .ref b] (gw_I K M)) (va_Qi (fun r M1 => M1 = M ∧ eqv nn f g r) (gw_I K) (gw_A K)) 0 0 (gw_A K) := by
  refine Met.ofW (cc := cX0_equalLongs) (maxL := 3) (ret := (some .boolean)) (by decide) rfl ?_
  intro p e s m args below meth c s₁ B hml hv
  obtain ⟨hav, hI⟩ := hv
  have hx := B.exec
  have hb := B.bytes
  have hr := B.returns
  have hts := atoms_spec (ws := wsX0_equalLongs) B.pre
  have hown : s.vm.findClass RX0 = some m.cls := findClass_of_methodNamed B.named
  have hlocks : meth.locks = false := B.notSynchronized
  have hT := hI.2.2
  have hK := hT.K
  have hG := hI.B
  have hE : entryFrame m args 3 = entryFrame m ([.ref a, .ref b] : List Value).toArray 3 := by rw [hav]
  rw [hE]
  have hl := lv_entry ([.ref a, .ref b]) (n := 3) (Nat.le_of_ble_eq_true rfl)
  rw [lg_entry_eq]
  generalize (lg_sl ([.ref a, .ref b]) ++ List.replicate (3 - (lg_sl ([.ref a, .ref b])).length) Slot.unset).toArray = ls at hl ⊢
  have hl : lv_has ls 3 [(0, .ref a), (1, .ref b)] := hl
  have hloop : ∀ (n : Nat) (i : Nat), i ≤ nn → (∀ k, k < i → f k = g k) → nn + 1 ≤ i + n → ∀ (ls : Array Slot), lv_has ls 3 [(2, .int (nI i)), (0, .ref a), (1, .ref b)] → W p l e ({ frames := 0, cells := 0, slots := 0, locals := 0 } : Room) s m args below meth c s.heap [] 0 0 (MQ below (va_Qi (fun r M1 => M1 = M ∧ eqv nn f g r) (gw_I K) (gw_A K)) args s 0 0 (gw_A K)) (F0 m 2 ls []) := by
    intro n
    induction n with
    | zero =>
      intro i hg0 hg1 hm
      exact absurd hm (by omega)
    | succ n ih =>
      intro i hg0 hg1 hm ls hl
      refine lv_iload_n hx hb dX0_equalLongs_2 rfl (lv_at hl 0 rfl) ?_
      refine lv_aload_n hx hb dX0_equalLongs_3 rfl (lv_at hl 1 rfl) ?_
      refine gw_alen hx hb hK hG ha 1 rfl (v := nI nn) rfl dX0_equalLongs_4 ?_
      refine gw_icmp_ge hx hb (by omega) (by omega) (tgt := 32) dX0_equalLongs_5 (by decide) (fun hc => ?_) (fun hc => ?_)
      · obtain rfl : i = nn := by omega
        refine lv_iconst (v := nI 1) hx hb dX0_equalLongs_32 (by decide) ?_
        exact gw_zret hx hb hr hlocks hG hT (by omega) (by omega) dX0_equalLongs_33 (Or.inr (by decide)) ⟨rfl, Or.inl ⟨rfl, hg1⟩⟩
      · refine lv_iload_n hx hb dX0_equalLongs_8 rfl (lv_at hl 0 rfl) ?_
        refine lv_aload_n hx hb dX0_equalLongs_9 rfl (lv_at hl 2 rfl) ?_
        refine gw_alen hx hb hK hG hb9 1 rfl (v := nI nn) rfl dX0_equalLongs_10 ?_
        refine gw_icmp_ge hx hb (by omega) (by omega) (tgt := 32) dX0_equalLongs_11 (by decide) (fun hc2 => ?_) (fun hc2 => ?_)
        · exact absurd hc2 (by omega)
        · refine lv_aload_n hx hb dX0_equalLongs_14 rfl (lv_at hl 1 rfl) ?_
          refine lv_iload_n hx hb dX0_equalLongs_15 rfl (lv_at hl 0 rfl) ?_
          refine gw_lald_n hx hb hK hG ha 1 rfl (by omega) (by omega) dX0_equalLongs_16 ?_
          refine lv_aload_n hx hb dX0_equalLongs_17 rfl (lv_at hl 2 rfl) ?_
          refine lv_iload_n hx hb dX0_equalLongs_18 rfl (lv_at hl 0 rfl) ?_
          refine gw_lald_n hx hb hK hG hb9 1 rfl (by omega) (by omega) dX0_equalLongs_19 ?_
          refine W.lcmp hx hb dX0_equalLongs_20 ?_
          refine lv_if_eq hx hb (tgt := 26) dX0_equalLongs_21 (by decide) (fun hq => ?_) (fun hq => ?_)
          · have hq : f i = g i := lcmp_eq hq
            refine lv_iinc (v := nI (i + 1)) (lv' := [(2, .int (nI (i + 1))), (0, .ref a), (1, .ref b)]) hx hb dX0_equalLongs_26 hl (k := 0) rfl (gw_inc _) (by decide) rfl (fun ls hl => ?_)
            refine lv_goto (tgt := 2) hx hb dX0_equalLongs_29 (by decide) ?_
            exact ih (i + 1) (by omega) (fun k hk => (Nat.lt_or_eq_of_le (Nat.le_of_lt_succ hk)).elim (hg1 k) (fun z => by rw [z]; exact hq)) (by omega) ls (lv_sub hl [0, 1, 2] rfl)
          · refine lv_iconst (v := nI 0) hx hb dX0_equalLongs_24 (by decide) ?_
            exact gw_zret hx hb hr hlocks hG hT (by omega) (by omega) dX0_equalLongs_25 (Or.inl (by decide)) ⟨rfl, Or.inr ⟨rfl, i, hc, fun z => hq (lcmp_of z)⟩⟩
  refine lv_iconst (v := nI 0) hx hb dX0_equalLongs_0 (by decide) ?_
  refine lv_istore_n (lv' := [(2, .int (nI 0)), (0, .ref a), (1, .ref b)]) hx hb dX0_equalLongs_1 rfl hl (by decide) rfl (fun ls hl => ?_)
  exact hloop (nn + 1) 0 (by omega) (fun k hk => absurd hk (by omega)) (by omega) ls (lv_sub hl [0, 1, 2] rfl)

set_option maxHeartbeats 4000000 in
set_option maxRecDepth 100000 in
/-- matches -/
theorem c_matches (l : Launch) (K : gw_C) (M : gw_M) (h g : Nat) (ad ad2 : Nat → Nat) (V U : hV) (hh : hd K M h ad V) (hg : hd K M g ad2 U) : Met l yX0_matches wsX0_matches ({ frames := 1, cells := 0, slots := 0, locals := 22 } : Room) (va_Pc [.ref h, .ref g] (gw_I K M)) (va_Qi (fun r M1 => M1 = M ∧ ((r = nI 1 ∧ heq V U) ∨ (r = nI 0 ∧ ¬ heq V U))) (gw_I K) (gw_A K)) 0 0 (gw_A K) := by
  refine Met.ofW (cc := cX0_matches) (maxL := 2) (ret := (some .boolean)) (by decide) rfl ?_
  intro p e s m args below meth c s₁ B hml hv
  obtain ⟨hav, hI⟩ := hv
  have hx := B.exec
  have hb := B.bytes
  have hr := B.returns
  have hts := atoms_spec (ws := wsX0_matches) B.pre
  have hown : s.vm.findClass RX0 = some m.cls := findClass_of_methodNamed B.named
  have hlocks : meth.locks = false := B.notSynchronized
  have hT := hI.2.2
  have hK := hT.K
  have hG := hI.B
  have hf9 := hts (.fieldLink RX0 9 "DotGossip$Holding" "seen" "[I") (by decide +kernel)
  have hf15 := hts (.fieldLink RX0 15 "DotGossip$Holding" "numbers" "[I") (by decide +kernel)
  have hf21 := hts (.fieldLink RX0 21 "DotGossip$Holding" "added" "[J") (by decide +kernel)
  have hf25 := hts (.fieldLink RX0 25 "DotGossip$Holding" "taken" "[J") (by decide +kernel)
  have hinX0 : ∀ w ∈ wsX00, w ∈ wsX0_matches := by decide +kernel
  have hE : entryFrame m args 2 = entryFrame m ([.ref h, .ref g] : List Value).toArray 2 := by rw [hav]
  rw [hE]
  have hl := lv_entry ([.ref h, .ref g]) (n := 2) (Nat.le_of_ble_eq_true rfl)
  rw [lg_entry_eq]
  generalize (lg_sl ([.ref h, .ref g]) ++ List.replicate (2 - (lg_sl ([.ref h, .ref g])).length) Slot.unset).toArray = ls at hl ⊢
  have hl : lv_has ls 2 [(0, .ref h), (1, .ref g)] := hl
  obtain ⟨h_0, h_s, h_n, h_w, h_a, h_t, h_ne⟩ := id hh
  obtain ⟨g_0, g_s, g_n, g_w, g_a, g_t, g_ne⟩ := id hg
  refine lv_aload_n hx hb dX0_matches_0 rfl (lv_at hl 0 rfl) ?_
  refine gw_get (ci := 1) (C := RX0) (T := TX0) (N := 5) hx hb hts hinX0 hown hK hG h_0 rfl 0 (by decide) hf9 (fun _ h9 => h9) rfl dX0_matches_1 ?_
  refine lv_aload_n hx hb dX0_matches_4 rfl (lv_at hl 1 rfl) ?_
  refine gw_get (ci := 1) (C := RX0) (T := TX0) (N := 5) hx hb hts hinX0 hown hK hG g_0 rfl 0 (by decide) hf9 (fun _ h9 => h9) rfl dX0_matches_5 ?_
  refine gw_calli (va_runS (As := [.ref (ad 0), .ref (ad2 0)]) (rest := []) ⟨hx, hb, hml, hown, hts⟩ (c_equalInts l K M (ad 0) (ad2 0) 6 V.1 U.1 h_s g_s (by decide)) (va_cwS 2 hts gX0_matches_X0_equalInts rfl rfl rfl (by decide +kernel) ⟨Nat.le_of_ble_eq_true rfl, Nat.le_of_ble_eq_true rfl⟩) (gw_preS hG hT) rfl rfl hl.1 rfl (lv_room (Nat.le_of_ble_eq_true rfl)) dX0_matches_8 ⟨Nat.le_of_ble_eq_true rfl, Nat.le_of_ble_eq_true rfl⟩) hG (fun r_48 M_49 H locs hw hG => ?_)
  have hw0 := hw.2
  rw [hw.1] at hG
  refine lv_if_eq hx hb (tgt := 60) dX0_matches_11 (by decide) (fun hz0 => ?_) (fun hz0 => ?_)
  · refine lv_iconst (v := nI 0) hx hb dX0_matches_60 (by decide) ?_
    obtain ⟨k9, hk9, hn9⟩ := eqv_z hw0 hz0
    exact gw_zret hx hb hr hlocks hG hT (by omega) (by omega) dX0_matches_61 (Or.inl (by decide)) ⟨rfl, Or.inr ⟨rfl, fun q => hn9 (q.1 k9 hk9)⟩⟩
  · refine lv_aload_n hx hb dX0_matches_14 rfl (lv_at hl 0 rfl) ?_
    refine gw_get (ci := 1) (C := RX0) (T := TX0) (N := 5) hx hb hts hinX0 hown hK hG h_0 rfl 1 (by decide) hf15 (fun _ h9 => h9) rfl dX0_matches_15 ?_
    refine lv_aload_n hx hb dX0_matches_18 rfl (lv_at hl 1 rfl) ?_
    refine gw_get (ci := 1) (C := RX0) (T := TX0) (N := 5) hx hb hts hinX0 hown hK hG g_0 rfl 1 (by decide) hf15 (fun _ h9 => h9) rfl dX0_matches_19 ?_
    refine gw_calli (va_runS (As := [.ref (ad 1), .ref (ad2 1)]) (rest := []) ⟨hx, hb, hml, hown, hts⟩ (c_equalInts l K M (ad 1) (ad2 1) 408 V.2.1 U.2.1 h_n g_n (by decide)) (va_cwS 2 hts gX0_matches_X0_equalInts rfl rfl rfl (by decide +kernel) ⟨Nat.le_of_ble_eq_true rfl, Nat.le_of_ble_eq_true rfl⟩) (gw_preS hG hT) rfl rfl hl.1 rfl (lv_room (Nat.le_of_ble_eq_true rfl)) dX0_matches_22 ⟨Nat.le_of_ble_eq_true rfl, Nat.le_of_ble_eq_true rfl⟩) hG (fun r_50 M_51 H locs hw hG => ?_)
    have hw1 := hw.2
    rw [hw.1] at hG
    refine lv_if_eq hx hb (tgt := 60) dX0_matches_25 (by decide) (fun hz1 => ?_) (fun hz1 => ?_)
    · refine lv_iconst (v := nI 0) hx hb dX0_matches_60 (by decide) ?_
      obtain ⟨k9, hk9, hn9⟩ := eqv_z hw1 hz1
      exact gw_zret hx hb hr hlocks hG hT (by omega) (by omega) dX0_matches_61 (Or.inl (by decide)) ⟨rfl, Or.inr ⟨rfl, fun q => hn9 (q.2.1 k9 hk9)⟩⟩
    · refine lv_aload_n hx hb dX0_matches_28 rfl (lv_at hl 0 rfl) ?_
      refine gw_get (ci := 1) (C := RX0) (T := TX0) (N := 5) hx hb hts hinX0 hown hK hG h_0 rfl 3 (by decide) hf21 (fun _ h9 => h9) rfl dX0_matches_29 ?_
      refine lv_aload_n hx hb dX0_matches_32 rfl (lv_at hl 1 rfl) ?_
      refine gw_get (ci := 1) (C := RX0) (T := TX0) (N := 5) hx hb hts hinX0 hown hK hG g_0 rfl 3 (by decide) hf21 (fun _ h9 => h9) rfl dX0_matches_33 ?_
      refine gw_calli (va_runS (As := [.ref (ad 3), .ref (ad2 3)]) (rest := []) ⟨hx, hb, hml, hown, hts⟩ (c_equalLongs l K M (ad 3) (ad2 3) 24 V.2.2.2.1 U.2.2.2.1 h_a g_a (by decide)) (va_cwS 2 hts gX0_matches_X0_equalLongs rfl rfl rfl (by decide +kernel) ⟨Nat.le_of_ble_eq_true rfl, Nat.le_of_ble_eq_true rfl⟩) (gw_preS hG hT) rfl rfl hl.1 rfl (lv_room (Nat.le_of_ble_eq_true rfl)) dX0_matches_36 ⟨Nat.le_of_ble_eq_true rfl, Nat.le_of_ble_eq_true rfl⟩) hG (fun r_52 M_53 H locs hw hG => ?_)
      have hw2 := hw.2
      rw [hw.1] at hG
      refine lv_if_eq hx hb (tgt := 60) dX0_matches_39 (by decide) (fun hz2 => ?_) (fun hz2 => ?_)
      · refine lv_iconst (v := nI 0) hx hb dX0_matches_60 (by decide) ?_
        obtain ⟨k9, hk9, hn9⟩ := eqv_z hw2 hz2
        exact gw_zret hx hb hr hlocks hG hT (by omega) (by omega) dX0_matches_61 (Or.inl (by decide)) ⟨rfl, Or.inr ⟨rfl, fun q => hn9 (q.2.2.1 k9 hk9)⟩⟩
      · refine lv_aload_n hx hb dX0_matches_42 rfl (lv_at hl 0 rfl) ?_
        refine gw_get (ci := 1) (C := RX0) (T := TX0) (N := 5) hx hb hts hinX0 hown hK hG h_0 rfl 4 (by decide) hf25 (fun _ h9 => h9) rfl dX0_matches_43 ?_
        refine lv_aload_n hx hb dX0_matches_46 rfl (lv_at hl 1 rfl) ?_
        refine gw_get (ci := 1) (C := RX0) (T := TX0) (N := 5) hx hb hts hinX0 hown hK hG g_0 rfl 4 (by decide) hf25 (fun _ h9 => h9) rfl dX0_matches_47 ?_
        refine gw_calli (va_runS (As := [.ref (ad 4), .ref (ad2 4)]) (rest := []) ⟨hx, hb, hml, hown, hts⟩ (c_equalLongs l K M (ad 4) (ad2 4) 24 V.2.2.2.2 U.2.2.2.2 h_t g_t (by decide)) (va_cwS 2 hts gX0_matches_X0_equalLongs rfl rfl rfl (by decide +kernel) ⟨Nat.le_of_ble_eq_true rfl, Nat.le_of_ble_eq_true rfl⟩) (gw_preS hG hT) rfl rfl hl.1 rfl (lv_room (Nat.le_of_ble_eq_true rfl)) dX0_matches_50 ⟨Nat.le_of_ble_eq_true rfl, Nat.le_of_ble_eq_true rfl⟩) hG (fun r_54 M_55 H locs hw hG => ?_)
        have hw3 := hw.2
        rw [hw.1] at hG
        refine lv_if_eq hx hb (tgt := 60) dX0_matches_53 (by decide) (fun hz3 => ?_) (fun hz3 => ?_)
        · refine lv_iconst (v := nI 0) hx hb dX0_matches_60 (by decide) ?_
          obtain ⟨k9, hk9, hn9⟩ := eqv_z hw3 hz3
          exact gw_zret hx hb hr hlocks hG hT (by omega) (by omega) dX0_matches_61 (Or.inl (by decide)) ⟨rfl, Or.inr ⟨rfl, fun q => hn9 (q.2.2.2 k9 hk9)⟩⟩
        · refine lv_iconst (v := nI 1) hx hb dX0_matches_56 (by decide) ?_
          refine lv_goto (tgt := 61) hx hb dX0_matches_57 (by decide) ?_
          exact gw_zret hx hb hr hlocks hG hT (by omega) (by omega) dX0_matches_61 (Or.inr (by decide)) ⟨rfl, Or.inl ⟨rfl, eqv_o hw0 hz0, eqv_o hw1 hz1, eqv_o hw2 hz2, eqv_o hw3 hz3⟩⟩

set_option maxHeartbeats 4000000 in
set_option maxRecDepth 100000 in
/-- numberBy -/
theorem c_numberBy (l : Launch) (K : gw_C) (M : gw_M) (h : Nat) (ad : Nat → Nat) (V : hV) (pl : Nat) (mv : Int32) (hh : hd K M h ad V) (hp : pl < 68) (hm9 : mv = -1 ∨ ∃ mk, mk < 6 ∧ mv = nI mk) : Met l yX0_numberBy wsX0_numberBy ({ frames := 0, cells := 0, slots := 0, locals := 0 } : Room) (va_Pc [.ref h, .int (nI pl), .int mv] (gw_I K M)) (va_Qi (fun r M1 => M1 = M ∧ r = if mv = -1 then -1 else V.2.1 (pl * 6 + mv.toNatClampNeg)) (gw_I K) (gw_A K)) 0 0 (gw_A K) := by
  refine Met.ofW (cc := cX0_numberBy) (maxL := 3) (ret := (some .int)) (by decide) rfl ?_
  intro p e s m args below meth c s₁ B hml hv
  obtain ⟨hav, hI⟩ := hv
  have hx := B.exec
  have hb := B.bytes
  have hr := B.returns
  have hts := atoms_spec (ws := wsX0_numberBy) B.pre
  have hown : s.vm.findClass RX0 = some m.cls := findClass_of_methodNamed B.named
  have hlocks : meth.locks = false := B.notSynchronized
  have hT := hI.2.2
  have hK := hT.K
  have hG := hI.B
  have hf15 := hts (.fieldLink RX0 15 "DotGossip$Holding" "numbers" "[I") (by decide +kernel)
  have hinX0 : ∀ w ∈ wsX00, w ∈ wsX0_numberBy := by decide +kernel
  have hE : entryFrame m args 3 = entryFrame m ([.ref h, .int (nI pl), .int mv] : List Value).toArray 3 := by rw [hav]
  rw [hE]
  have hl := lv_entry ([.ref h, .int (nI pl), .int mv]) (n := 3) (Nat.le_of_ble_eq_true rfl)
  rw [lg_entry_eq]
  generalize (lg_sl ([.ref h, .int (nI pl), .int mv]) ++ List.replicate (3 - (lg_sl ([.ref h, .int (nI pl), .int mv])).length) Slot.unset).toArray = ls at hl ⊢
  have hl : lv_has ls 3 [(0, .ref h), (1, .int (nI pl)), (2, .int mv)] := hl
  obtain ⟨h_0, h_s, h_n, h_w, h_a, h_t, h_ne⟩ := id hh
  refine lv_iload_n hx hb dX0_numberBy_0 rfl (lv_at hl 2 rfl) ?_
  refine lv_iconst (v := (-1)) hx hb dX0_numberBy_1 (by decide) ?_
  refine lv_icmp_ne hx hb (tgt := 9) dX0_numberBy_2 (by decide) (fun hq => ?_) (fun hq => ?_)
  · rcases hm9 with hm9 | ⟨mk, hk, rfl⟩
    · exact absurd hm9 hq
    refine lv_aload_n hx hb dX0_numberBy_9 rfl (lv_at hl 0 rfl) ?_
    refine gw_get (ci := 1) (C := RX0) (T := TX0) (N := 5) hx hb hts hinX0 hown hK hG h_0 rfl 1 (by decide) hf15 (fun _ h9 => h9) rfl dX0_numberBy_10 ?_
    refine lv_iload_n hx hb dX0_numberBy_13 rfl (lv_at hl 1 rfl) ?_
    refine lv_bipush (v := nI 6) hx hb dX0_numberBy_14 (by decide) ?_
    refine gw_imul hx hb dX0_numberBy_16 ?_
    refine lv_iload_n hx hb dX0_numberBy_17 rfl (lv_at hl 2 rfl) ?_
    refine gw_iadd hx hb dX0_numberBy_18 ?_
    refine gw_iald_n hx hb hK hG h_n 0 rfl (by omega) (by omega) dX0_numberBy_19 ?_
    exact gw_iret hx hb hr hlocks hG hT (by omega) (by omega) dX0_numberBy_20 ⟨rfl, by rw [if_neg hq, nI_clamp (by omega)]⟩
  · refine lv_iconst (v := (-1)) hx hb dX0_numberBy_5 (by decide) ?_
    refine lv_goto (tgt := 20) hx hb dX0_numberBy_6 (by decide) ?_
    exact gw_iret hx hb hr hlocks hG hT (by omega) (by omega) dX0_numberBy_20 ⟨rfl, by rw [if_pos hq]⟩

set_option maxHeartbeats 4000000 in
set_option maxRecDepth 100000 in
/-- mergeDot -/
theorem c_mergeDot (l : Launch) (K : gw_C) (M : gw_M) (h g : Nat) (ad ad2 : Nat → Nat) (V U : hV) (pl mk : Nat) (hh : hd K M h ad V) (hg : hd K M g ad2 U) (hdis : ∀ i j, i < 5 → j < 5 → ad2 j ≠ ad i) (hp : pl < 68) (hk : mk < 6) : Met l yX0_mergeDot wsX0_mergeDot ({ frames := 0, cells := 0, slots := 0, locals := 0 } : Room) (va_Pc [.ref h, .ref g, .int (nI pl), .int (nI mk)] (gw_I K M)) (va_Qi (fun r M1 => r = nI (hmc V U pl mk) ∧ hd K M1 h ad (hmd V U pl mk) ∧ hd K M1 g ad2 U ∧ hfr M M1 ad) (gw_I K) (gw_A K)) 0 0 (gw_A K) := by
  refine Met.ofW (cc := cX0_mergeDot) (maxL := 7) (ret := (some .boolean)) (by decide) rfl ?_
  intro p e s m args below meth c s₁ B hml hv
  obtain ⟨hav, hI⟩ := hv
  have hx := B.exec
  have hb := B.bytes
  have hr := B.returns
  have hts := atoms_spec (ws := wsX0_mergeDot) B.pre
  have hown : s.vm.findClass RX0 = some m.cls := findClass_of_methodNamed B.named
  have hlocks : meth.locks = false := B.notSynchronized
  have hT := hI.2.2
  have hK := hT.K
  have hG := hI.B
  have hf9 := hts (.fieldLink RX0 9 "DotGossip$Holding" "seen" "[I") (by decide +kernel)
  have hf15 := hts (.fieldLink RX0 15 "DotGossip$Holding" "numbers" "[I") (by decide +kernel)
  have hf18 := hts (.fieldLink RX0 18 "DotGossip$Holding" "written" "[I") (by decide +kernel)
  have hinX0 : ∀ w ∈ wsX00, w ∈ wsX0_mergeDot := by decide +kernel
  have hE : entryFrame m args 7 = entryFrame m ([.ref h, .ref g, .int (nI pl), .int (nI mk)] : List Value).toArray 7 := by rw [hav]
  rw [hE]
  have hl := lv_entry ([.ref h, .ref g, .int (nI pl), .int (nI mk)]) (n := 7) (Nat.le_of_ble_eq_true rfl)
  rw [lg_entry_eq]
  generalize (lg_sl ([.ref h, .ref g, .int (nI pl), .int (nI mk)]) ++ List.replicate (7 - (lg_sl ([.ref h, .ref g, .int (nI pl), .int (nI mk)])).length) Slot.unset).toArray = ls at hl ⊢
  have hl : lv_has ls 7 [(0, .ref h), (1, .ref g), (2, .int (nI pl)), (3, .int (nI mk))] := hl
  obtain ⟨h_0, h_s, h_n, h_w, h_a, h_t, h_ne⟩ := id hh
  obtain ⟨g_0, g_s, g_n, g_w, g_a, g_t, g_ne⟩ := id hg
  have hne_56 : h ≠ ad 1 := (gw_io h_0 h_n)
  have hne_57 : h ≠ ad 2 := (gw_io h_0 h_w)
  have hne_58 : g ≠ ad 1 := (gw_io g_0 h_n)
  have hne_59 : g ≠ ad 2 := (gw_io g_0 h_w)
  have hne_60 : ad 0 ≠ ad 1 := (fun z => absurd (h_ne 0 1 (by decide) (by decide) z) (by decide))
  have hne_61 : ad 0 ≠ ad 2 := (fun z => absurd (h_ne 0 2 (by decide) (by decide) z) (by decide))
  have hne_62 : ad 1 ≠ ad 2 := (fun z => absurd (h_ne 1 2 (by decide) (by decide) z) (by decide))
  have hne_63 : ad 2 ≠ ad 1 := (fun z => absurd (h_ne 2 1 (by decide) (by decide) z) (by decide))
  have hne_64 : ad 3 ≠ ad 1 := (fun z => absurd (h_ne 3 1 (by decide) (by decide) z) (by decide))
  have hne_65 : ad 3 ≠ ad 2 := (fun z => absurd (h_ne 3 2 (by decide) (by decide) z) (by decide))
  have hne_66 : ad 4 ≠ ad 1 := (fun z => absurd (h_ne 4 1 (by decide) (by decide) z) (by decide))
  have hne_67 : ad 4 ≠ ad 2 := (fun z => absurd (h_ne 4 2 (by decide) (by decide) z) (by decide))
  have hne_68 : ad2 0 ≠ ad 1 := (hdis 1 0 (by decide) (by decide))
  have hne_69 : ad2 0 ≠ ad 2 := (hdis 2 0 (by decide) (by decide))
  have hne_70 : ad2 1 ≠ ad 1 := (hdis 1 1 (by decide) (by decide))
  have hne_71 : ad2 1 ≠ ad 2 := (hdis 2 1 (by decide) (by decide))
  have hne_72 : ad2 2 ≠ ad 1 := (hdis 1 2 (by decide) (by decide))
  have hne_73 : ad2 2 ≠ ad 2 := (hdis 2 2 (by decide) (by decide))
  have hne_74 : ad2 3 ≠ ad 1 := (hdis 1 3 (by decide) (by decide))
  have hne_75 : ad2 3 ≠ ad 2 := (hdis 2 3 (by decide) (by decide))
  have hne_76 : ad2 4 ≠ ad 1 := (hdis 1 4 (by decide) (by decide))
  have hne_77 : ad2 4 ≠ ad 2 := (hdis 2 4 (by decide) (by decide))
  refine lv_iload_n hx hb dX0_mergeDot_0 rfl (lv_at hl 2 rfl) ?_
  refine lv_bipush (v := nI 6) hx hb dX0_mergeDot_1 (by decide) ?_
  refine gw_imul hx hb dX0_mergeDot_3 ?_
  refine lv_iload_n hx hb dX0_mergeDot_4 rfl (lv_at hl 3 rfl) ?_
  refine gw_iadd hx hb dX0_mergeDot_5 ?_
  refine lv_istore (lv' := [(4, .int (nI ((pl * 6) + mk))), (0, .ref h), (1, .ref g), (2, .int (nI pl)), (3, .int (nI mk))]) hx hb dX0_mergeDot_6 hl (by decide) rfl (fun ls hl => ?_)
  refine lv_aload_n hx hb dX0_mergeDot_8 rfl (lv_at hl 2 rfl) ?_
  refine gw_get (ci := 1) (C := RX0) (T := TX0) (N := 5) hx hb hts hinX0 hown hK hG g_0 rfl 1 (by decide) hf15 (fun _ h9 => h9) rfl dX0_mergeDot_9 ?_
  refine lv_iload hx hb dX0_mergeDot_12 (lv_at hl 0 rfl) ?_
  refine gw_iald_n hx hb hK hG g_n 0 rfl (by omega) (by omega) dX0_mergeDot_14 ?_
  refine lv_istore (lv' := [(5, .int (U.2.1 ((pl * 6) + mk))), (4, .int (nI ((pl * 6) + mk))), (0, .ref h), (1, .ref g), (2, .int (nI pl)), (3, .int (nI mk))]) hx hb dX0_mergeDot_15 hl (by decide) rfl (fun ls hl => ?_)
  refine lv_iload hx hb dX0_mergeDot_17 (lv_at hl 0 rfl) ?_
  refine lv_aload_n hx hb dX0_mergeDot_19 rfl (lv_at hl 2 rfl) ?_
  refine gw_get (ci := 1) (C := RX0) (T := TX0) (N := 5) hx hb hts hinX0 hown hK hG h_0 rfl 0 (by decide) hf9 (fun _ h9 => h9) rfl dX0_mergeDot_20 ?_
  refine lv_iload_n hx hb dX0_mergeDot_23 rfl (lv_at hl 5 rfl) ?_
  refine gw_iald_n hx hb hK hG h_s 0 rfl (by omega) (by omega) dX0_mergeDot_24 ?_
  refine lv_icmp_le hx hb (tgt := 67) dX0_mergeDot_25 (by decide) (fun hc => ?_) (fun hc => ?_)
  · have e8 : hmc V U pl mk = 0 := by simp only [hmc, if_pos hc]
    refine lv_aload_n hx hb dX0_mergeDot_67 rfl (lv_at hl 2 rfl) ?_
    refine gw_get (ci := 1) (C := RX0) (T := TX0) (N := 5) hx hb hts hinX0 hown hK hG h_0 rfl 1 (by decide) hf15 (fun _ h9 => h9) rfl dX0_mergeDot_68 ?_
    refine lv_iload hx hb dX0_mergeDot_71 (lv_at hl 1 rfl) ?_
    refine gw_iald_n hx hb hK hG h_n 0 rfl (by omega) (by omega) dX0_mergeDot_73 ?_
    refine lv_iload hx hb dX0_mergeDot_74 (lv_at hl 0 rfl) ?_
    refine lv_icmp_eq hx hb (tgt := 103) dX0_mergeDot_76 (by decide) (fun hq => ?_) (fun hq => ?_)
    · refine lv_iconst (v := nI 0) hx hb dX0_mergeDot_103 (by decide) ?_
      have e9 : hmd V U pl mk = V := by simp only [hmd, if_pos hc, if_pos hq]
      exact gw_zret hx hb hr hlocks hG hT (by omega) (by omega) dX0_mergeDot_104 (Or.inl (by decide)) ⟨by rw [e8], by rw [e9]; exact hh, hg, hfr.rf⟩
    · refine lv_aload_n hx hb dX0_mergeDot_79 rfl (lv_at hl 2 rfl) ?_
      refine gw_get (ci := 1) (C := RX0) (T := TX0) (N := 5) hx hb hts hinX0 hown hK hG h_0 rfl 1 (by decide) hf15 (fun _ h9 => h9) rfl dX0_mergeDot_80 ?_
      refine lv_iload hx hb dX0_mergeDot_83 (lv_at hl 1 rfl) ?_
      refine gw_iald_n hx hb hK hG h_n 0 rfl (by omega) (by omega) dX0_mergeDot_85 ?_
      refine lv_aload_n hx hb dX0_mergeDot_86 rfl (lv_at hl 3 rfl) ?_
      refine gw_get (ci := 1) (C := RX0) (T := TX0) (N := 5) hx hb hts hinX0 hown hK hG g_0 rfl 0 (by decide) hf9 (fun _ h9 => h9) rfl dX0_mergeDot_87 ?_
      refine lv_iload_n hx hb dX0_mergeDot_90 rfl (lv_at hl 5 rfl) ?_
      refine gw_iald_n hx hb hK hG g_s 0 rfl (by omega) (by omega) dX0_mergeDot_91 ?_
      refine lv_icmp_gt hx hb (tgt := 103) dX0_mergeDot_92 (by decide) (fun ht => ?_) (fun ht => ?_)
      · refine lv_iconst (v := nI 0) hx hb dX0_mergeDot_103 (by decide) ?_
        have e9 : hmd V U pl mk = V := by simp only [hmd, if_pos hc, if_neg hq, if_pos ht]
        exact gw_zret hx hb hr hlocks hG hT (by omega) (by omega) dX0_mergeDot_104 (Or.inl (by decide)) ⟨by rw [e8], by rw [e9]; exact hh, hg, hfr.rf⟩
      · refine lv_aload_n hx hb dX0_mergeDot_95 rfl (lv_at hl 2 rfl) ?_
        refine gw_get (ci := 1) (C := RX0) (T := TX0) (N := 5) hx hb hts hinX0 hown hK hG h_0 rfl 1 (by decide) hf15 (fun _ h9 => h9) rfl dX0_mergeDot_96 ?_
        refine lv_iload hx hb dX0_mergeDot_99 (lv_at hl 1 rfl) ?_
        refine lv_iconst (v := nI 0) hx hb dX0_mergeDot_101 (by decide) ?_
        refine gw_iast_n hx hb hK hG h_n 0 rfl (by omega) (by omega) dX0_mergeDot_102 (fun H locs hG => ?_)
        obtain ⟨M_106, hM_107⟩ : ∃ M1 : gw_M, M1 = gw_up M (ad 1) (.inl (K.2.1 0, 408, .inl (upd V.2.1 ((pl * 6) + mk) (nI 0)))) := ⟨_, rfl⟩
        have hG : gw_B K M_106 s.heap H locs := by rw [hM_107]; exact hG
        have hc_108 := (congrFun hM_107 h).trans (gw_k hne_56 h_0)
        have hc_109 := (congrFun hM_107 (ad 0)).trans (gw_k hne_60 h_s)
        have hc_110 : M_106 (ad 1) = some (.inl (K.2.1 0, 408, .inl (upd V.2.1 ((pl * 6) + mk) (nI 0)))) := (congrFun hM_107 _).trans gw_s
        have hc_111 := (congrFun hM_107 (ad 2)).trans (gw_k hne_63 h_w)
        have hc_112 := (congrFun hM_107 (ad 3)).trans (gw_k hne_64 h_a)
        have hc_113 := (congrFun hM_107 (ad 4)).trans (gw_k hne_66 h_t)
        have hc_114 := (congrFun hM_107 g).trans (gw_k hne_58 g_0)
        have hc_115 := (congrFun hM_107 (ad2 0)).trans (gw_k hne_68 g_s)
        have hc_116 := (congrFun hM_107 (ad2 1)).trans (gw_k hne_70 g_n)
        have hc_117 := (congrFun hM_107 (ad2 2)).trans (gw_k hne_72 g_w)
        have hc_118 := (congrFun hM_107 (ad2 3)).trans (gw_k hne_74 g_a)
        have hc_119 := (congrFun hM_107 (ad2 4)).trans (gw_k hne_76 g_t)
        refine lv_iconst (v := nI 0) hx hb dX0_mergeDot_103 (by decide) ?_
        have e9 : hmd V U pl mk = (V.1, upd V.2.1 (pl * 6 + mk) (nI 0), V.2.2) := by simp only [hmd, if_pos hc, if_neg hq, if_neg ht]
        exact gw_zret hx hb hr hlocks hG hT (by omega) (by omega) dX0_mergeDot_104 (Or.inl (by decide)) ⟨by rw [e8], by rw [e9]; exact ⟨hc_108, hc_109, hc_110, hc_111, hc_112, hc_113, h_ne⟩, ⟨hc_114, hc_115, hc_116, hc_117, hc_118, hc_119, g_ne⟩, fun q hq => by rw [hM_107, gw_n (hq 1 (by decide))]⟩
  · refine lv_aload_n hx hb dX0_mergeDot_28 rfl (lv_at hl 2 rfl) ?_
    refine gw_get (ci := 1) (C := RX0) (T := TX0) (N := 5) hx hb hts hinX0 hown hK hG h_0 rfl 1 (by decide) hf15 (fun _ h9 => h9) rfl dX0_mergeDot_29 ?_
    refine lv_iload hx hb dX0_mergeDot_32 (lv_at hl 1 rfl) ?_
    refine lv_iload hx hb dX0_mergeDot_34 (lv_at hl 0 rfl) ?_
    refine gw_iast_n hx hb hK hG h_n 0 rfl (by omega) (by omega) dX0_mergeDot_36 (fun H locs hG => ?_)
    obtain ⟨M_78, hM_79⟩ : ∃ M1 : gw_M, M1 = gw_up M (ad 1) (.inl (K.2.1 0, 408, .inl (upd V.2.1 ((pl * 6) + mk) (U.2.1 ((pl * 6) + mk))))) := ⟨_, rfl⟩
    have hG : gw_B K M_78 s.heap H locs := by rw [hM_79]; exact hG
    have hc_80 := (congrFun hM_79 h).trans (gw_k hne_56 h_0)
    have hc_81 := (congrFun hM_79 (ad 0)).trans (gw_k hne_60 h_s)
    have hc_82 : M_78 (ad 1) = some (.inl (K.2.1 0, 408, .inl (upd V.2.1 ((pl * 6) + mk) (U.2.1 ((pl * 6) + mk))))) := (congrFun hM_79 _).trans gw_s
    have hc_83 := (congrFun hM_79 (ad 2)).trans (gw_k hne_63 h_w)
    have hc_84 := (congrFun hM_79 (ad 3)).trans (gw_k hne_64 h_a)
    have hc_85 := (congrFun hM_79 (ad 4)).trans (gw_k hne_66 h_t)
    have hc_86 := (congrFun hM_79 g).trans (gw_k hne_58 g_0)
    have hc_87 := (congrFun hM_79 (ad2 0)).trans (gw_k hne_68 g_s)
    have hc_88 := (congrFun hM_79 (ad2 1)).trans (gw_k hne_70 g_n)
    have hc_89 := (congrFun hM_79 (ad2 2)).trans (gw_k hne_72 g_w)
    have hc_90 := (congrFun hM_79 (ad2 3)).trans (gw_k hne_74 g_a)
    have hc_91 := (congrFun hM_79 (ad2 4)).trans (gw_k hne_76 g_t)
    refine lv_iload_n hx hb dX0_mergeDot_37 rfl (lv_at hl 4 rfl) ?_
    refine lv_bipush (v := nI 64) hx hb dX0_mergeDot_38 (by decide) ?_
    refine gw_icmp_lt hx hb (by omega) (by omega) (tgt := 65) dX0_mergeDot_40 (by decide) (fun h64 => ?_) (fun h64 => ?_)
    · refine lv_iconst (v := nI 1) hx hb dX0_mergeDot_65 (by decide) ?_
      have e9 : hmd V U pl mk = (V.1, upd V.2.1 (pl * 6 + mk) (U.2.1 (pl * 6 + mk)), V.2.2) := by simp only [hmd, if_neg hc, if_pos h64]
      have e8 : hmc V U pl mk = 1 := by simp only [hmc, if_neg hc]
      exact gw_zret hx hb hr hlocks hG hT (by omega) (by omega) dX0_mergeDot_66 (Or.inr (by decide)) ⟨by rw [e8], by rw [e9]; exact ⟨hc_80, hc_81, hc_82, hc_83, hc_84, hc_85, h_ne⟩, ⟨hc_86, hc_87, hc_88, hc_89, hc_90, hc_91, g_ne⟩, fun q hq => by rw [hM_79, gw_n (hq 1 (by decide))]⟩
    · refine lv_iload hx hb dX0_mergeDot_43 (lv_at hl 1 rfl) ?_
      refine lv_sipush (v := nI 384) hx hb dX0_mergeDot_45 (by decide) ?_
      refine gw_isub hx hb (by omega) dX0_mergeDot_48 ?_
      refine lv_istore (lv' := [(6, .int (nI (((pl * 6) + mk) - 384))), (5, .int (U.2.1 ((pl * 6) + mk))), (4, .int (nI ((pl * 6) + mk))), (0, .ref h), (1, .ref g), (2, .int (nI pl)), (3, .int (nI mk))]) hx hb dX0_mergeDot_49 hl (by decide) rfl (fun ls hl => ?_)
      refine lv_aload_n hx hb dX0_mergeDot_51 rfl (lv_at hl 3 rfl) ?_
      refine gw_get (ci := 1) (C := RX0) (T := TX0) (N := 5) hx hb hts hinX0 hown hK hG hc_80 rfl 2 (by decide) hf18 (fun _ h9 => h9) rfl dX0_mergeDot_52 ?_
      refine lv_iload hx hb dX0_mergeDot_55 (lv_at hl 0 rfl) ?_
      refine lv_aload_n hx hb dX0_mergeDot_57 rfl (lv_at hl 4 rfl) ?_
      refine gw_get (ci := 1) (C := RX0) (T := TX0) (N := 5) hx hb hts hinX0 hown hK hG hc_86 rfl 2 (by decide) hf18 (fun _ h9 => h9) rfl dX0_mergeDot_58 ?_
      refine lv_iload hx hb dX0_mergeDot_61 (lv_at hl 0 rfl) ?_
      refine gw_iald_n hx hb hK hG hc_89 0 rfl (by omega) (by omega) dX0_mergeDot_63 ?_
      refine gw_iast_n hx hb hK hG hc_83 0 rfl (by omega) (by omega) dX0_mergeDot_64 (fun H locs hG => ?_)
      obtain ⟨M_92, hM_93⟩ : ∃ M1 : gw_M, M1 = gw_up M_78 (ad 2) (.inl (K.2.1 0, 24, .inl (upd V.2.2.1 (((pl * 6) + mk) - 384) (U.2.2.1 (((pl * 6) + mk) - 384))))) := ⟨_, rfl⟩
      have hG : gw_B K M_92 s.heap H locs := by rw [hM_93]; exact hG
      have hc_94 := (congrFun hM_93 h).trans (gw_k hne_57 hc_80)
      have hc_95 := (congrFun hM_93 (ad 0)).trans (gw_k hne_61 hc_81)
      have hc_96 := (congrFun hM_93 (ad 1)).trans (gw_k hne_62 hc_82)
      have hc_97 : M_92 (ad 2) = some (.inl (K.2.1 0, 24, .inl (upd V.2.2.1 (((pl * 6) + mk) - 384) (U.2.2.1 (((pl * 6) + mk) - 384))))) := (congrFun hM_93 _).trans gw_s
      have hc_98 := (congrFun hM_93 (ad 3)).trans (gw_k hne_65 hc_84)
      have hc_99 := (congrFun hM_93 (ad 4)).trans (gw_k hne_67 hc_85)
      have hc_100 := (congrFun hM_93 g).trans (gw_k hne_59 hc_86)
      have hc_101 := (congrFun hM_93 (ad2 0)).trans (gw_k hne_69 hc_87)
      have hc_102 := (congrFun hM_93 (ad2 1)).trans (gw_k hne_71 hc_88)
      have hc_103 := (congrFun hM_93 (ad2 2)).trans (gw_k hne_73 hc_89)
      have hc_104 := (congrFun hM_93 (ad2 3)).trans (gw_k hne_75 hc_90)
      have hc_105 := (congrFun hM_93 (ad2 4)).trans (gw_k hne_77 hc_91)
      refine lv_iconst (v := nI 1) hx hb dX0_mergeDot_65 (by decide) ?_
      have e9 : hmd V U pl mk = (V.1, upd V.2.1 (pl * 6 + mk) (U.2.1 (pl * 6 + mk)), upd V.2.2.1 (pl * 6 + mk - 384) (U.2.2.1 (pl * 6 + mk - 384)), V.2.2.2) := by simp only [hmd, if_neg hc, if_neg (Nat.not_lt.mpr h64)]
      have e8 : hmc V U pl mk = 1 := by simp only [hmc, if_neg hc]
      exact gw_zret hx hb hr hlocks hG hT (by omega) (by omega) dX0_mergeDot_66 (Or.inr (by decide)) ⟨by rw [e8], by rw [e9]; exact ⟨hc_94, hc_95, hc_96, hc_97, hc_98, hc_99, h_ne⟩, ⟨hc_100, hc_101, hc_102, hc_103, hc_104, hc_105, g_ne⟩, fun q hq => by rw [hM_93, gw_n (hq 2 (by decide)), hM_79, gw_n (hq 1 (by decide))]⟩
end
section
/-- the merge's first half, t rows of it -/
def hmf (V U : hV) : Nat → hV × Nat
  | 0 => (V, 0)
  | t + 1 => (hmd (hmf V U t).1 U (t / 6) (t % 6), (hmf V U t).2 + hmc (hmf V U t).1 U (t / 6) (t % 6))
theorem hmf_s (V U : hV) {pl mk : Nat} (hk : mk < 6) : hmf V U (pl * 6 + mk + 1) = (hmd (hmf V U (pl * 6 + mk)).1 U pl mk, (hmf V U (pl * 6 + mk)).2 + hmc (hmf V U (pl * 6 + mk)).1 U pl mk) := by
  show (hmd _ U ((pl * 6 + mk) / 6) ((pl * 6 + mk) % 6), _ + hmc _ U ((pl * 6 + mk) / 6) ((pl * 6 + mk) % 6)) = _
  rw [show (pl * 6 + mk) / 6 = pl by omega, show (pl * 6 + mk) % 6 = mk by omega]
def hmx (f g : Nat → Int32) (i : Nat) : Nat → Int32 := fun k => if k < i then (if f k < g k then g k else f k) else f k
theorem hmx_0 (f g : Nat → Int32) : hmx f g 0 = f := by
  funext k
  unfold hmx
  rw [if_neg (by omega)]
theorem hmx_s (f g : Nat → Int32) (i : Nat) : upd (hmx f g i) i (if hmx f g i i < g i then g i else hmx f g i i) = hmx f g (i + 1) := by
  have e : hmx f g i i = f i := by unfold hmx; rw [if_neg (by omega)]
  rw [e]
  funext k
  unfold upd hmx
  by_cases h : k = i
  · rw [if_pos h, if_pos (show k < i + 1 by omega), h]
  · rw [if_neg h]
    by_cases h2 : k < i
    · rw [if_pos h2, if_pos (show k < i + 1 by omega)]
    · rw [if_neg h2, if_neg (show ¬ k < i + 1 by omega)]
def hmxl (f g : Nat → Int64) (i : Nat) : Nat → Int64 := fun k => if k < i then (if g k < f k then f k else g k) else f k
theorem hmxl_0 (f g : Nat → Int64) : hmxl f g 0 = f := by
  funext k
  unfold hmxl
  rw [if_neg (by omega)]
theorem hmxl_s (f g : Nat → Int64) (i : Nat) : vp_updL (hmxl f g i) i (if g i < hmxl f g i i then hmxl f g i i else g i) = hmxl f g (i + 1) := by
  have e : hmxl f g i i = f i := by unfold hmxl; rw [if_neg (by omega)]
  rw [e]
  funext k
  unfold vp_updL hmxl
  by_cases h : k = i
  · rw [if_pos h, if_pos (show k < i + 1 by omega), h]
  · rw [if_neg h]
    by_cases h2 : k < i
    · rw [if_pos h2, if_pos (show k < i + 1 by omega)]
    · rw [if_neg h2, if_neg (show ¬ k < i + 1 by omega)]
/-- the merge: what a holding is behind it, and how many dots came -/
def hmg (V U : hV) : hV := (hmx (hmf V U 408).1.1 U.1 6, (hmf V U 408).1.2.1, (hmf V U 408).1.2.2.1, hmxl (hmf V U 408).1.2.2.2.1 U.2.2.2.1 24, hmxl (hmf V U 408).1.2.2.2.2 U.2.2.2.2 24)
theorem hmc_01 (V U : hV) (pl mk : Nat) : hmc V U pl mk = 0 ∨ hmc V U pl mk = 1 := by
  unfold hmc
  split
  · exact Or.inl rfl
  · exact Or.inr rfl
set_option maxHeartbeats 4000000 in
set_option maxRecDepth 100000 in
/-- Arrays.fill -/
theorem c_fill0 (l : Launch) (K : gw_C) (M : gw_M) (a nn : Nat) (f : Nat → Int32) (v : Int32) (ha : M a = some (.inl (K.2.1 0, nn, .inl f))) (hn : nn < 2147483648) : Met l yJ7_fill_53178 wsJ7_fill_53178 ({ frames := 0, cells := 0, slots := 0, locals := 0 } : Room) (va_Pc [.ref a, .int v] (gw_I K M)) (va_Qv (fun M1 => M1 = gw_up M a (.inl (K.2.1 0, nn, .inl (ffl f v nn)))) (gw_I K) (gw_A K)) 0 0 (gw_A K) := by
  refine Met.ofW (cc := cJ7_fill_53178) (maxL := 4) (ret := none) (by decide) rfl ?_
  intro p e s m args below meth c s₁ B hml hv
  obtain ⟨hav, hI⟩ := hv
  have hx := B.exec
  have hb := B.bytes
  have hr := B.returns
  have hts := atoms_spec (ws := wsJ7_fill_53178) B.pre
  have hown : s.vm.findClass RJ7 = some m.cls := findClass_of_methodNamed B.named
  have hlocks : meth.locks = false := B.notSynchronized
  have hT := hI.2.2
  have hK := hT.K
  have hG := hI.B
  have hE : entryFrame m args 4 = entryFrame m ([.ref a, .int v] : List Value).toArray 4 := by rw [hav]
  rw [hE]
  have hl := lv_entry ([.ref a, .int v]) (n := 4) (Nat.le_of_ble_eq_true rfl)
  rw [lg_entry_eq]
  generalize (lg_sl ([.ref a, .int v]) ++ List.replicate (4 - (lg_sl ([.ref a, .int v])).length) Slot.unset).toArray = ls at hl ⊢
  have hl : lv_has ls 4 [(0, .ref a), (1, .int v)] := hl
  have hloop : ∀ (n : Nat) (i : Nat), i ≤ nn → nn + 1 ≤ i + n → ∀ (Mi : gw_M), Mi = gw_up M a (.inl (K.2.1 0, nn, .inl (ffl f v i))) → ∀ (H : Heap) (locs : List Loc), gw_B K Mi s.heap H locs → ∀ (ls : Array Slot), lv_has ls 4 [(3, .int (nI nn)), (2, .int (nI i)), (0, .ref a), (1, .int v)] → W p l e ({ frames := 0, cells := 0, slots := 0, locals := 0 } : Room) s m args below meth c H locs 0 0 (MQ below (va_Qv (fun M1 => M1 = gw_up M a (.inl (K.2.1 0, nn, .inl (ffl f v nn)))) (gw_I K) (gw_A K)) args s 0 0 (gw_A K)) (F0 m 5 ls []) := by
    intro n
    induction n with
    | zero =>
      intro i hg0 hm
      exact absurd hm (by omega)
    | succ n ih =>
      intro i hg0 hm Mi hMi H locs hG ls hl
      have hc_48 := (congrFun hMi a).trans gw_s
      refine lv_iload_n hx hb dJ7_fill_53178_5 rfl (lv_at hl 1 rfl) ?_
      refine lv_iload_n hx hb dJ7_fill_53178_6 rfl (lv_at hl 0 rfl) ?_
      refine gw_icmp_ge hx hb (by omega) (by omega) (tgt := 20) dJ7_fill_53178_7 (by decide) (fun hc => ?_) (fun hc => ?_)
      · obtain rfl : i = nn := by omega
        exact gw_vret hx hb hr hlocks hG hT (by omega) (by omega) dJ7_fill_53178_20 hMi
      · refine lv_aload_n hx hb dJ7_fill_53178_10 rfl (lv_at hl 2 rfl) ?_
        refine lv_iload_n hx hb dJ7_fill_53178_11 rfl (lv_at hl 1 rfl) ?_
        refine lv_iload_n hx hb dJ7_fill_53178_12 rfl (lv_at hl 3 rfl) ?_
        refine gw_iast_n hx hb hK hG hc_48 0 rfl (by omega) (by omega) dJ7_fill_53178_13 (fun H locs hG => ?_)
        obtain ⟨M_49, hM_50⟩ : ∃ M1 : gw_M, M1 = gw_up Mi a (.inl (K.2.1 0, nn, .inl (upd (ffl f v i) i v))) := ⟨_, rfl⟩
        have hG : gw_B K M_49 s.heap H locs := by rw [hM_50]; exact hG
        have hc_51 : M_49 a = some (.inl (K.2.1 0, nn, .inl (upd (ffl f v i) i v))) := (congrFun hM_50 _).trans gw_s
        refine lv_iinc (v := nI (i + 1)) (lv' := [(2, .int (nI (i + 1))), (3, .int (nI nn)), (0, .ref a), (1, .int v)]) hx hb dJ7_fill_53178_14 hl (k := 1) rfl (gw_inc _) (by decide) rfl (fun ls hl => ?_)
        refine lv_goto (tgt := 5) hx hb dJ7_fill_53178_17 (by decide) ?_
        exact ih (i + 1) (by omega) (by omega) _ (by rw [hM_50, hMi, gw_uu, ffl_s]) _ _ hG ls (lv_sub hl [1, 0, 2, 3] rfl)
  refine lv_iconst (v := nI 0) hx hb dJ7_fill_53178_0 (by decide) ?_
  refine lv_istore_n (lv' := [(2, .int (nI 0)), (0, .ref a), (1, .int v)]) hx hb dJ7_fill_53178_1 rfl hl (by decide) rfl (fun ls hl => ?_)
  refine lv_aload_n hx hb dJ7_fill_53178_2 rfl (lv_at hl 1 rfl) ?_
  refine gw_alen hx hb hK hG ha 0 rfl (v := nI nn) rfl dJ7_fill_53178_3 ?_
  refine lv_istore_n (lv' := [(3, .int (nI nn)), (2, .int (nI 0)), (0, .ref a), (1, .int v)]) hx hb dJ7_fill_53178_4 rfl hl (by decide) rfl (fun ls hl => ?_)
  exact hloop (nn + 1) 0 (by omega) (by omega) M (by rw [ffl_0]; exact (gw_same ha).symm) _ _ hG ls (lv_sub hl [0, 1, 2, 3] rfl)

set_option maxHeartbeats 4000000 in
set_option maxRecDepth 100000 in
/-- Arrays.fill -/
theorem c_fill1 (l : Launch) (K : gw_C) (M : gw_M) (a nn : Nat) (f : Nat → Int64) (v : Int64) (ha : M a = some (.inl (K.2.1 1, nn, .inr (.inl f)))) (hn : nn < 2147483648) : Met l yJ7_fill_d0a16 wsJ7_fill_d0a16 ({ frames := 0, cells := 0, slots := 0, locals := 0 } : Room) (va_Pc [.ref a, .long v] (gw_I K M)) (va_Qv (fun M1 => M1 = gw_up M a (.inl (K.2.1 1, nn, .inr (.inl (ffl f v nn))))) (gw_I K) (gw_A K)) 0 0 (gw_A K) := by
  refine Met.ofW (cc := cJ7_fill_d0a16) (maxL := 5) (ret := none) (by decide) rfl ?_
  intro p e s m args below meth c s₁ B hml hv
  obtain ⟨hav, hI⟩ := hv
  have hx := B.exec
  have hb := B.bytes
  have hr := B.returns
  have hts := atoms_spec (ws := wsJ7_fill_d0a16) B.pre
  have hown : s.vm.findClass RJ7 = some m.cls := findClass_of_methodNamed B.named
  have hlocks : meth.locks = false := B.notSynchronized
  have hT := hI.2.2
  have hK := hT.K
  have hG := hI.B
  have hE : entryFrame m args 5 = entryFrame m ([.ref a, .long v] : List Value).toArray 5 := by rw [hav]
  rw [hE]
  have hl := lv_entry ([.ref a, .long v]) (n := 5) (Nat.le_of_ble_eq_true rfl)
  rw [lg_entry_eq]
  generalize (lg_sl ([.ref a, .long v]) ++ List.replicate (5 - (lg_sl ([.ref a, .long v])).length) Slot.unset).toArray = ls at hl ⊢
  have hl : lv_has ls 5 [(0, .ref a), (1, .long v)] := hl
  have hloop : ∀ (n : Nat) (i : Nat), i ≤ nn → nn + 1 ≤ i + n → ∀ (Mi : gw_M), Mi = gw_up M a (.inl (K.2.1 1, nn, .inr (.inl (ffl f v i)))) → ∀ (H : Heap) (locs : List Loc), gw_B K Mi s.heap H locs → ∀ (ls : Array Slot), lv_has ls 5 [(4, .int (nI nn)), (3, .int (nI i)), (0, .ref a), (1, .long v)] → W p l e ({ frames := 0, cells := 0, slots := 0, locals := 0 } : Room) s m args below meth c H locs 0 0 (MQ below (va_Qv (fun M1 => M1 = gw_up M a (.inl (K.2.1 1, nn, .inr (.inl (ffl f v nn))))) (gw_I K) (gw_A K)) args s 0 0 (gw_A K)) (F0 m 6 ls []) := by
    intro n
    induction n with
    | zero =>
      intro i hg0 hm
      exact absurd hm (by omega)
    | succ n ih =>
      intro i hg0 hm Mi hMi H locs hG ls hl
      have hc_52 := (congrFun hMi a).trans gw_s
      refine lv_iload_n hx hb dJ7_fill_d0a16_6 rfl (lv_at hl 1 rfl) ?_
      refine lv_iload hx hb dJ7_fill_d0a16_7 (lv_at hl 0 rfl) ?_
      refine gw_icmp_ge hx hb (by omega) (by omega) (tgt := 22) dJ7_fill_d0a16_9 (by decide) (fun hc => ?_) (fun hc => ?_)
      · obtain rfl : i = nn := by omega
        exact gw_vret hx hb hr hlocks hG hT (by omega) (by omega) dJ7_fill_d0a16_22 hMi
      · refine lv_aload_n hx hb dJ7_fill_d0a16_12 rfl (lv_at hl 2 rfl) ?_
        refine lv_iload_n hx hb dJ7_fill_d0a16_13 rfl (lv_at hl 1 rfl) ?_
        refine lv_lload_n hx hb dJ7_fill_d0a16_14 rfl (lv_at hl 3 rfl) ?_
        refine gw_last_n hx hb hK hG hc_52 1 rfl (by omega) (by omega) dJ7_fill_d0a16_15 (fun H locs hG => ?_)
        obtain ⟨M_53, hM_54⟩ : ∃ M1 : gw_M, M1 = gw_up Mi a (.inl (K.2.1 1, nn, .inr (.inl (vp_updL (ffl f v i) i v)))) := ⟨_, rfl⟩
        have hG : gw_B K M_53 s.heap H locs := by rw [hM_54]; exact hG
        have hc_55 : M_53 a = some (.inl (K.2.1 1, nn, .inr (.inl (vp_updL (ffl f v i) i v)))) := (congrFun hM_54 _).trans gw_s
        refine lv_iinc (v := nI (i + 1)) (lv' := [(3, .int (nI (i + 1))), (4, .int (nI nn)), (0, .ref a), (1, .long v)]) hx hb dJ7_fill_d0a16_16 hl (k := 1) rfl (gw_inc _) (by decide) rfl (fun ls hl => ?_)
        refine lv_goto (tgt := 6) hx hb dJ7_fill_d0a16_19 (by decide) ?_
        exact ih (i + 1) (by omega) (by omega) _ (by rw [hM_54, hMi, gw_uu, ffl_sl]) _ _ hG ls (lv_sub hl [1, 0, 2, 3] rfl)
  refine lv_iconst (v := nI 0) hx hb dJ7_fill_d0a16_0 (by decide) ?_
  refine lv_istore_n (lv' := [(3, .int (nI 0)), (0, .ref a), (1, .long v)]) hx hb dJ7_fill_d0a16_1 rfl hl (by decide) rfl (fun ls hl => ?_)
  refine lv_aload_n hx hb dJ7_fill_d0a16_2 rfl (lv_at hl 1 rfl) ?_
  refine gw_alen hx hb hK hG ha 1 rfl (v := nI nn) rfl dJ7_fill_d0a16_3 ?_
  refine lv_istore (lv' := [(4, .int (nI nn)), (3, .int (nI 0)), (0, .ref a), (1, .long v)]) hx hb dJ7_fill_d0a16_4 hl (by decide) rfl (fun ls hl => ?_)
  exact hloop (nn + 1) 0 (by omega) (by omega) M (by rw [ffl_0]; exact (gw_same ha).symm) _ _ hG ls (lv_sub hl [0, 1, 2, 3] rfl)

set_option maxHeartbeats 4000000 in
set_option maxRecDepth 100000 in
/-- wipe -/
theorem c_wipe (l : Launch) (K : gw_C) (M : gw_M) (h : Nat) (ad : Nat → Nat) (V : hV) (hh : hd K M h ad V) : Met l yX0_wipe wsX0_wipe ({ frames := 1, cells := 0, slots := 0, locals := 24 } : Room) (va_Pc [.ref h] (gw_I K M)) (va_Qv (fun M1 => hd K M1 h ad (ffl V.1 (nI 0) 6, ffl V.2.1 (nI 0) 408, ffl V.2.2.1 (nI 0) 24, ffl V.2.2.2.1 0 24, ffl V.2.2.2.2 0 24) ∧ hfr M M1 ad) (gw_I K) (gw_A K)) 0 0 (gw_A K) := by
  refine Met.ofW (cc := cX0_wipe) (maxL := 1) (ret := none) (by decide) rfl ?_
  intro p e s m args below meth c s₁ B hml hv
  obtain ⟨hav, hI⟩ := hv
  have hx := B.exec
  have hb := B.bytes
  have hr := B.returns
  have hts := atoms_spec (ws := wsX0_wipe) B.pre
  have hown : s.vm.findClass RX0 = some m.cls := findClass_of_methodNamed B.named
  have hlocks : meth.locks = false := B.notSynchronized
  have hT := hI.2.2
  have hK := hT.K
  have hG := hI.B
  have hf9 := hts (.fieldLink RX0 9 "DotGossip$Holding" "seen" "[I") (by decide +kernel)
  have hf15 := hts (.fieldLink RX0 15 "DotGossip$Holding" "numbers" "[I") (by decide +kernel)
  have hf18 := hts (.fieldLink RX0 18 "DotGossip$Holding" "written" "[I") (by decide +kernel)
  have hf21 := hts (.fieldLink RX0 21 "DotGossip$Holding" "added" "[J") (by decide +kernel)
  have hf25 := hts (.fieldLink RX0 25 "DotGossip$Holding" "taken" "[J") (by decide +kernel)
  have hinX0 : ∀ w ∈ wsX00, w ∈ wsX0_wipe := by decide +kernel
  have hE : entryFrame m args 1 = entryFrame m ([.ref h] : List Value).toArray 1 := by rw [hav]
  rw [hE]
  have hl := lv_entry ([.ref h]) (n := 1) (Nat.le_of_ble_eq_true rfl)
  rw [lg_entry_eq]
  generalize (lg_sl ([.ref h]) ++ List.replicate (1 - (lg_sl ([.ref h])).length) Slot.unset).toArray = ls at hl ⊢
  have hl : lv_has ls 1 [(0, .ref h)] := hl
  obtain ⟨h_0, h_s, h_n, h_w, h_a, h_t, h_ne⟩ := id hh
  have hne_56 : h ≠ ad 0 := (gw_io h_0 h_s)
  have hne_57 : h ≠ ad 1 := (gw_io h_0 h_n)
  have hne_58 : h ≠ ad 2 := (gw_io h_0 h_w)
  have hne_59 : h ≠ ad 3 := (gw_io h_0 h_a)
  have hne_60 : h ≠ ad 4 := (gw_io h_0 h_t)
  have hne_61 : ad 0 ≠ ad 1 := (fun z => absurd (h_ne 0 1 (by decide) (by decide) z) (by decide))
  have hne_62 : ad 0 ≠ ad 2 := (fun z => absurd (h_ne 0 2 (by decide) (by decide) z) (by decide))
  have hne_63 : ad 0 ≠ ad 3 := (fun z => absurd (h_ne 0 3 (by decide) (by decide) z) (by decide))
  have hne_64 : ad 0 ≠ ad 4 := (fun z => absurd (h_ne 0 4 (by decide) (by decide) z) (by decide))
  have hne_65 : ad 1 ≠ ad 0 := (fun z => absurd (h_ne 1 0 (by decide) (by decide) z) (by decide))
  have hne_66 : ad 1 ≠ ad 2 := (fun z => absurd (h_ne 1 2 (by decide) (by decide) z) (by decide))
  have hne_67 : ad 1 ≠ ad 3 := (fun z => absurd (h_ne 1 3 (by decide) (by decide) z) (by decide))
  have hne_68 : ad 1 ≠ ad 4 := (fun z => absurd (h_ne 1 4 (by decide) (by decide) z) (by decide))
  have hne_69 : ad 2 ≠ ad 0 := (fun z => absurd (h_ne 2 0 (by decide) (by decide) z) (by decide))
  have hne_70 : ad 2 ≠ ad 1 := (fun z => absurd (h_ne 2 1 (by decide) (by decide) z) (by decide))
  have hne_71 : ad 2 ≠ ad 3 := (fun z => absurd (h_ne 2 3 (by decide) (by decide) z) (by decide))
  have hne_72 : ad 2 ≠ ad 4 := (fun z => absurd (h_ne 2 4 (by decide) (by decide) z) (by decide))
  have hne_73 : ad 3 ≠ ad 0 := (fun z => absurd (h_ne 3 0 (by decide) (by decide) z) (by decide))
  have hne_74 : ad 3 ≠ ad 1 := (fun z => absurd (h_ne 3 1 (by decide) (by decide) z) (by decide))
  have hne_75 : ad 3 ≠ ad 2 := (fun z => absurd (h_ne 3 2 (by decide) (by decide) z) (by decide))
  have hne_76 : ad 3 ≠ ad 4 := (fun z => absurd (h_ne 3 4 (by decide) (by decide) z) (by decide))
  have hne_77 : ad 4 ≠ ad 0 := (fun z => absurd (h_ne 4 0 (by decide) (by decide) z) (by decide))
  have hne_78 : ad 4 ≠ ad 1 := (fun z => absurd (h_ne 4 1 (by decide) (by decide) z) (by decide))
  have hne_79 : ad 4 ≠ ad 2 := (fun z => absurd (h_ne 4 2 (by decide) (by decide) z) (by decide))
  have hne_80 : ad 4 ≠ ad 3 := (fun z => absurd (h_ne 4 3 (by decide) (by decide) z) (by decide))
  refine lv_aload_n hx hb dX0_wipe_0 rfl (lv_at hl 0 rfl) ?_
  refine gw_get (ci := 1) (C := RX0) (T := TX0) (N := 5) hx hb hts hinX0 hown hK hG h_0 rfl 0 (by decide) hf9 (fun _ h9 => h9) rfl dX0_wipe_1 ?_
  refine lv_iconst (v := nI 0) hx hb dX0_wipe_4 (by decide) ?_
  refine gw_callv (va_runS (As := [.ref (ad 0), .int (nI 0)]) (rest := []) ⟨hx, hb, hml, hown, hts⟩ (c_fill0 l K M (ad 0) 6 (V.1) (nI 0) h_s (by decide)) (va_cwS 2 hts gX0_wipe_J7_fill_53178 rfl rfl rfl (by decide +kernel) ⟨Nat.le_of_ble_eq_true rfl, Nat.le_of_ble_eq_true rfl⟩) (gw_preS hG hT) rfl rfl hl.1 rfl (lv_room (Nat.le_of_ble_eq_true rfl)) dX0_wipe_5 ⟨Nat.le_of_ble_eq_true rfl, Nat.le_of_ble_eq_true rfl⟩) hG (fun M_82 H locs hw hG => ?_)
  have hM_83 := hw
  have hc_84 := (congrFun hM_83 h).trans (gw_k hne_56 h_0)
  have hc_85 : M_82 (ad 0) = some (.inl (K.2.1 0, 6, .inl (ffl V.1 (nI 0) 6))) := (congrFun hM_83 _).trans gw_s
  have hc_86 := (congrFun hM_83 (ad 1)).trans (gw_k hne_65 h_n)
  have hc_87 := (congrFun hM_83 (ad 2)).trans (gw_k hne_69 h_w)
  have hc_88 := (congrFun hM_83 (ad 3)).trans (gw_k hne_73 h_a)
  have hc_89 := (congrFun hM_83 (ad 4)).trans (gw_k hne_77 h_t)
  refine lv_aload_n hx hb dX0_wipe_8 rfl (lv_at hl 0 rfl) ?_
  refine gw_get (ci := 1) (C := RX0) (T := TX0) (N := 5) hx hb hts hinX0 hown hK hG hc_84 rfl 1 (by decide) hf15 (fun _ h9 => h9) rfl dX0_wipe_9 ?_
  refine lv_iconst (v := nI 0) hx hb dX0_wipe_12 (by decide) ?_
  refine gw_callv (va_runS (As := [.ref (ad 1), .int (nI 0)]) (rest := []) ⟨hx, hb, hml, hown, hts⟩ (c_fill0 l K M_82 (ad 1) 408 (V.2.1) (nI 0) hc_86 (by decide)) (va_cwS 2 hts gX0_wipe_J7_fill_53178 rfl rfl rfl (by decide +kernel) ⟨Nat.le_of_ble_eq_true rfl, Nat.le_of_ble_eq_true rfl⟩) (gw_preS hG hT) rfl rfl hl.1 rfl (lv_room (Nat.le_of_ble_eq_true rfl)) dX0_wipe_13 ⟨Nat.le_of_ble_eq_true rfl, Nat.le_of_ble_eq_true rfl⟩) hG (fun M_91 H locs hw hG => ?_)
  have hM_92 := hw
  have hc_93 := (congrFun hM_92 h).trans (gw_k hne_57 hc_84)
  have hc_94 := (congrFun hM_92 (ad 0)).trans (gw_k hne_61 hc_85)
  have hc_95 : M_91 (ad 1) = some (.inl (K.2.1 0, 408, .inl (ffl V.2.1 (nI 0) 408))) := (congrFun hM_92 _).trans gw_s
  have hc_96 := (congrFun hM_92 (ad 2)).trans (gw_k hne_70 hc_87)
  have hc_97 := (congrFun hM_92 (ad 3)).trans (gw_k hne_74 hc_88)
  have hc_98 := (congrFun hM_92 (ad 4)).trans (gw_k hne_78 hc_89)
  refine lv_aload_n hx hb dX0_wipe_16 rfl (lv_at hl 0 rfl) ?_
  refine gw_get (ci := 1) (C := RX0) (T := TX0) (N := 5) hx hb hts hinX0 hown hK hG hc_93 rfl 2 (by decide) hf18 (fun _ h9 => h9) rfl dX0_wipe_17 ?_
  refine lv_iconst (v := nI 0) hx hb dX0_wipe_20 (by decide) ?_
  refine gw_callv (va_runS (As := [.ref (ad 2), .int (nI 0)]) (rest := []) ⟨hx, hb, hml, hown, hts⟩ (c_fill0 l K M_91 (ad 2) 24 (V.2.2.1) (nI 0) hc_96 (by decide)) (va_cwS 2 hts gX0_wipe_J7_fill_53178 rfl rfl rfl (by decide +kernel) ⟨Nat.le_of_ble_eq_true rfl, Nat.le_of_ble_eq_true rfl⟩) (gw_preS hG hT) rfl rfl hl.1 rfl (lv_room (Nat.le_of_ble_eq_true rfl)) dX0_wipe_21 ⟨Nat.le_of_ble_eq_true rfl, Nat.le_of_ble_eq_true rfl⟩) hG (fun M_100 H locs hw hG => ?_)
  have hM_101 := hw
  have hc_102 := (congrFun hM_101 h).trans (gw_k hne_58 hc_93)
  have hc_103 := (congrFun hM_101 (ad 0)).trans (gw_k hne_62 hc_94)
  have hc_104 := (congrFun hM_101 (ad 1)).trans (gw_k hne_66 hc_95)
  have hc_105 : M_100 (ad 2) = some (.inl (K.2.1 0, 24, .inl (ffl V.2.2.1 (nI 0) 24))) := (congrFun hM_101 _).trans gw_s
  have hc_106 := (congrFun hM_101 (ad 3)).trans (gw_k hne_75 hc_97)
  have hc_107 := (congrFun hM_101 (ad 4)).trans (gw_k hne_79 hc_98)
  refine lv_aload_n hx hb dX0_wipe_24 rfl (lv_at hl 0 rfl) ?_
  refine gw_get (ci := 1) (C := RX0) (T := TX0) (N := 5) hx hb hts hinX0 hown hK hG hc_102 rfl 3 (by decide) hf21 (fun _ h9 => h9) rfl dX0_wipe_25 ?_
  refine lv_lconst (v := 0) hx hb dX0_wipe_28 (by decide) ?_
  refine gw_callv (va_runS (As := [.ref (ad 3), .long 0]) (rest := []) ⟨hx, hb, hml, hown, hts⟩ (c_fill1 l K M_100 (ad 3) 24 (V.2.2.2.1) 0 hc_106 (by decide)) (va_cwS 2 hts gX0_wipe_J7_fill_d0a16 rfl rfl rfl (by decide +kernel) ⟨Nat.le_of_ble_eq_true rfl, Nat.le_of_ble_eq_true rfl⟩) (gw_preS hG hT) rfl rfl hl.1 rfl (lv_room (Nat.le_of_ble_eq_true rfl)) dX0_wipe_29 ⟨Nat.le_of_ble_eq_true rfl, Nat.le_of_ble_eq_true rfl⟩) hG (fun M_109 H locs hw hG => ?_)
  have hM_110 := hw
  have hc_111 := (congrFun hM_110 h).trans (gw_k hne_59 hc_102)
  have hc_112 := (congrFun hM_110 (ad 0)).trans (gw_k hne_63 hc_103)
  have hc_113 := (congrFun hM_110 (ad 1)).trans (gw_k hne_67 hc_104)
  have hc_114 := (congrFun hM_110 (ad 2)).trans (gw_k hne_71 hc_105)
  have hc_115 : M_109 (ad 3) = some (.inl (K.2.1 1, 24, .inr (.inl (ffl V.2.2.2.1 0 24)))) := (congrFun hM_110 _).trans gw_s
  have hc_116 := (congrFun hM_110 (ad 4)).trans (gw_k hne_80 hc_107)
  refine lv_aload_n hx hb dX0_wipe_32 rfl (lv_at hl 0 rfl) ?_
  refine gw_get (ci := 1) (C := RX0) (T := TX0) (N := 5) hx hb hts hinX0 hown hK hG hc_111 rfl 4 (by decide) hf25 (fun _ h9 => h9) rfl dX0_wipe_33 ?_
  refine lv_lconst (v := 0) hx hb dX0_wipe_36 (by decide) ?_
  refine gw_callv (va_runS (As := [.ref (ad 4), .long 0]) (rest := []) ⟨hx, hb, hml, hown, hts⟩ (c_fill1 l K M_109 (ad 4) 24 (V.2.2.2.2) 0 hc_116 (by decide)) (va_cwS 2 hts gX0_wipe_J7_fill_d0a16 rfl rfl rfl (by decide +kernel) ⟨Nat.le_of_ble_eq_true rfl, Nat.le_of_ble_eq_true rfl⟩) (gw_preS hG hT) rfl rfl hl.1 rfl (lv_room (Nat.le_of_ble_eq_true rfl)) dX0_wipe_37 ⟨Nat.le_of_ble_eq_true rfl, Nat.le_of_ble_eq_true rfl⟩) hG (fun M_118 H locs hw hG => ?_)
  have hM_119 := hw
  have hc_120 := (congrFun hM_119 h).trans (gw_k hne_60 hc_111)
  have hc_121 := (congrFun hM_119 (ad 0)).trans (gw_k hne_64 hc_112)
  have hc_122 := (congrFun hM_119 (ad 1)).trans (gw_k hne_68 hc_113)
  have hc_123 := (congrFun hM_119 (ad 2)).trans (gw_k hne_72 hc_114)
  have hc_124 := (congrFun hM_119 (ad 3)).trans (gw_k hne_76 hc_115)
  have hc_125 : M_118 (ad 4) = some (.inl (K.2.1 1, 24, .inr (.inl (ffl V.2.2.2.2 0 24)))) := (congrFun hM_119 _).trans gw_s
  exact gw_vret hx hb hr hlocks hG hT (by omega) (by omega) dX0_wipe_40 ⟨⟨hc_120, hc_121, hc_122, hc_123, hc_124, hc_125, h_ne⟩, fun q hq => by rw [hM_119, gw_n (hq 4 (by decide)), hM_110, gw_n (hq 3 (by decide)), hM_101, gw_n (hq 2 (by decide)), hM_92, gw_n (hq 1 (by decide)), hM_83, gw_n (hq 0 (by decide))]⟩

set_option maxHeartbeats 4000000 in
set_option maxRecDepth 100000 in
/-- merge -/
theorem c_mergeF (l : Launch) (K : gw_C) (M : gw_M) (h g : Nat) (ad ad2 : Nat → Nat) (V U : hV) (F : Nat → hV × Nat) (hF0 : F 0 = (V, 0)) (hFs : ∀ pl mk, mk < 6 → F (pl * 6 + mk + 1) = (hmd (F (pl * 6 + mk)).1 U pl mk, (F (pl * 6 + mk)).2 + hmc (F (pl * 6 + mk)).1 U pl mk)) (hh : hd K M h ad V) (hg : hd K M g ad2 U) (hdis : ∀ i j, i < 5 → j < 5 → ad2 j ≠ ad i) : Met l yX0_merge wsX0_merge ({ frames := 1, cells := 0, slots := 0, locals := 26 } : Room) (va_Pc [.ref h, .ref g] (gw_I K M)) (va_Qi (fun r M1 => r = nI (F 408).2 ∧ hd K M1 h ad (hmx (F 408).1.1 U.1 6, (F 408).1.2.1, (F 408).1.2.2.1, hmxl (F 408).1.2.2.2.1 U.2.2.2.1 24, hmxl (F 408).1.2.2.2.2 U.2.2.2.2 24) ∧ hd K M1 g ad2 U ∧ hfr M M1 ad) (gw_I K) (gw_A K)) 0 0 (gw_A K) := by
  refine Met.ofW (cc := cX0_merge) (maxL := 5) (ret := (some .int)) (by decide) rfl ?_
  intro p e s m args below meth c s₁ B hml hv
  obtain ⟨hav, hI⟩ := hv
  have hx := B.exec
  have hb := B.bytes
  have hr := B.returns
  have hts := atoms_spec (ws := wsX0_merge) B.pre
  have hown : s.vm.findClass RX0 = some m.cls := findClass_of_methodNamed B.named
  have hlocks : meth.locks = false := B.notSynchronized
  have hT := hI.2.2
  have hK := hT.K
  have hG := hI.B
  have hf9 := hts (.fieldLink RX0 9 "DotGossip$Holding" "seen" "[I") (by decide +kernel)
  have hf15 := hts (.fieldLink RX0 15 "DotGossip$Holding" "numbers" "[I") (by decide +kernel)
  have hf18 := hts (.fieldLink RX0 18 "DotGossip$Holding" "written" "[I") (by decide +kernel)
  have hf21 := hts (.fieldLink RX0 21 "DotGossip$Holding" "added" "[J") (by decide +kernel)
  have hf25 := hts (.fieldLink RX0 25 "DotGossip$Holding" "taken" "[J") (by decide +kernel)
  have hinX0 : ∀ w ∈ wsX00, w ∈ wsX0_merge := by decide +kernel
  have hE : entryFrame m args 5 = entryFrame m ([.ref h, .ref g] : List Value).toArray 5 := by rw [hav]
  rw [hE]
  have hl := lv_entry ([.ref h, .ref g]) (n := 5) (Nat.le_of_ble_eq_true rfl)
  rw [lg_entry_eq]
  generalize (lg_sl ([.ref h, .ref g]) ++ List.replicate (5 - (lg_sl ([.ref h, .ref g])).length) Slot.unset).toArray = ls at hl ⊢
  have hl : lv_has ls 5 [(0, .ref h), (1, .ref g)] := hl
  have hV408 : ∃ W9 : hV, W9 = (F 408).1 := ⟨_, rfl⟩
  obtain ⟨W9, hW9⟩ := hV408
  have hl3 : ∀ (n : Nat) (cn i : Nat), i ≤ 24 → cn = (F 408).2 → 24 + 1 ≤ i + n → ∀ (Mi : gw_M), hd K Mi h ad (hmx W9.1 U.1 6, W9.2.1, W9.2.2.1, hmxl W9.2.2.2.1 U.2.2.2.1 i, hmxl W9.2.2.2.2 U.2.2.2.2 i) ∧ hd K Mi g ad2 U ∧ hfr M Mi ad → ∀ (H : Heap) (locs : List Loc), gw_B K Mi s.heap H locs → ∀ (ls : Array Slot), lv_has ls 5 [(3, .int (nI i)), (2, .int (nI cn)), (0, .ref h), (1, .ref g)] → W p l e ({ frames := 1, cells := 0, slots := 0, locals := 26 } : Room) s m args below meth c H locs 0 0 (MQ below (va_Qi (fun r M1 => r = nI (F 408).2 ∧ hd K M1 h ad (hmx (F 408).1.1 U.1 6, (F 408).1.2.1, (F 408).1.2.2.1, hmxl (F 408).1.2.2.2.1 U.2.2.2.1 24, hmxl (F 408).1.2.2.2.2 U.2.2.2.2 24) ∧ hd K M1 g ad2 U ∧ hfr M M1 ad) (gw_I K) (gw_A K)) args s 0 0 (gw_A K)) (F0 m 83 ls []) := by
    intro n
    induction n with
    | zero =>
      intro cn i hg0 hg1 hm
      exact absurd hm (by omega)
    | succ n ih =>
      intro cn i hg0 hg1 hm Mi hMi H locs hG ls hl
      generalize hA9 : hmxl W9.2.2.2.1 U.2.2.2.1 i = A9 at hMi
      generalize hB9 : hmxl W9.2.2.2.2 U.2.2.2.2 i = B9 at hMi
      obtain ⟨q1, q2, q3⟩ := hMi
      obtain ⟨x_0, x_s, x_n, x_w, x_a, x_t, x_ne⟩ := id q1
      obtain ⟨y_0, y_s, y_n, y_w, y_a, y_t, y_ne⟩ := id q2
      have hne_126 : h ≠ ad 3 := (gw_io x_0 x_a)
      have hne_127 : h ≠ ad 4 := (gw_io x_0 x_t)
      have hne_128 : g ≠ ad 3 := (gw_io y_0 x_a)
      have hne_129 : g ≠ ad 4 := (gw_io y_0 x_t)
      have hne_130 : ad 0 ≠ ad 3 := (fun z => absurd (x_ne 0 3 (by decide) (by decide) z) (by decide))
      have hne_131 : ad 0 ≠ ad 4 := (fun z => absurd (x_ne 0 4 (by decide) (by decide) z) (by decide))
      have hne_132 : ad 1 ≠ ad 3 := (fun z => absurd (x_ne 1 3 (by decide) (by decide) z) (by decide))
      have hne_133 : ad 1 ≠ ad 4 := (fun z => absurd (x_ne 1 4 (by decide) (by decide) z) (by decide))
      have hne_134 : ad 2 ≠ ad 3 := (fun z => absurd (x_ne 2 3 (by decide) (by decide) z) (by decide))
      have hne_135 : ad 2 ≠ ad 4 := (fun z => absurd (x_ne 2 4 (by decide) (by decide) z) (by decide))
      have hne_136 : ad 3 ≠ ad 4 := (fun z => absurd (x_ne 3 4 (by decide) (by decide) z) (by decide))
      have hne_137 : ad 4 ≠ ad 3 := (fun z => absurd (x_ne 4 3 (by decide) (by decide) z) (by decide))
      have hne_138 : ad2 0 ≠ ad 3 := (hdis 3 0 (by decide) (by decide))
      have hne_139 : ad2 0 ≠ ad 4 := (hdis 4 0 (by decide) (by decide))
      have hne_140 : ad2 1 ≠ ad 3 := (hdis 3 1 (by decide) (by decide))
      have hne_141 : ad2 1 ≠ ad 4 := (hdis 4 1 (by decide) (by decide))
      have hne_142 : ad2 2 ≠ ad 3 := (hdis 3 2 (by decide) (by decide))
      have hne_143 : ad2 2 ≠ ad 4 := (hdis 4 2 (by decide) (by decide))
      have hne_144 : ad2 3 ≠ ad 3 := (hdis 3 3 (by decide) (by decide))
      have hne_145 : ad2 3 ≠ ad 4 := (hdis 4 3 (by decide) (by decide))
      have hne_146 : ad2 4 ≠ ad 3 := (hdis 3 4 (by decide) (by decide))
      have hne_147 : ad2 4 ≠ ad 4 := (hdis 4 4 (by decide) (by decide))
      refine lv_iload_n hx hb dX0_merge_83 rfl (lv_at hl 0 rfl) ?_
      refine lv_bipush (v := nI 24) hx hb dX0_merge_84 (by decide) ?_
      refine gw_icmp_ge hx hb (by omega) (by omega) (tgt := 137) dX0_merge_86 (by decide) (fun hc => ?_) (fun hc => ?_)
      · obtain rfl : i = 24 := by omega
        refine lv_iload_n hx hb dX0_merge_137 rfl (lv_at hl 1 rfl) ?_
        exact gw_iret hx hb hr hlocks hG hT (by omega) (by omega) dX0_merge_138 ⟨by rw [hg1], by rw [← hW9, hA9, hB9]; exact q1, q2, q3⟩
      · refine lv_aload_n hx hb dX0_merge_89 rfl (lv_at hl 2 rfl) ?_
        refine gw_get (ci := 1) (C := RX0) (T := TX0) (N := 5) hx hb hts hinX0 hown hK hG x_0 rfl 3 (by decide) hf21 (fun _ h9 => h9) rfl dX0_merge_90 ?_
        refine lv_iload_n hx hb dX0_merge_93 rfl (lv_at hl 0 rfl) ?_
        refine lv_aload_n hx hb dX0_merge_94 rfl (lv_at hl 2 rfl) ?_
        refine gw_get (ci := 1) (C := RX0) (T := TX0) (N := 5) hx hb hts hinX0 hown hK hG x_0 rfl 3 (by decide) hf21 (fun _ h9 => h9) rfl dX0_merge_95 ?_
        refine lv_iload_n hx hb dX0_merge_98 rfl (lv_at hl 0 rfl) ?_
        refine gw_lald_n hx hb hK hG x_a 1 rfl (by omega) (by omega) dX0_merge_99 ?_
        refine lv_aload_n hx hb dX0_merge_100 rfl (lv_at hl 3 rfl) ?_
        refine gw_get (ci := 1) (C := RX0) (T := TX0) (N := 5) hx hb hts hinX0 hown hK hG y_0 rfl 3 (by decide) hf21 (fun _ h9 => h9) rfl dX0_merge_101 ?_
        refine lv_iload_n hx hb dX0_merge_104 rfl (lv_at hl 0 rfl) ?_
        refine gw_lald_n hx hb hK hG y_a 1 rfl (by omega) (by omega) dX0_merge_105 ?_
        refine va_mmax_long hx hb (hml.trans hl.1.symm) hown (hts (.methodLink RX0 58 Lib.MathLoose.max_long.x) (by decide +kernel)) (hts (.static Lib.MathLoose.max_long.x) (by decide +kernel)) (hts (.initialized "java/lang/Math") (by decide +kernel)) (hts (.code Lib.MathLoose.max_long.x Lib.MathLoose.max_long.code 4 (some .long)) (by decide +kernel)) (Nat.le_of_ble_eq_true rfl) (Nat.le_of_ble_eq_true rfl) (Nat.le_of_ble_eq_true rfl) (Nat.le_of_ble_eq_true rfl) dX0_merge_106 ?_
        refine gw_last_n hx hb hK hG x_a 1 rfl (by omega) (by omega) dX0_merge_109 (fun H locs hG => ?_)
        obtain ⟨M_148, hM_149⟩ : ∃ M1 : gw_M, M1 = gw_up Mi (ad 3) (.inl (K.2.1 1, 24, .inr (.inl (vp_updL A9 i (if U.2.2.2.1 i < A9 i then A9 i else U.2.2.2.1 i))))) := ⟨_, rfl⟩
        have hG : gw_B K M_148 s.heap H locs := by rw [hM_149]; exact hG
        have hc_150 := (congrFun hM_149 h).trans (gw_k hne_126 x_0)
        have hc_151 := (congrFun hM_149 (ad 0)).trans (gw_k hne_130 x_s)
        have hc_152 := (congrFun hM_149 (ad 1)).trans (gw_k hne_132 x_n)
        have hc_153 := (congrFun hM_149 (ad 2)).trans (gw_k hne_134 x_w)
        have hc_154 : M_148 (ad 3) = some (.inl (K.2.1 1, 24, .inr (.inl (vp_updL A9 i (if U.2.2.2.1 i < A9 i then A9 i else U.2.2.2.1 i))))) := (congrFun hM_149 _).trans gw_s
        have hc_155 := (congrFun hM_149 (ad 4)).trans (gw_k hne_137 x_t)
        have hc_156 := (congrFun hM_149 g).trans (gw_k hne_128 y_0)
        have hc_157 := (congrFun hM_149 (ad2 0)).trans (gw_k hne_138 y_s)
        have hc_158 := (congrFun hM_149 (ad2 1)).trans (gw_k hne_140 y_n)
        have hc_159 := (congrFun hM_149 (ad2 2)).trans (gw_k hne_142 y_w)
        have hc_160 := (congrFun hM_149 (ad2 3)).trans (gw_k hne_144 y_a)
        have hc_161 := (congrFun hM_149 (ad2 4)).trans (gw_k hne_146 y_t)
        refine lv_aload_n hx hb dX0_merge_110 rfl (lv_at hl 2 rfl) ?_
        refine gw_get (ci := 1) (C := RX0) (T := TX0) (N := 5) hx hb hts hinX0 hown hK hG hc_150 rfl 4 (by decide) hf25 (fun _ h9 => h9) rfl dX0_merge_111 ?_
        refine lv_iload_n hx hb dX0_merge_114 rfl (lv_at hl 0 rfl) ?_
        refine lv_aload_n hx hb dX0_merge_115 rfl (lv_at hl 2 rfl) ?_
        refine gw_get (ci := 1) (C := RX0) (T := TX0) (N := 5) hx hb hts hinX0 hown hK hG hc_150 rfl 4 (by decide) hf25 (fun _ h9 => h9) rfl dX0_merge_116 ?_
        refine lv_iload_n hx hb dX0_merge_119 rfl (lv_at hl 0 rfl) ?_
        refine gw_lald_n hx hb hK hG hc_155 1 rfl (by omega) (by omega) dX0_merge_120 ?_
        refine lv_aload_n hx hb dX0_merge_121 rfl (lv_at hl 3 rfl) ?_
        refine gw_get (ci := 1) (C := RX0) (T := TX0) (N := 5) hx hb hts hinX0 hown hK hG hc_156 rfl 4 (by decide) hf25 (fun _ h9 => h9) rfl dX0_merge_122 ?_
        refine lv_iload_n hx hb dX0_merge_125 rfl (lv_at hl 0 rfl) ?_
        refine gw_lald_n hx hb hK hG hc_161 1 rfl (by omega) (by omega) dX0_merge_126 ?_
        refine va_mmax_long hx hb (hml.trans hl.1.symm) hown (hts (.methodLink RX0 58 Lib.MathLoose.max_long.x) (by decide +kernel)) (hts (.static Lib.MathLoose.max_long.x) (by decide +kernel)) (hts (.initialized "java/lang/Math") (by decide +kernel)) (hts (.code Lib.MathLoose.max_long.x Lib.MathLoose.max_long.code 4 (some .long)) (by decide +kernel)) (Nat.le_of_ble_eq_true rfl) (Nat.le_of_ble_eq_true rfl) (Nat.le_of_ble_eq_true rfl) (Nat.le_of_ble_eq_true rfl) dX0_merge_127 ?_
        refine gw_last_n hx hb hK hG hc_155 1 rfl (by omega) (by omega) dX0_merge_130 (fun H locs hG => ?_)
        obtain ⟨M_162, hM_163⟩ : ∃ M1 : gw_M, M1 = gw_up M_148 (ad 4) (.inl (K.2.1 1, 24, .inr (.inl (vp_updL B9 i (if U.2.2.2.2 i < B9 i then B9 i else U.2.2.2.2 i))))) := ⟨_, rfl⟩
        have hG : gw_B K M_162 s.heap H locs := by rw [hM_163]; exact hG
        have hc_164 := (congrFun hM_163 h).trans (gw_k hne_127 hc_150)
        have hc_165 := (congrFun hM_163 (ad 0)).trans (gw_k hne_131 hc_151)
        have hc_166 := (congrFun hM_163 (ad 1)).trans (gw_k hne_133 hc_152)
        have hc_167 := (congrFun hM_163 (ad 2)).trans (gw_k hne_135 hc_153)
        have hc_168 := (congrFun hM_163 (ad 3)).trans (gw_k hne_136 hc_154)
        have hc_169 : M_162 (ad 4) = some (.inl (K.2.1 1, 24, .inr (.inl (vp_updL B9 i (if U.2.2.2.2 i < B9 i then B9 i else U.2.2.2.2 i))))) := (congrFun hM_163 _).trans gw_s
        have hc_170 := (congrFun hM_163 g).trans (gw_k hne_129 hc_156)
        have hc_171 := (congrFun hM_163 (ad2 0)).trans (gw_k hne_139 hc_157)
        have hc_172 := (congrFun hM_163 (ad2 1)).trans (gw_k hne_141 hc_158)
        have hc_173 := (congrFun hM_163 (ad2 2)).trans (gw_k hne_143 hc_159)
        have hc_174 := (congrFun hM_163 (ad2 3)).trans (gw_k hne_145 hc_160)
        have hc_175 := (congrFun hM_163 (ad2 4)).trans (gw_k hne_147 hc_161)
        refine lv_iinc (v := nI (i + 1)) (lv' := [(3, .int (nI (i + 1))), (2, .int (nI cn)), (0, .ref h), (1, .ref g)]) hx hb dX0_merge_131 hl (k := 0) rfl (gw_inc _) (by decide) rfl (fun ls hl => ?_)
        refine lv_goto (tgt := 83) hx hb dX0_merge_134 (by decide) ?_
        rw [← hA9, hmxl_s] at hc_168
        rw [← hB9, hmxl_s] at hc_169
        exact ih cn (i + 1) (by omega) hg1 (by omega) _ ⟨⟨hc_164, hc_165, hc_166, hc_167, hc_168, hc_169, x_ne⟩, ⟨hc_170, hc_171, hc_172, hc_173, hc_174, hc_175, y_ne⟩, fun q hq => by rw [hM_163, gw_n (hq 4 (by decide)), hM_149, gw_n (hq 3 (by decide))]; exact q3 q hq⟩ _ _ hG ls (lv_sub hl [0, 1, 2, 3] rfl)
  have hl2 : ∀ (n : Nat) (cn i : Nat), i ≤ 6 → cn = (F 408).2 → 6 + 1 ≤ i + n → ∀ (Mi : gw_M), hd K Mi h ad (hmx W9.1 U.1 i, W9.2) ∧ hd K Mi g ad2 U ∧ hfr M Mi ad → ∀ (H : Heap) (locs : List Loc), gw_B K Mi s.heap H locs → ∀ (ls : Array Slot), lv_has ls 5 [(3, .int (nI i)), (2, .int (nI cn)), (0, .ref h), (1, .ref g)] → W p l e ({ frames := 1, cells := 0, slots := 0, locals := 26 } : Room) s m args below meth c H locs 0 0 (MQ below (va_Qi (fun r M1 => r = nI (F 408).2 ∧ hd K M1 h ad (hmx (F 408).1.1 U.1 6, (F 408).1.2.1, (F 408).1.2.2.1, hmxl (F 408).1.2.2.2.1 U.2.2.2.1 24, hmxl (F 408).1.2.2.2.2 U.2.2.2.2 24) ∧ hd K M1 g ad2 U ∧ hfr M M1 ad) (gw_I K) (gw_A K)) args s 0 0 (gw_A K)) (F0 m 48 ls []) := by
    intro n
    induction n with
    | zero =>
      intro cn i hg0 hg1 hm
      exact absurd hm (by omega)
    | succ n ih =>
      intro cn i hg0 hg1 hm Mi hMi H locs hG ls hl
      generalize hA9 : hmx W9.1 U.1 i = A9 at hMi
      obtain ⟨q1, q2, q3⟩ := hMi
      obtain ⟨x_0, x_s, x_n, x_w, x_a, x_t, x_ne⟩ := id q1
      obtain ⟨y_0, y_s, y_n, y_w, y_a, y_t, y_ne⟩ := id q2
      have hne_176 : h ≠ ad 0 := (gw_io x_0 x_s)
      have hne_177 : g ≠ ad 0 := (gw_io y_0 x_s)
      have hne_178 : ad 1 ≠ ad 0 := (fun z => absurd (x_ne 1 0 (by decide) (by decide) z) (by decide))
      have hne_179 : ad 2 ≠ ad 0 := (fun z => absurd (x_ne 2 0 (by decide) (by decide) z) (by decide))
      have hne_180 : ad 3 ≠ ad 0 := (fun z => absurd (x_ne 3 0 (by decide) (by decide) z) (by decide))
      have hne_181 : ad 4 ≠ ad 0 := (fun z => absurd (x_ne 4 0 (by decide) (by decide) z) (by decide))
      have hne_182 : ad2 0 ≠ ad 0 := (hdis 0 0 (by decide) (by decide))
      have hne_183 : ad2 1 ≠ ad 0 := (hdis 0 1 (by decide) (by decide))
      have hne_184 : ad2 2 ≠ ad 0 := (hdis 0 2 (by decide) (by decide))
      have hne_185 : ad2 3 ≠ ad 0 := (hdis 0 3 (by decide) (by decide))
      have hne_186 : ad2 4 ≠ ad 0 := (hdis 0 4 (by decide) (by decide))
      refine lv_iload_n hx hb dX0_merge_48 rfl (lv_at hl 0 rfl) ?_
      refine lv_bipush (v := nI 6) hx hb dX0_merge_49 (by decide) ?_
      refine gw_icmp_ge hx hb (by omega) (by omega) (tgt := 81) dX0_merge_51 (by decide) (fun hc => ?_) (fun hc => ?_)
      · obtain rfl : i = 6 := by omega
        refine lv_iconst (v := nI 0) hx hb dX0_merge_81 (by decide) ?_
        refine lv_istore_n (lv' := [(3, .int (nI 0)), (2, .int (nI cn)), (0, .ref h), (1, .ref g)]) hx hb dX0_merge_82 rfl hl (by decide) rfl (fun ls hl => ?_)
        exact hl3 25 cn 0 (by omega) hg1 (by omega) Mi ⟨by rw [hA9, hmxl_0, hmxl_0]; exact q1, q2, q3⟩ _ _ hG ls (lv_sub hl [0, 1, 2, 3] rfl)
      · refine lv_aload_n hx hb dX0_merge_54 rfl (lv_at hl 2 rfl) ?_
        refine gw_get (ci := 1) (C := RX0) (T := TX0) (N := 5) hx hb hts hinX0 hown hK hG x_0 rfl 0 (by decide) hf9 (fun _ h9 => h9) rfl dX0_merge_55 ?_
        refine lv_iload_n hx hb dX0_merge_58 rfl (lv_at hl 0 rfl) ?_
        refine lv_aload_n hx hb dX0_merge_59 rfl (lv_at hl 2 rfl) ?_
        refine gw_get (ci := 1) (C := RX0) (T := TX0) (N := 5) hx hb hts hinX0 hown hK hG x_0 rfl 0 (by decide) hf9 (fun _ h9 => h9) rfl dX0_merge_60 ?_
        refine lv_iload_n hx hb dX0_merge_63 rfl (lv_at hl 0 rfl) ?_
        refine gw_iald_n hx hb hK hG x_s 0 rfl (by omega) (by omega) dX0_merge_64 ?_
        refine lv_aload_n hx hb dX0_merge_65 rfl (lv_at hl 3 rfl) ?_
        refine gw_get (ci := 1) (C := RX0) (T := TX0) (N := 5) hx hb hts hinX0 hown hK hG y_0 rfl 0 (by decide) hf9 (fun _ h9 => h9) rfl dX0_merge_66 ?_
        refine lv_iload_n hx hb dX0_merge_69 rfl (lv_at hl 0 rfl) ?_
        refine gw_iald_n hx hb hK hG y_s 0 rfl (by omega) (by omega) dX0_merge_70 ?_
        refine va_mmax hx hb (hml.trans hl.1.symm) hown (hts (.methodLink RX0 52 Lib.Math.max.name) (by decide +kernel)) (hts (.static Lib.Math.max.name) (by decide +kernel)) (hts (.initialized "java/lang/Math") (by decide +kernel)) (hts (.code Lib.Math.max.name Lib.Math.max.code 2 (some .int)) (by decide +kernel)) (Nat.le_of_ble_eq_true rfl) (Nat.le_of_ble_eq_true rfl) (Nat.le_of_ble_eq_true rfl) (Nat.le_of_ble_eq_true rfl) dX0_merge_71 ?_
        refine gw_iast_n hx hb hK hG x_s 0 rfl (by omega) (by omega) dX0_merge_74 (fun H locs hG => ?_)
        obtain ⟨M_187, hM_188⟩ : ∃ M1 : gw_M, M1 = gw_up Mi (ad 0) (.inl (K.2.1 0, 6, .inl (upd A9 i (if A9 i < U.1 i then U.1 i else A9 i)))) := ⟨_, rfl⟩
        have hG : gw_B K M_187 s.heap H locs := by rw [hM_188]; exact hG
        have hc_189 := (congrFun hM_188 h).trans (gw_k hne_176 x_0)
        have hc_190 : M_187 (ad 0) = some (.inl (K.2.1 0, 6, .inl (upd A9 i (if A9 i < U.1 i then U.1 i else A9 i)))) := (congrFun hM_188 _).trans gw_s
        have hc_191 := (congrFun hM_188 (ad 1)).trans (gw_k hne_178 x_n)
        have hc_192 := (congrFun hM_188 (ad 2)).trans (gw_k hne_179 x_w)
        have hc_193 := (congrFun hM_188 (ad 3)).trans (gw_k hne_180 x_a)
        have hc_194 := (congrFun hM_188 (ad 4)).trans (gw_k hne_181 x_t)
        have hc_195 := (congrFun hM_188 g).trans (gw_k hne_177 y_0)
        have hc_196 := (congrFun hM_188 (ad2 0)).trans (gw_k hne_182 y_s)
        have hc_197 := (congrFun hM_188 (ad2 1)).trans (gw_k hne_183 y_n)
        have hc_198 := (congrFun hM_188 (ad2 2)).trans (gw_k hne_184 y_w)
        have hc_199 := (congrFun hM_188 (ad2 3)).trans (gw_k hne_185 y_a)
        have hc_200 := (congrFun hM_188 (ad2 4)).trans (gw_k hne_186 y_t)
        refine lv_iinc (v := nI (i + 1)) (lv' := [(3, .int (nI (i + 1))), (2, .int (nI cn)), (0, .ref h), (1, .ref g)]) hx hb dX0_merge_75 hl (k := 0) rfl (gw_inc _) (by decide) rfl (fun ls hl => ?_)
        refine lv_goto (tgt := 48) hx hb dX0_merge_78 (by decide) ?_
        rw [← hA9, hmx_s] at hc_190
        exact ih cn (i + 1) (by omega) hg1 (by omega) _ ⟨⟨hc_189, hc_190, hc_191, hc_192, hc_193, hc_194, x_ne⟩, ⟨hc_195, hc_196, hc_197, hc_198, hc_199, hc_200, y_ne⟩, fun q hq => by rw [hM_188, gw_n (hq 0 (by decide))]; exact q3 q hq⟩ _ _ hG ls (lv_sub hl [0, 1, 2, 3] rfl)
  have hl1 : ∀ (n : Nat) (pl : Nat), pl ≤ 68 → 68 + 1 ≤ pl + n → ∀ (Mi : gw_M), hd K Mi h ad ((F (pl * 6)).1) ∧ hd K Mi g ad2 U ∧ hfr M Mi ad → ∀ (H : Heap) (locs : List Loc), gw_B K Mi s.heap H locs → ∀ (ls : Array Slot), lv_has ls 5 [(3, .int (nI pl)), (2, .int (nI ((F (pl * 6)).2))), (0, .ref h), (1, .ref g)] → W p l e ({ frames := 1, cells := 0, slots := 0, locals := 26 } : Room) s m args below meth c H locs 0 0 (MQ below (va_Qi (fun r M1 => r = nI (F 408).2 ∧ hd K M1 h ad (hmx (F 408).1.1 U.1 6, (F 408).1.2.1, (F 408).1.2.2.1, hmxl (F 408).1.2.2.2.1 U.2.2.2.1 24, hmxl (F 408).1.2.2.2.2 U.2.2.2.2 24) ∧ hd K M1 g ad2 U ∧ hfr M M1 ad) (gw_I K) (gw_A K)) args s 0 0 (gw_A K)) (F0 m 4 ls []) := by
    intro n
    induction n with
    | zero =>
      intro pl hg0 hm
      exact absurd hm (by omega)
    | succ n ih =>
      intro pl hg0 hm Mi hMi H locs hG ls hl
      refine lv_iload_n hx hb dX0_merge_4 rfl (lv_at hl 0 rfl) ?_
      refine lv_bipush (v := nI 68) hx hb dX0_merge_5 (by decide) ?_
      refine gw_icmp_ge hx hb (by omega) (by omega) (tgt := 46) dX0_merge_7 (by decide) (fun hc => ?_) (fun hc => ?_)
      · have e68 : pl * 6 = 408 := by omega
        refine lv_iconst (v := nI 0) hx hb dX0_merge_46 (by decide) ?_
        refine lv_istore_n (lv' := [(3, .int (nI 0)), (2, .int (nI ((F (pl * 6)).2))), (0, .ref h), (1, .ref g)]) hx hb dX0_merge_47 rfl hl (by decide) rfl (fun ls hl => ?_)
        exact hl2 7 _ 0 (by omega) (by rw [e68]) (by omega) Mi (by rw [hmx_0, hW9, ← e68]; exact hMi) _ _ hG ls (lv_sub hl [0, 1, 2, 3] rfl)
      · have hl0 : ∀ (n2 : Nat) (mk : Nat), mk ≤ 6 → 6 + 1 ≤ mk + n2 → ∀ (Mj : gw_M), hd K Mj h ad ((F (pl * 6 + mk)).1) ∧ hd K Mj g ad2 U ∧ hfr M Mj ad → ∀ (H : Heap) (locs : List Loc), gw_B K Mj s.heap H locs → ∀ (ls : Array Slot), lv_has ls 5 [(4, .int (nI mk)), (3, .int (nI pl)), (2, .int (nI ((F (pl * 6 + mk)).2))), (0, .ref h), (1, .ref g)] → W p l e ({ frames := 1, cells := 0, slots := 0, locals := 26 } : Room) s m args below meth c H locs 0 0 (MQ below (va_Qi (fun r M1 => r = nI (F 408).2 ∧ hd K M1 h ad (hmx (F 408).1.1 U.1 6, (F 408).1.2.1, (F 408).1.2.2.1, hmxl (F 408).1.2.2.2.1 U.2.2.2.1 24, hmxl (F 408).1.2.2.2.2 U.2.2.2.2 24) ∧ hd K M1 g ad2 U ∧ hfr M M1 ad) (gw_I K) (gw_A K)) args s 0 0 (gw_A K)) (F0 m 13 ls []) := by
          intro n2
          induction n2 with
          | zero =>
            intro mk hg0 hm
            exact absurd hm (by omega)
          | succ n2 ih2 =>
            intro mk hg0 hm Mj hMj H locs hG ls hl
            obtain ⟨q1, q2, q3⟩ := hMj
            obtain ⟨x_0, x_s, x_n, x_w, x_a, x_t, x_ne⟩ := id q1
            refine lv_iload hx hb dX0_merge_13 (lv_at hl 0 rfl) ?_
            refine lv_bipush (v := nI 6) hx hb dX0_merge_15 (by decide) ?_
            refine gw_icmp_ge hx hb (by omega) (by omega) (tgt := 40) dX0_merge_17 (by decide) (fun hc2 => ?_) (fun hc2 => ?_)
            · refine lv_iinc (v := nI (pl + 1)) (lv' := [(3, .int (nI (pl + 1))), (4, .int (nI mk)), (2, .int (nI ((F (pl * 6 + mk)).2))), (0, .ref h), (1, .ref g)]) hx hb dX0_merge_40 hl (k := 1) rfl (gw_inc _) (by decide) rfl (fun ls hl => ?_)
              refine lv_goto (tgt := 4) hx hb dX0_merge_43 (by decide) ?_
              have e6 : (pl + 1) * 6 = pl * 6 + mk := by omega
              exact ih (pl + 1) (by omega) (by omega) Mj (by rw [e6]; exact ⟨q1, q2, q3⟩) _ _ hG ls (by rw [e6]; exact lv_sub hl [0, 2, 3, 4] rfl)
            · refine lv_aload_n hx hb dX0_merge_20 rfl (lv_at hl 3 rfl) ?_
              refine lv_aload_n hx hb dX0_merge_21 rfl (lv_at hl 4 rfl) ?_
              refine lv_iload_n hx hb dX0_merge_22 rfl (lv_at hl 1 rfl) ?_
              refine lv_iload hx hb dX0_merge_23 (lv_at hl 0 rfl) ?_
              refine gw_calli (va_runV (As := [.ref g, .int (nI pl), .int (nI mk)]) (rest := []) ⟨hx, hb, hml, hown, hts⟩ (c_mergeDot l K Mj h g ad ad2 (F (pl * 6 + mk)).1 U pl mk q1 q2 hdis (by omega) hc2) (cwV 3 hts gX0_merge_X0_mergeDot rfl rfl rfl (by decide +kernel) ⟨Nat.le_of_ble_eq_true rfl, Nat.le_of_ble_eq_true rfl⟩) (gw_preV hG hT x_0 rfl) rfl rfl hl.1 rfl (lv_room (Nat.le_of_ble_eq_true rfl)) dX0_merge_25 ⟨Nat.le_of_ble_eq_true rfl, Nat.le_of_ble_eq_true rfl⟩) hG (fun r_201 M_202 H locs hw hG => ?_)
              obtain ⟨hr9, w1, w2, w3⟩ := hw
              have es := hFs pl mk hc2
              refine lv_if_eq hx hb (tgt := 34) dX0_merge_28 (by decide) (fun hz => ?_) (fun hz => ?_)
              · have ec : hmc (F (pl * 6 + mk)).1 U pl mk = 0 := (hmc_01 _ U pl mk).resolve_right (fun q => by rw [hr9, q] at hz; exact absurd hz (by decide))
                refine lv_iinc (v := nI (mk + 1)) (lv' := [(4, .int (nI (mk + 1))), (3, .int (nI pl)), (2, .int (nI ((F (pl * 6 + mk)).2))), (0, .ref h), (1, .ref g)]) hx hb dX0_merge_34 hl (k := 0) rfl (gw_inc _) (by decide) rfl (fun ls hl => ?_)
                refine lv_goto (tgt := 13) hx hb dX0_merge_37 (by decide) ?_
                rw [ec] at es
                clear ec
                exact ih2 (mk + 1) (by omega) (by omega) _ (by rw [← Nat.add_assoc, es]; exact ⟨w1, w2, q3.tr w3⟩) _ _ hG ls (by rw [← Nat.add_assoc, es]; exact lv_sub hl [0, 1, 2, 3, 4] rfl)
              · have ec : hmc (F (pl * 6 + mk)).1 U pl mk = 1 := (hmc_01 _ U pl mk).resolve_left (fun q => by rw [hr9, q] at hz; exact hz (by decide))
                refine lv_iinc (v := nI (((F (pl * 6 + mk)).2) + 1)) (lv' := [(2, .int (nI (((F (pl * 6 + mk)).2) + 1))), (4, .int (nI mk)), (3, .int (nI pl)), (0, .ref h), (1, .ref g)]) hx hb dX0_merge_31 hl (k := 2) rfl (gw_inc _) (by decide) rfl (fun ls hl => ?_)
                refine lv_iinc (v := nI (mk + 1)) (lv' := [(4, .int (nI (mk + 1))), (2, .int (nI (((F (pl * 6 + mk)).2) + 1))), (3, .int (nI pl)), (0, .ref h), (1, .ref g)]) hx hb dX0_merge_34 hl (k := 1) rfl (gw_inc _) (by decide) rfl (fun ls hl => ?_)
                refine lv_goto (tgt := 13) hx hb dX0_merge_37 (by decide) ?_
                rw [ec] at es
                clear ec
                exact ih2 (mk + 1) (by omega) (by omega) _ (by rw [← Nat.add_assoc, es]; exact ⟨w1, w2, q3.tr w3⟩) _ _ hG ls (by rw [← Nat.add_assoc, es]; exact lv_sub hl [0, 2, 1, 3, 4] rfl)
        refine lv_iconst (v := nI 0) hx hb dX0_merge_10 (by decide) ?_
        refine lv_istore (lv' := [(4, .int (nI 0)), (3, .int (nI pl)), (2, .int (nI ((F (pl * 6)).2))), (0, .ref h), (1, .ref g)]) hx hb dX0_merge_11 hl (by decide) rfl (fun ls hl => ?_)
        exact hl0 7 0 (by omega) (by omega) Mi hMi _ _ hG ls (lv_sub hl [0, 1, 2, 3, 4] rfl)
  refine lv_iconst (v := nI 0) hx hb dX0_merge_0 (by decide) ?_
  refine lv_istore_n (lv' := [(2, .int (nI 0)), (0, .ref h), (1, .ref g)]) hx hb dX0_merge_1 rfl hl (by decide) rfl (fun ls hl => ?_)
  refine lv_iconst (v := nI 0) hx hb dX0_merge_2 (by decide) ?_
  refine lv_istore_n (lv' := [(3, .int (nI 0)), (2, .int (nI 0)), (0, .ref h), (1, .ref g)]) hx hb dX0_merge_3 rfl hl (by decide) rfl (fun ls hl => ?_)
  exact hl1 69 0 (by omega) (by omega) M ⟨by rw [Nat.zero_mul, hF0]; exact hh, hg, hfr.rf⟩ _ _ hG ls (by rw [Nat.zero_mul, hF0]; exact lv_sub hl [0, 1, 2, 3] rfl)

theorem c_merge (l : Launch) (K : gw_C) (M : gw_M) (h g : Nat) (ad ad2 : Nat → Nat) (V U : hV) (hh : hd K M h ad V) (hg : hd K M g ad2 U) (hdis : ∀ i j, i < 5 → j < 5 → ad2 j ≠ ad i) : Met l yX0_merge wsX0_merge ({ frames := 1, cells := 0, slots := 0, locals := 26 } : Room) (va_Pc [.ref h, .ref g] (gw_I K M)) (va_Qi (fun r M1 => r = nI (hmf V U 408).2 ∧ hd K M1 h ad (hmg V U) ∧ hd K M1 g ad2 U ∧ hfr M M1 ad) (gw_I K) (gw_A K)) 0 0 (gw_A K) :=
  c_mergeF l K M h g ad ad2 V U (hmf V U) rfl (fun _ _ hk => hmf_s V U hk) hh hg hdis
end
section
/-- a holding of nothing -/
abbrev hV0 : hV := (fun _ => 0, fun _ => 0, fun _ => 0, fun _ => 0, fun _ => 0)
/-- the old cells but h are as they were -/
def kfr (M M1 : gw_M) (h : Nat) : Prop := ∀ q e, q ≠ h → M q = some e → M1 q = some e
set_option maxHeartbeats 4000000 in
set_option maxRecDepth 100000 in
/-- Holding() -/
theorem c_hinit (l : Launch) (K : gw_C) (M : gw_M) (h : Nat) (hh : M h = some (.inr (1, [.null, .null, .null, .null, .null]))) : Met l yX0_init wsX0_init ({ frames := 1, cells := 5, slots := 486, locals := 12 } : Room) (va_Pc [.ref h] (gw_I K M)) (va_Qv (fun M1 => ∃ ad : Nat → Nat, hd K M1 h ad hV0 ∧ kfr M M1 h ∧ ∀ i, i < 5 → M (ad i) = none) (gw_I K) (gw_A K)) 5 486 (gw_A K) := by
  refine Met.ofW (cc := cX0_init) (maxL := 1) (ret := none) (by decide) rfl ?_
  intro p e s m args below meth c s₁ B hml hv
  obtain ⟨hav, hI⟩ := hv
  have hx := B.exec
  have hb := B.bytes
  have hr := B.returns
  have hts := atoms_spec (ws := wsX0_init) B.pre
  have hown : s.vm.findClass RX0 = some m.cls := findClass_of_methodNamed B.named
  have hlocks : meth.locks = false := B.notSynchronized
  have hT := hI.2.2
  have hK := hT.K
  have hG := hI.B
  have hf9 := hts (.fieldLink RX0 9 "DotGossip$Holding" "seen" "[I") (by decide +kernel)
  have hf15 := hts (.fieldLink RX0 15 "DotGossip$Holding" "numbers" "[I") (by decide +kernel)
  have hf18 := hts (.fieldLink RX0 18 "DotGossip$Holding" "written" "[I") (by decide +kernel)
  have hf21 := hts (.fieldLink RX0 21 "DotGossip$Holding" "added" "[J") (by decide +kernel)
  have hf25 := hts (.fieldLink RX0 25 "DotGossip$Holding" "taken" "[J") (by decide +kernel)
  have hinX0 : ∀ w ∈ wsX00, w ∈ wsX0_init := by decide +kernel
  have hE : entryFrame m args 1 = entryFrame m ([.ref h] : List Value).toArray 1 := by rw [hav]
  rw [hE]
  have hl := lv_entry ([.ref h]) (n := 1) (Nat.le_of_ble_eq_true rfl)
  rw [lg_entry_eq]
  generalize (lg_sl ([.ref h]) ++ List.replicate (1 - (lg_sl ([.ref h])).length) Slot.unset).toArray = ls at hl ⊢
  have hl : lv_has ls 1 [(0, .ref h)] := hl
  have hini : meth.name = "<init>" := (name_of_methodNamed B.named B.method).1
  refine lv_aload_n hx hb dX0_init_0 rfl (lv_at hl 0 rfl) ?_
  refine W.objInit hx hb hown (hts (.methodLink RX0 3 objectInit) (by decide +kernel)) (hts (.instanceMethod objectInit) (by decide +kernel)) (hts (.code objectInit ⟨#[0xb1]⟩ 1 none) (by decide +kernel)) rfl (by rw [hml]; exact hl.1) rfl dX0_init_1 (Nat.le_of_ble_eq_true rfl) (Nat.le_of_ble_eq_true rfl) ?_
  refine W.eq (g2 := F0 m 4 ls []) rfl ?_
  refine lv_aload_n hx hb dX0_init_4 rfl (lv_at hl 0 rfl) ?_
  refine lv_bipush (v := nI 6) hx hb dX0_init_5 (by decide) ?_
  refine gw_newa (atype := .int) (ty := .int) (a0 := (6, .inl (fun _ => 0))) (n := nI 6) (N' := 6) hx hb (hts (.arrayClass .int) (by decide +kernel)) rfl hK hG 0 rfl (fun _ => rfl) (by decide) (by decide) (by decide) (Nat.le_of_ble_eq_true rfl) (Nat.le_of_ble_eq_true rfl) dX0_init_7 (fun q_48 H hq_49 hG => ?_)
  obtain ⟨M_50, hM_51⟩ : ∃ M1 : gw_M, M1 = gw_up M q_48 (.inl (K.2.1 0, 6, .inl (fun _ => 0))) := ⟨_, rfl⟩
  have hG : gw_B K M_50 s.heap H [] := by rw [hM_51]; exact hG
  have hne_53 : h ≠ q_48 := gw_ne hq_49 hh
  have hc_52 := (congrFun hM_51 h).trans (gw_k hne_53 hh)
  have hc_54 : M_50 q_48 = some (.inl (K.2.1 0, 6, .inl (fun _ => 0))) := (congrFun hM_51 _).trans gw_s
  refine gw_putF (ci := 1) (v := .ref q_48) (ty := .array .int) (C := RX0) (T := TX0) (N := 5) hx hb hts hinX0 tyX0 tyX0_ok nmX0 hown hK hG hc_52 rfl 0 (by decide) hf9 (fun _ h9 => h9) rfl hini rfl (by decide +kernel) rfl rfl (Nat.le_of_ble_eq_true rfl) dX0_init_9 (fun H locs hG => ?_)
  obtain ⟨M_55, hM_56⟩ : ∃ M1 : gw_M, M1 = gw_up M_50 h (.inr (1, [.ref q_48, .null, .null, .null, .null])) := ⟨_, rfl⟩
  have hG : gw_B K M_55 s.heap H locs := by rw [hM_56]; exact hG
  have hc_57 : M_55 h = some (.inr (1, [.ref q_48, .null, .null, .null, .null])) := (congrFun hM_56 _).trans gw_s
  have hc_58 := (congrFun hM_56 q_48).trans (gw_k (Ne.symm hne_53) hc_54)
  refine lv_aload_n hx hb dX0_init_12 rfl (lv_at hl 0 rfl) ?_
  refine lv_sipush (v := nI 408) hx hb dX0_init_13 (by decide) ?_
  refine gw_newa (atype := .int) (ty := .int) (a0 := (408, .inl (fun _ => 0))) (n := nI 408) (N' := 408) hx hb (hts (.arrayClass .int) (by decide +kernel)) rfl hK hG 0 rfl (fun _ => rfl) (by decide) (by decide) (by decide) (Nat.le_of_ble_eq_true rfl) (Nat.le_of_ble_eq_true rfl) dX0_init_16 (fun q_59 H hq_60 hG => ?_)
  obtain ⟨M_61, hM_62⟩ : ∃ M1 : gw_M, M1 = gw_up M_55 q_59 (.inl (K.2.1 0, 408, .inl (fun _ => 0))) := ⟨_, rfl⟩
  have hG : gw_B K M_61 s.heap H locs := by rw [hM_62]; exact hG
  have hne_64 : h ≠ q_59 := gw_ne hq_60 hc_57
  have hc_63 := (congrFun hM_62 h).trans (gw_k hne_64 hc_57)
  have hne_66 : q_48 ≠ q_59 := gw_ne hq_60 hc_58
  have hc_65 := (congrFun hM_62 q_48).trans (gw_k hne_66 hc_58)
  have hc_67 : M_61 q_59 = some (.inl (K.2.1 0, 408, .inl (fun _ => 0))) := (congrFun hM_62 _).trans gw_s
  refine gw_putF (ci := 1) (v := .ref q_59) (ty := .array .int) (C := RX0) (T := TX0) (N := 5) hx hb hts hinX0 tyX0 tyX0_ok nmX0 hown hK hG hc_63 rfl 1 (by decide) hf15 (fun _ h9 => h9) rfl hini rfl (by decide +kernel) rfl rfl (Nat.le_of_ble_eq_true rfl) dX0_init_18 (fun H locs hG => ?_)
  obtain ⟨M_68, hM_69⟩ : ∃ M1 : gw_M, M1 = gw_up M_61 h (.inr (1, [.ref q_48, .ref q_59, .null, .null, .null])) := ⟨_, rfl⟩
  have hG : gw_B K M_68 s.heap H locs := by rw [hM_69]; exact hG
  have hc_70 : M_68 h = some (.inr (1, [.ref q_48, .ref q_59, .null, .null, .null])) := (congrFun hM_69 _).trans gw_s
  have hc_71 := (congrFun hM_69 q_48).trans (gw_k (Ne.symm hne_53) hc_65)
  have hc_72 := (congrFun hM_69 q_59).trans (gw_k (Ne.symm hne_64) hc_67)
  refine lv_aload_n hx hb dX0_init_21 rfl (lv_at hl 0 rfl) ?_
  refine lv_bipush (v := nI 24) hx hb dX0_init_22 (by decide) ?_
  refine gw_newa (atype := .int) (ty := .int) (a0 := (24, .inl (fun _ => 0))) (n := nI 24) (N' := 24) hx hb (hts (.arrayClass .int) (by decide +kernel)) rfl hK hG 0 rfl (fun _ => rfl) (by decide) (by decide) (by decide) (Nat.le_of_ble_eq_true rfl) (Nat.le_of_ble_eq_true rfl) dX0_init_24 (fun q_73 H hq_74 hG => ?_)
  obtain ⟨M_75, hM_76⟩ : ∃ M1 : gw_M, M1 = gw_up M_68 q_73 (.inl (K.2.1 0, 24, .inl (fun _ => 0))) := ⟨_, rfl⟩
  have hG : gw_B K M_75 s.heap H locs := by rw [hM_76]; exact hG
  have hne_78 : h ≠ q_73 := gw_ne hq_74 hc_70
  have hc_77 := (congrFun hM_76 h).trans (gw_k hne_78 hc_70)
  have hne_80 : q_48 ≠ q_73 := gw_ne hq_74 hc_71
  have hc_79 := (congrFun hM_76 q_48).trans (gw_k hne_80 hc_71)
  have hne_82 : q_59 ≠ q_73 := gw_ne hq_74 hc_72
  have hc_81 := (congrFun hM_76 q_59).trans (gw_k hne_82 hc_72)
  have hc_83 : M_75 q_73 = some (.inl (K.2.1 0, 24, .inl (fun _ => 0))) := (congrFun hM_76 _).trans gw_s
  refine gw_putF (ci := 1) (v := .ref q_73) (ty := .array .int) (C := RX0) (T := TX0) (N := 5) hx hb hts hinX0 tyX0 tyX0_ok nmX0 hown hK hG hc_77 rfl 2 (by decide) hf18 (fun _ h9 => h9) rfl hini rfl (by decide +kernel) rfl rfl (Nat.le_of_ble_eq_true rfl) dX0_init_26 (fun H locs hG => ?_)
  obtain ⟨M_84, hM_85⟩ : ∃ M1 : gw_M, M1 = gw_up M_75 h (.inr (1, [.ref q_48, .ref q_59, .ref q_73, .null, .null])) := ⟨_, rfl⟩
  have hG : gw_B K M_84 s.heap H locs := by rw [hM_85]; exact hG
  have hc_86 : M_84 h = some (.inr (1, [.ref q_48, .ref q_59, .ref q_73, .null, .null])) := (congrFun hM_85 _).trans gw_s
  have hc_87 := (congrFun hM_85 q_48).trans (gw_k (Ne.symm hne_53) hc_79)
  have hc_88 := (congrFun hM_85 q_59).trans (gw_k (Ne.symm hne_64) hc_81)
  have hc_89 := (congrFun hM_85 q_73).trans (gw_k (Ne.symm hne_78) hc_83)
  refine lv_aload_n hx hb dX0_init_29 rfl (lv_at hl 0 rfl) ?_
  refine lv_bipush (v := nI 24) hx hb dX0_init_30 (by decide) ?_
  refine gw_newa (atype := .long) (ty := .long) (a0 := (24, .inr (.inl (fun _ => 0)))) (n := nI 24) (N' := 24) hx hb (hts (.arrayClass .long) (by decide +kernel)) rfl hK hG 1 rfl (fun _ => rfl) (by decide) (by decide) (by decide) (Nat.le_of_ble_eq_true rfl) (Nat.le_of_ble_eq_true rfl) dX0_init_32 (fun q_90 H hq_91 hG => ?_)
  obtain ⟨M_92, hM_93⟩ : ∃ M1 : gw_M, M1 = gw_up M_84 q_90 (.inl (K.2.1 1, 24, .inr (.inl (fun _ => 0)))) := ⟨_, rfl⟩
  have hG : gw_B K M_92 s.heap H locs := by rw [hM_93]; exact hG
  have hne_95 : h ≠ q_90 := gw_ne hq_91 hc_86
  have hc_94 := (congrFun hM_93 h).trans (gw_k hne_95 hc_86)
  have hne_97 : q_48 ≠ q_90 := gw_ne hq_91 hc_87
  have hc_96 := (congrFun hM_93 q_48).trans (gw_k hne_97 hc_87)
  have hne_99 : q_59 ≠ q_90 := gw_ne hq_91 hc_88
  have hc_98 := (congrFun hM_93 q_59).trans (gw_k hne_99 hc_88)
  have hne_101 : q_73 ≠ q_90 := gw_ne hq_91 hc_89
  have hc_100 := (congrFun hM_93 q_73).trans (gw_k hne_101 hc_89)
  have hc_102 : M_92 q_90 = some (.inl (K.2.1 1, 24, .inr (.inl (fun _ => 0)))) := (congrFun hM_93 _).trans gw_s
  refine gw_putF (ci := 1) (v := .ref q_90) (ty := .array .long) (C := RX0) (T := TX0) (N := 5) hx hb hts hinX0 tyX0 tyX0_ok nmX0 hown hK hG hc_94 rfl 3 (by decide) hf21 (fun _ h9 => h9) rfl hini rfl (by decide +kernel) rfl rfl (Nat.le_of_ble_eq_true rfl) dX0_init_34 (fun H locs hG => ?_)
  obtain ⟨M_103, hM_104⟩ : ∃ M1 : gw_M, M1 = gw_up M_92 h (.inr (1, [.ref q_48, .ref q_59, .ref q_73, .ref q_90, .null])) := ⟨_, rfl⟩
  have hG : gw_B K M_103 s.heap H locs := by rw [hM_104]; exact hG
  have hc_105 : M_103 h = some (.inr (1, [.ref q_48, .ref q_59, .ref q_73, .ref q_90, .null])) := (congrFun hM_104 _).trans gw_s
  have hc_106 := (congrFun hM_104 q_48).trans (gw_k (Ne.symm hne_53) hc_96)
  have hc_107 := (congrFun hM_104 q_59).trans (gw_k (Ne.symm hne_64) hc_98)
  have hc_108 := (congrFun hM_104 q_73).trans (gw_k (Ne.symm hne_78) hc_100)
  have hc_109 := (congrFun hM_104 q_90).trans (gw_k (Ne.symm hne_95) hc_102)
  refine lv_aload_n hx hb dX0_init_37 rfl (lv_at hl 0 rfl) ?_
  refine lv_bipush (v := nI 24) hx hb dX0_init_38 (by decide) ?_
  refine gw_newa (atype := .long) (ty := .long) (a0 := (24, .inr (.inl (fun _ => 0)))) (n := nI 24) (N' := 24) hx hb (hts (.arrayClass .long) (by decide +kernel)) rfl hK hG 1 rfl (fun _ => rfl) (by decide) (by decide) (by decide) (Nat.le_of_ble_eq_true rfl) (Nat.le_of_ble_eq_true rfl) dX0_init_40 (fun q_110 H hq_111 hG => ?_)
  obtain ⟨M_112, hM_113⟩ : ∃ M1 : gw_M, M1 = gw_up M_103 q_110 (.inl (K.2.1 1, 24, .inr (.inl (fun _ => 0)))) := ⟨_, rfl⟩
  have hG : gw_B K M_112 s.heap H locs := by rw [hM_113]; exact hG
  have hne_115 : h ≠ q_110 := gw_ne hq_111 hc_105
  have hc_114 := (congrFun hM_113 h).trans (gw_k hne_115 hc_105)
  have hne_117 : q_48 ≠ q_110 := gw_ne hq_111 hc_106
  have hc_116 := (congrFun hM_113 q_48).trans (gw_k hne_117 hc_106)
  have hne_119 : q_59 ≠ q_110 := gw_ne hq_111 hc_107
  have hc_118 := (congrFun hM_113 q_59).trans (gw_k hne_119 hc_107)
  have hne_121 : q_73 ≠ q_110 := gw_ne hq_111 hc_108
  have hc_120 := (congrFun hM_113 q_73).trans (gw_k hne_121 hc_108)
  have hne_123 : q_90 ≠ q_110 := gw_ne hq_111 hc_109
  have hc_122 := (congrFun hM_113 q_90).trans (gw_k hne_123 hc_109)
  have hc_124 : M_112 q_110 = some (.inl (K.2.1 1, 24, .inr (.inl (fun _ => 0)))) := (congrFun hM_113 _).trans gw_s
  refine gw_putF (ci := 1) (v := .ref q_110) (ty := .array .long) (C := RX0) (T := TX0) (N := 5) hx hb hts hinX0 tyX0 tyX0_ok nmX0 hown hK hG hc_114 rfl 4 (by decide) hf25 (fun _ h9 => h9) rfl hini rfl (by decide +kernel) rfl rfl (Nat.le_of_ble_eq_true rfl) dX0_init_42 (fun H locs hG => ?_)
  obtain ⟨M_125, hM_126⟩ : ∃ M1 : gw_M, M1 = gw_up M_112 h (.inr (1, [.ref q_48, .ref q_59, .ref q_73, .ref q_90, .ref q_110])) := ⟨_, rfl⟩
  have hG : gw_B K M_125 s.heap H locs := by rw [hM_126]; exact hG
  have hc_127 : M_125 h = some (.inr (1, [.ref q_48, .ref q_59, .ref q_73, .ref q_90, .ref q_110])) := (congrFun hM_126 _).trans gw_s
  have hc_128 := (congrFun hM_126 q_48).trans (gw_k (Ne.symm hne_53) hc_116)
  have hc_129 := (congrFun hM_126 q_59).trans (gw_k (Ne.symm hne_64) hc_118)
  have hc_130 := (congrFun hM_126 q_73).trans (gw_k (Ne.symm hne_78) hc_120)
  have hc_131 := (congrFun hM_126 q_90).trans (gw_k (Ne.symm hne_95) hc_122)
  have hc_132 := (congrFun hM_126 q_110).trans (gw_k (Ne.symm hne_115) hc_124)
  have hold : ∀ q e, q ≠ h → M q = some e → M_125 q = some e := by
    intro q e9 hq he
    have he := (congrFun hM_51 q).trans (gw_o hq_49 he)
    have he := (congrFun hM_56 q).trans (gw_k hq he)
    have he := (congrFun hM_62 q).trans (gw_o hq_60 he)
    have he := (congrFun hM_69 q).trans (gw_k hq he)
    have he := (congrFun hM_76 q).trans (gw_o hq_74 he)
    have he := (congrFun hM_85 q).trans (gw_k hq he)
    have he := (congrFun hM_93 q).trans (gw_o hq_91 he)
    have he := (congrFun hM_104 q).trans (gw_k hq he)
    have he := (congrFun hM_113 q).trans (gw_o hq_111 he)
    have he := (congrFun hM_126 q).trans (gw_k hq he)
    exact he
  have hz0 : M q_48 = none := by
    cases hz : M q_48 with
    | none => rfl
    | some e9 =>
      exfalso
      have he := hz
      rw [hq_49] at he
      cases he
  have hz1 : M q_59 = none := by
    cases hz : M q_59 with
    | none => rfl
    | some e9 =>
      exfalso
      have he := hz
      have he := (congrFun hM_51 q_59).trans (gw_o hq_49 he)
      have he := (congrFun hM_56 q_59).trans (gw_k (Ne.symm hne_64) he)
      rw [hq_60] at he
      cases he
  have hz2 : M q_73 = none := by
    cases hz : M q_73 with
    | none => rfl
    | some e9 =>
      exfalso
      have he := hz
      have he := (congrFun hM_51 q_73).trans (gw_o hq_49 he)
      have he := (congrFun hM_56 q_73).trans (gw_k (Ne.symm hne_78) he)
      have he := (congrFun hM_62 q_73).trans (gw_o hq_60 he)
      have he := (congrFun hM_69 q_73).trans (gw_k (Ne.symm hne_78) he)
      rw [hq_74] at he
      cases he
  have hz3 : M q_90 = none := by
    cases hz : M q_90 with
    | none => rfl
    | some e9 =>
      exfalso
      have he := hz
      have he := (congrFun hM_51 q_90).trans (gw_o hq_49 he)
      have he := (congrFun hM_56 q_90).trans (gw_k (Ne.symm hne_95) he)
      have he := (congrFun hM_62 q_90).trans (gw_o hq_60 he)
      have he := (congrFun hM_69 q_90).trans (gw_k (Ne.symm hne_95) he)
      have he := (congrFun hM_76 q_90).trans (gw_o hq_74 he)
      have he := (congrFun hM_85 q_90).trans (gw_k (Ne.symm hne_95) he)
      rw [hq_91] at he
      cases he
  have hz4 : M q_110 = none := by
    cases hz : M q_110 with
    | none => rfl
    | some e9 =>
      exfalso
      have he := hz
      have he := (congrFun hM_51 q_110).trans (gw_o hq_49 he)
      have he := (congrFun hM_56 q_110).trans (gw_k (Ne.symm hne_115) he)
      have he := (congrFun hM_62 q_110).trans (gw_o hq_60 he)
      have he := (congrFun hM_69 q_110).trans (gw_k (Ne.symm hne_115) he)
      have he := (congrFun hM_76 q_110).trans (gw_o hq_74 he)
      have he := (congrFun hM_85 q_110).trans (gw_k (Ne.symm hne_115) he)
      have he := (congrFun hM_93 q_110).trans (gw_o hq_91 he)
      have he := (congrFun hM_104 q_110).trans (gw_k (Ne.symm hne_115) he)
      rw [hq_111] at he
      cases he
  have hdd : hd K M_125 h (fun i => match i with | 0 => q_48 | 1 => q_59 | 2 => q_73 | 3 => q_90 | _ => q_110) hV0 := by
    refine ⟨hc_127, hc_128, hc_129, hc_130, hc_131, hc_132, ?_⟩
    intro i j hi hj hij
    rcases (show i = 0 ∨ i = 1 ∨ i = 2 ∨ i = 3 ∨ i = 4 by omega) with rfl | rfl | rfl | rfl | rfl <;> rcases (show j = 0 ∨ j = 1 ∨ j = 2 ∨ j = 3 ∨ j = 4 by omega) with rfl | rfl | rfl | rfl | rfl <;> first | rfl | exact absurd hij (by first | exact hne_66 | exact hne_80 | exact hne_97 | exact hne_117 | exact (Ne.symm hne_66) | exact hne_82 | exact hne_99 | exact hne_119 | exact (Ne.symm hne_80) | exact (Ne.symm hne_82) | exact hne_101 | exact hne_121 | exact (Ne.symm hne_97) | exact (Ne.symm hne_99) | exact (Ne.symm hne_101) | exact hne_123 | exact (Ne.symm hne_117) | exact (Ne.symm hne_119) | exact (Ne.symm hne_121) | exact (Ne.symm hne_123))
  exact gw_vret hx hb hr hlocks hG hT (by omega) (by omega) dX0_init_45 ⟨_, hdd, hold, fun i hi => by rcases (show i = 0 ∨ i = 1 ∨ i = 2 ∨ i = 3 ∨ i = 4 by omega) with rfl | rfl | rfl | rfl | rfl <;> assumption⟩

set_option maxHeartbeats 4000000 in
set_option maxRecDepth 100000 in
/-- Message() -/
theorem c_minit (l : Launch) (K : gw_C) (M : gw_M) (h g : Nat) (fr to9 : Int32) (hh : M h = some (.inr (2, [.int 0, .int 0, .null]))) : Met l yX1_init wsX1_init ({ frames := 1, cells := 0, slots := 0, locals := 12 } : Room) (va_Pc [.ref h, .int fr, .int to9, .ref g] (gw_I K M)) (va_Qv (fun M1 => M1 = gw_up M h (.inr (2, [.int fr, .int to9, .ref g]))) (gw_I K) (gw_A K)) 0 0 (gw_A K) := by
  refine Met.ofW (cc := cX1_init) (maxL := 4) (ret := none) (by decide) rfl ?_
  intro p e s m args below meth c s₁ B hml hv
  obtain ⟨hav, hI⟩ := hv
  have hx := B.exec
  have hb := B.bytes
  have hr := B.returns
  have hts := atoms_spec (ws := wsX1_init) B.pre
  have hown : s.vm.findClass RX1 = some m.cls := findClass_of_methodNamed B.named
  have hlocks : meth.locks = false := B.notSynchronized
  have hT := hI.2.2
  have hK := hT.K
  have hG := hI.B
  have hf7 := hts (.fieldLink RX1 7 "DotGossip$Message" "from" "I") (by decide +kernel)
  have hf13 := hts (.fieldLink RX1 13 "DotGossip$Message" "to" "I") (by decide +kernel)
  have hf16 := hts (.fieldLink RX1 16 "DotGossip$Message" "sent" "LDotGossip$Holding;") (by decide +kernel)
  have hinX1 : ∀ w ∈ wsX10, w ∈ wsX1_init := by decide +kernel
  have hE : entryFrame m args 4 = entryFrame m ([.ref h, .int fr, .int to9, .ref g] : List Value).toArray 4 := by rw [hav]
  rw [hE]
  have hl := lv_entry ([.ref h, .int fr, .int to9, .ref g]) (n := 4) (Nat.le_of_ble_eq_true rfl)
  rw [lg_entry_eq]
  generalize (lg_sl ([.ref h, .int fr, .int to9, .ref g]) ++ List.replicate (4 - (lg_sl ([.ref h, .int fr, .int to9, .ref g])).length) Slot.unset).toArray = ls at hl ⊢
  have hl : lv_has ls 4 [(0, .ref h), (1, .int fr), (2, .int to9), (3, .ref g)] := hl
  have hini : meth.name = "<init>" := (name_of_methodNamed B.named B.method).1
  refine lv_aload_n hx hb dX1_init_0 rfl (lv_at hl 0 rfl) ?_
  refine W.objInit hx hb hown (hts (.methodLink RX1 1 objectInit) (by decide +kernel)) (hts (.instanceMethod objectInit) (by decide +kernel)) (hts (.code objectInit ⟨#[0xb1]⟩ 1 none) (by decide +kernel)) rfl (by rw [hml]; exact hl.1) rfl dX1_init_1 (Nat.le_of_ble_eq_true rfl) (Nat.le_of_ble_eq_true rfl) ?_
  refine W.eq (g2 := F0 m 4 ls []) rfl ?_
  refine lv_aload_n hx hb dX1_init_4 rfl (lv_at hl 0 rfl) ?_
  refine lv_iload_n hx hb dX1_init_5 rfl (lv_at hl 1 rfl) ?_
  refine gw_putF (ci := 2) (v := .int fr) (ty := .int) (C := RX1) (T := TX1) (N := 3) hx hb hts hinX1 tyX1 tyX1_ok nmX1 hown hK hG hh rfl 0 (by decide) hf7 (fun _ h9 => h9) rfl hini rfl (by decide +kernel) rfl rfl (Nat.le_of_ble_eq_true rfl) dX1_init_6 (fun H locs hG => ?_)
  obtain ⟨M_133, hM_134⟩ : ∃ M1 : gw_M, M1 = gw_up M h (.inr (2, [.int fr, .int 0, .null])) := ⟨_, rfl⟩
  have hG : gw_B K M_133 s.heap H locs := by rw [hM_134]; exact hG
  have hc_135 : M_133 h = some (.inr (2, [.int fr, .int 0, .null])) := (congrFun hM_134 _).trans gw_s
  refine lv_aload_n hx hb dX1_init_9 rfl (lv_at hl 0 rfl) ?_
  refine lv_iload_n hx hb dX1_init_10 rfl (lv_at hl 2 rfl) ?_
  refine gw_put (ci := 2) (v := .int to9) (ty := .int) (C := RX1) (T := TX1) (N := 3) hx hb hts hinX1 tyX1 tyX1_ok nmX1 hown hK hG hc_135 rfl 1 (by decide) hf13 (fun _ h9 => h9) rfl (by decide +kernel) rfl rfl (Nat.le_of_ble_eq_true rfl) dX1_init_11 (fun H locs hG => ?_)
  obtain ⟨M_136, hM_137⟩ : ∃ M1 : gw_M, M1 = gw_up M_133 h (.inr (2, [.int fr, .int to9, .null])) := ⟨_, rfl⟩
  have hG : gw_B K M_136 s.heap H locs := by rw [hM_137]; exact hG
  have hc_138 : M_136 h = some (.inr (2, [.int fr, .int to9, .null])) := (congrFun hM_137 _).trans gw_s
  refine lv_aload_n hx hb dX1_init_14 rfl (lv_at hl 0 rfl) ?_
  refine lv_aload_n hx hb dX1_init_15 rfl (lv_at hl 3 rfl) ?_
  refine gw_putF (ci := 2) (v := .ref g) (ty := .object "DotGossip$Holding") (C := RX1) (T := TX1) (N := 3) hx hb hts hinX1 tyX1 tyX1_ok nmX1 hown hK hG hc_138 rfl 2 (by decide) hf16 (fun _ h9 => h9) rfl hini rfl (by decide +kernel) rfl rfl (Nat.le_of_ble_eq_true rfl) dX1_init_16 (fun H locs hG => ?_)
  obtain ⟨M_139, hM_140⟩ : ∃ M1 : gw_M, M1 = gw_up M_136 h (.inr (2, [.int fr, .int to9, .ref g])) := ⟨_, rfl⟩
  have hG : gw_B K M_139 s.heap H locs := by rw [hM_140]; exact hG
  have hc_141 : M_139 h = some (.inr (2, [.int fr, .int to9, .ref g])) := (congrFun hM_140 _).trans gw_s
  exact gw_vret hx hb hr hlocks hG hT (by omega) (by omega) dX1_init_19 (by rw [hM_140, hM_137, hM_134, gw_uu, gw_uu])

set_option maxHeartbeats 4000000 in
set_option maxRecDepth 100000 in
/-- snapshot -/
theorem c_snapshot (l : Launch) (K : gw_C) (M : gw_M) (h : Nat) (ad : Nat → Nat) (V : hV) (hh : hd K M h ad V) : Met l yX0_snapshot wsX0_snapshot ({ frames := 2, cells := 6, slots := 491, locals := 32 } : Room) (va_Pc [.ref h] (gw_I K M)) (va_Qq (fun r M1 => ∃ (g : Nat) (ad2 : Nat → Nat), r = some g ∧ hd K M1 g ad2 (va_cpy V.1 (fun _ => 0) 0 0 6, va_cpy V.2.1 (fun _ => 0) 0 0 408, va_cpy V.2.2.1 (fun _ => 0) 0 0 24, va_cpy V.2.2.2.1 (fun _ => 0) 0 0 24, va_cpy V.2.2.2.2 (fun _ => 0) 0 0 24) ∧ M g = none ∧ (∀ i, i < 5 → M (ad2 i) = none) ∧ ∀ q e, M q = some e → M1 q = some e) (gw_I K) (gw_A K)) 6 491 (gw_A K) := by
  refine Met.ofW (cc := cX0_snapshot) (maxL := 2) (ret := (some (.object "DotGossip$Holding"))) (by decide) rfl ?_
  intro p e s m args below meth c s₁ B hml hv
  obtain ⟨hav, hI⟩ := hv
  have hx := B.exec
  have hb := B.bytes
  have hr := B.returns
  have hts := atoms_spec (ws := wsX0_snapshot) B.pre
  have hown : s.vm.findClass RX0 = some m.cls := findClass_of_methodNamed B.named
  have hlocks : meth.locks = false := B.notSynchronized
  have hT := hI.2.2
  have hK := hT.K
  have hG := hI.B
  have hf9 := hts (.fieldLink RX0 9 "DotGossip$Holding" "seen" "[I") (by decide +kernel)
  have hf15 := hts (.fieldLink RX0 15 "DotGossip$Holding" "numbers" "[I") (by decide +kernel)
  have hf18 := hts (.fieldLink RX0 18 "DotGossip$Holding" "written" "[I") (by decide +kernel)
  have hf21 := hts (.fieldLink RX0 21 "DotGossip$Holding" "added" "[J") (by decide +kernel)
  have hf25 := hts (.fieldLink RX0 25 "DotGossip$Holding" "taken" "[J") (by decide +kernel)
  have hinX0 : ∀ w ∈ wsX00, w ∈ wsX0_snapshot := by decide +kernel
  have hE : entryFrame m args 2 = entryFrame m ([.ref h] : List Value).toArray 2 := by rw [hav]
  rw [hE]
  have hl := lv_entry ([.ref h]) (n := 2) (Nat.le_of_ble_eq_true rfl)
  rw [lg_entry_eq]
  generalize (lg_sl ([.ref h]) ++ List.replicate (2 - (lg_sl ([.ref h])).length) Slot.unset).toArray = ls at hl ⊢
  have hl : lv_has ls 2 [(0, .ref h)] := hl
  obtain ⟨h_0, h_s, h_n, h_w, h_a, h_t, h_ne⟩ := id hh
  refine gw_new (ci := 1) (fs := [.null, .null, .null, .null, .null]) (C := RX0) (T := TX0) (N := 5) hx hb hts hinX0 tyX0 tyX0_ok hown (hts (.classLink RX0 10 RX0) (by decide +kernel)) (hts (.instantiable RX0 5) (by decide +kernel)) (hts (.initialized RX0) (by decide +kernel)) hK hG rfl (fun j hj => by rcases (show j = 0 ∨ j = 1 ∨ j = 2 ∨ j = 3 ∨ j = 4 by omega) with rfl | rfl | rfl | rfl | rfl <;> rfl) (Nat.le_of_ble_eq_true rfl) (Nat.le_of_ble_eq_true rfl) dX0_snapshot_0 (fun g H hgn hG => ?_)
  obtain ⟨M_142, hM_143⟩ : ∃ M1 : gw_M, M1 = gw_up M g (.inr (1, [.null, .null, .null, .null, .null])) := ⟨_, rfl⟩
  have hG : gw_B K M_142 s.heap H [] := by rw [hM_143]; exact hG
  have hne_145 : h ≠ g := gw_ne hgn h_0
  have hc_144 := (congrFun hM_143 h).trans (gw_k hne_145 h_0)
  have hne_147 : ad 0 ≠ g := gw_ne hgn h_s
  have hc_146 := (congrFun hM_143 (ad 0)).trans (gw_k hne_147 h_s)
  have hne_149 : ad 1 ≠ g := gw_ne hgn h_n
  have hc_148 := (congrFun hM_143 (ad 1)).trans (gw_k hne_149 h_n)
  have hne_151 : ad 2 ≠ g := gw_ne hgn h_w
  have hc_150 := (congrFun hM_143 (ad 2)).trans (gw_k hne_151 h_w)
  have hne_153 : ad 3 ≠ g := gw_ne hgn h_a
  have hc_152 := (congrFun hM_143 (ad 3)).trans (gw_k hne_153 h_a)
  have hne_155 : ad 4 ≠ g := gw_ne hgn h_t
  have hc_154 := (congrFun hM_143 (ad 4)).trans (gw_k hne_155 h_t)
  have hc_156 : M_142 g = some (.inr (1, [.null, .null, .null, .null, .null])) := (congrFun hM_143 _).trans gw_s
  refine lv_dup hx hb dX0_snapshot_3 rfl ?_
  refine gw_callv (va_runI (As := []) (rest := [.ref g]) ⟨hx, hb, hml, hown, hts⟩ (c_hinit l K M_142 g hc_156) (cwI 0 hts gX0_snapshot_X0_init rfl rfl rfl (hts (.initialized RX0) (by decide +kernel)) (hts (.methodLink RX0 37 yX0_init) (by decide +kernel)) (hts (.instanceMethod yX0_init) (by decide +kernel)) rfl (by decide +kernel) ⟨Nat.le_of_ble_eq_true rfl, Nat.le_of_ble_eq_true rfl⟩) (gw_preS hG hT) rfl rfl hl.1 rfl (lv_room (Nat.le_of_ble_eq_true rfl)) dX0_snapshot_4 ⟨Nat.le_of_ble_eq_true rfl, Nat.le_of_ble_eq_true rfl⟩) hG (fun M_158 H locs hw hG => ?_)
  obtain ⟨ad2, hd2, hk2, hf2⟩ := hw
  have hc_159 := hk2 h _ hne_145 hc_144
  have hc_160 := hk2 (ad 0) _ hne_147 hc_146
  have hc_161 := hk2 (ad 1) _ hne_149 hc_148
  have hc_162 := hk2 (ad 2) _ hne_151 hc_150
  have hc_163 := hk2 (ad 3) _ hne_153 hc_152
  have hc_164 := hk2 (ad 4) _ hne_155 hc_154
  obtain ⟨y_0, y_s, y_n, y_w, y_a, y_t, y_ne⟩ := id hd2
  have hne_165 : h ≠ ad2 0 := gw_ne (M := M_142) (hf2 0 (by decide)) ((congrFun hM_143 h).trans (gw_o hgn h_0))
  have hne_166 : ad 0 ≠ ad2 0 := gw_ne (M := M_142) (hf2 0 (by decide)) ((congrFun hM_143 (ad 0)).trans (gw_o hgn h_s))
  have hne_167 : ad 1 ≠ ad2 0 := gw_ne (M := M_142) (hf2 0 (by decide)) ((congrFun hM_143 (ad 1)).trans (gw_o hgn h_n))
  have hne_168 : ad 2 ≠ ad2 0 := gw_ne (M := M_142) (hf2 0 (by decide)) ((congrFun hM_143 (ad 2)).trans (gw_o hgn h_w))
  have hne_169 : ad 3 ≠ ad2 0 := gw_ne (M := M_142) (hf2 0 (by decide)) ((congrFun hM_143 (ad 3)).trans (gw_o hgn h_a))
  have hne_170 : ad 4 ≠ ad2 0 := gw_ne (M := M_142) (hf2 0 (by decide)) ((congrFun hM_143 (ad 4)).trans (gw_o hgn h_t))
  have hne_171 : h ≠ ad2 1 := gw_ne (M := M_142) (hf2 1 (by decide)) ((congrFun hM_143 h).trans (gw_o hgn h_0))
  have hne_172 : ad 0 ≠ ad2 1 := gw_ne (M := M_142) (hf2 1 (by decide)) ((congrFun hM_143 (ad 0)).trans (gw_o hgn h_s))
  have hne_173 : ad 1 ≠ ad2 1 := gw_ne (M := M_142) (hf2 1 (by decide)) ((congrFun hM_143 (ad 1)).trans (gw_o hgn h_n))
  have hne_174 : ad 2 ≠ ad2 1 := gw_ne (M := M_142) (hf2 1 (by decide)) ((congrFun hM_143 (ad 2)).trans (gw_o hgn h_w))
  have hne_175 : ad 3 ≠ ad2 1 := gw_ne (M := M_142) (hf2 1 (by decide)) ((congrFun hM_143 (ad 3)).trans (gw_o hgn h_a))
  have hne_176 : ad 4 ≠ ad2 1 := gw_ne (M := M_142) (hf2 1 (by decide)) ((congrFun hM_143 (ad 4)).trans (gw_o hgn h_t))
  have hne_177 : h ≠ ad2 2 := gw_ne (M := M_142) (hf2 2 (by decide)) ((congrFun hM_143 h).trans (gw_o hgn h_0))
  have hne_178 : ad 0 ≠ ad2 2 := gw_ne (M := M_142) (hf2 2 (by decide)) ((congrFun hM_143 (ad 0)).trans (gw_o hgn h_s))
  have hne_179 : ad 1 ≠ ad2 2 := gw_ne (M := M_142) (hf2 2 (by decide)) ((congrFun hM_143 (ad 1)).trans (gw_o hgn h_n))
  have hne_180 : ad 2 ≠ ad2 2 := gw_ne (M := M_142) (hf2 2 (by decide)) ((congrFun hM_143 (ad 2)).trans (gw_o hgn h_w))
  have hne_181 : ad 3 ≠ ad2 2 := gw_ne (M := M_142) (hf2 2 (by decide)) ((congrFun hM_143 (ad 3)).trans (gw_o hgn h_a))
  have hne_182 : ad 4 ≠ ad2 2 := gw_ne (M := M_142) (hf2 2 (by decide)) ((congrFun hM_143 (ad 4)).trans (gw_o hgn h_t))
  have hne_183 : h ≠ ad2 3 := gw_ne (M := M_142) (hf2 3 (by decide)) ((congrFun hM_143 h).trans (gw_o hgn h_0))
  have hne_184 : ad 0 ≠ ad2 3 := gw_ne (M := M_142) (hf2 3 (by decide)) ((congrFun hM_143 (ad 0)).trans (gw_o hgn h_s))
  have hne_185 : ad 1 ≠ ad2 3 := gw_ne (M := M_142) (hf2 3 (by decide)) ((congrFun hM_143 (ad 1)).trans (gw_o hgn h_n))
  have hne_186 : ad 2 ≠ ad2 3 := gw_ne (M := M_142) (hf2 3 (by decide)) ((congrFun hM_143 (ad 2)).trans (gw_o hgn h_w))
  have hne_187 : ad 3 ≠ ad2 3 := gw_ne (M := M_142) (hf2 3 (by decide)) ((congrFun hM_143 (ad 3)).trans (gw_o hgn h_a))
  have hne_188 : ad 4 ≠ ad2 3 := gw_ne (M := M_142) (hf2 3 (by decide)) ((congrFun hM_143 (ad 4)).trans (gw_o hgn h_t))
  have hne_189 : h ≠ ad2 4 := gw_ne (M := M_142) (hf2 4 (by decide)) ((congrFun hM_143 h).trans (gw_o hgn h_0))
  have hne_190 : ad 0 ≠ ad2 4 := gw_ne (M := M_142) (hf2 4 (by decide)) ((congrFun hM_143 (ad 0)).trans (gw_o hgn h_s))
  have hne_191 : ad 1 ≠ ad2 4 := gw_ne (M := M_142) (hf2 4 (by decide)) ((congrFun hM_143 (ad 1)).trans (gw_o hgn h_n))
  have hne_192 : ad 2 ≠ ad2 4 := gw_ne (M := M_142) (hf2 4 (by decide)) ((congrFun hM_143 (ad 2)).trans (gw_o hgn h_w))
  have hne_193 : ad 3 ≠ ad2 4 := gw_ne (M := M_142) (hf2 4 (by decide)) ((congrFun hM_143 (ad 3)).trans (gw_o hgn h_a))
  have hne_194 : ad 4 ≠ ad2 4 := gw_ne (M := M_142) (hf2 4 (by decide)) ((congrFun hM_143 (ad 4)).trans (gw_o hgn h_t))
  have hne_195 : g ≠ ad2 0 := (gw_io y_0 y_s)
  have hne_196 : g ≠ ad2 1 := (gw_io y_0 y_n)
  have hne_197 : g ≠ ad2 2 := (gw_io y_0 y_w)
  have hne_198 : g ≠ ad2 3 := (gw_io y_0 y_a)
  have hne_199 : g ≠ ad2 4 := (gw_io y_0 y_t)
  have hne_200 : ad2 0 ≠ ad2 1 := (fun z => absurd (y_ne 0 1 (by decide) (by decide) z) (by decide))
  have hne_201 : ad2 0 ≠ ad2 2 := (fun z => absurd (y_ne 0 2 (by decide) (by decide) z) (by decide))
  have hne_202 : ad2 0 ≠ ad2 3 := (fun z => absurd (y_ne 0 3 (by decide) (by decide) z) (by decide))
  have hne_203 : ad2 0 ≠ ad2 4 := (fun z => absurd (y_ne 0 4 (by decide) (by decide) z) (by decide))
  have hne_204 : ad2 1 ≠ ad2 0 := (fun z => absurd (y_ne 1 0 (by decide) (by decide) z) (by decide))
  have hne_205 : ad2 1 ≠ ad2 2 := (fun z => absurd (y_ne 1 2 (by decide) (by decide) z) (by decide))
  have hne_206 : ad2 1 ≠ ad2 3 := (fun z => absurd (y_ne 1 3 (by decide) (by decide) z) (by decide))
  have hne_207 : ad2 1 ≠ ad2 4 := (fun z => absurd (y_ne 1 4 (by decide) (by decide) z) (by decide))
  have hne_208 : ad2 2 ≠ ad2 0 := (fun z => absurd (y_ne 2 0 (by decide) (by decide) z) (by decide))
  have hne_209 : ad2 2 ≠ ad2 1 := (fun z => absurd (y_ne 2 1 (by decide) (by decide) z) (by decide))
  have hne_210 : ad2 2 ≠ ad2 3 := (fun z => absurd (y_ne 2 3 (by decide) (by decide) z) (by decide))
  have hne_211 : ad2 2 ≠ ad2 4 := (fun z => absurd (y_ne 2 4 (by decide) (by decide) z) (by decide))
  have hne_212 : ad2 3 ≠ ad2 0 := (fun z => absurd (y_ne 3 0 (by decide) (by decide) z) (by decide))
  have hne_213 : ad2 3 ≠ ad2 1 := (fun z => absurd (y_ne 3 1 (by decide) (by decide) z) (by decide))
  have hne_214 : ad2 3 ≠ ad2 2 := (fun z => absurd (y_ne 3 2 (by decide) (by decide) z) (by decide))
  have hne_215 : ad2 3 ≠ ad2 4 := (fun z => absurd (y_ne 3 4 (by decide) (by decide) z) (by decide))
  have hne_216 : ad2 4 ≠ ad2 0 := (fun z => absurd (y_ne 4 0 (by decide) (by decide) z) (by decide))
  have hne_217 : ad2 4 ≠ ad2 1 := (fun z => absurd (y_ne 4 1 (by decide) (by decide) z) (by decide))
  have hne_218 : ad2 4 ≠ ad2 2 := (fun z => absurd (y_ne 4 2 (by decide) (by decide) z) (by decide))
  have hne_219 : ad2 4 ≠ ad2 3 := (fun z => absurd (y_ne 4 3 (by decide) (by decide) z) (by decide))
  refine lv_astore_n (lv' := [(1, .ref g), (0, .ref h)]) hx hb dX0_snapshot_7 rfl hl (by decide) rfl (fun ls hl => ?_)
  refine lv_aload_n hx hb dX0_snapshot_8 rfl (lv_at hl 1 rfl) ?_
  refine gw_get (ci := 1) (C := RX0) (T := TX0) (N := 5) hx hb hts hinX0 hown hK hG hc_159 rfl 0 (by decide) hf9 (fun _ h9 => h9) rfl dX0_snapshot_9 ?_
  refine lv_iconst (v := nI 0) hx hb dX0_snapshot_12 (by decide) ?_
  refine lv_aload_n hx hb dX0_snapshot_13 rfl (lv_at hl 0 rfl) ?_
  refine gw_get (ci := 1) (C := RX0) (T := TX0) (N := 5) hx hb hts hinX0 hown hK hG y_0 rfl 0 (by decide) hf9 (fun _ h9 => h9) rfl dX0_snapshot_14 ?_
  refine lv_iconst (v := nI 0) hx hb dX0_snapshot_17 (by decide) ?_
  refine lv_aload_n hx hb dX0_snapshot_18 rfl (lv_at hl 1 rfl) ?_
  refine gw_get (ci := 1) (C := RX0) (T := TX0) (N := 5) hx hb hts hinX0 hown hK hG hc_159 rfl 0 (by decide) hf9 (fun _ h9 => h9) rfl dX0_snapshot_19 ?_
  refine gw_alen hx hb hK hG hc_160 0 rfl (v := nI 6) rfl dX0_snapshot_22 ?_
  refine gw_copyi (nn := 6) hx hb (hml.trans hl.1.symm) hown (hts (.methodLink RX0 38 arraycopyName) (by decide +kernel)) (hts (.native arraycopyName) (by decide +kernel)) (hts (.static arraycopyName) (by decide +kernel)) (hts (.initialized "java/lang/System") (by decide +kernel)) hK hG hc_160 y_s 0 rfl (by decide) (by decide) (by decide) (Nat.le_of_ble_eq_true rfl) (Nat.le_of_ble_eq_true rfl) dX0_snapshot_23 (fun H locs hG => ?_)
  obtain ⟨M_220, hM_221⟩ : ∃ M1 : gw_M, M1 = gw_up M_158 (ad2 0) (.inl (K.2.1 0, 6, .inl (va_cpy V.1 (fun _ => 0) 0 0 6))) := ⟨_, rfl⟩
  have hG : gw_B K M_220 s.heap H locs := by rw [hM_221]; exact hG
  have hc_222 := (congrFun hM_221 h).trans (gw_k hne_165 hc_159)
  have hc_223 := (congrFun hM_221 (ad 0)).trans (gw_k hne_166 hc_160)
  have hc_224 := (congrFun hM_221 (ad 1)).trans (gw_k hne_167 hc_161)
  have hc_225 := (congrFun hM_221 (ad 2)).trans (gw_k hne_168 hc_162)
  have hc_226 := (congrFun hM_221 (ad 3)).trans (gw_k hne_169 hc_163)
  have hc_227 := (congrFun hM_221 (ad 4)).trans (gw_k hne_170 hc_164)
  have hc_228 := (congrFun hM_221 g).trans (gw_k hne_195 y_0)
  have hc_229 : M_220 (ad2 0) = some (.inl (K.2.1 0, 6, .inl (va_cpy V.1 (fun _ => 0) 0 0 6))) := (congrFun hM_221 _).trans gw_s
  have hc_230 := (congrFun hM_221 (ad2 1)).trans (gw_k hne_204 y_n)
  have hc_231 := (congrFun hM_221 (ad2 2)).trans (gw_k hne_208 y_w)
  have hc_232 := (congrFun hM_221 (ad2 3)).trans (gw_k hne_212 y_a)
  have hc_233 := (congrFun hM_221 (ad2 4)).trans (gw_k hne_216 y_t)
  refine lv_aload_n hx hb dX0_snapshot_26 rfl (lv_at hl 1 rfl) ?_
  refine gw_get (ci := 1) (C := RX0) (T := TX0) (N := 5) hx hb hts hinX0 hown hK hG hc_222 rfl 1 (by decide) hf15 (fun _ h9 => h9) rfl dX0_snapshot_27 ?_
  refine lv_iconst (v := nI 0) hx hb dX0_snapshot_30 (by decide) ?_
  refine lv_aload_n hx hb dX0_snapshot_31 rfl (lv_at hl 0 rfl) ?_
  refine gw_get (ci := 1) (C := RX0) (T := TX0) (N := 5) hx hb hts hinX0 hown hK hG hc_228 rfl 1 (by decide) hf15 (fun _ h9 => h9) rfl dX0_snapshot_32 ?_
  refine lv_iconst (v := nI 0) hx hb dX0_snapshot_35 (by decide) ?_
  refine lv_aload_n hx hb dX0_snapshot_36 rfl (lv_at hl 1 rfl) ?_
  refine gw_get (ci := 1) (C := RX0) (T := TX0) (N := 5) hx hb hts hinX0 hown hK hG hc_222 rfl 1 (by decide) hf15 (fun _ h9 => h9) rfl dX0_snapshot_37 ?_
  refine gw_alen hx hb hK hG hc_224 0 rfl (v := nI 408) rfl dX0_snapshot_40 ?_
  refine gw_copyi (nn := 408) hx hb (hml.trans hl.1.symm) hown (hts (.methodLink RX0 38 arraycopyName) (by decide +kernel)) (hts (.native arraycopyName) (by decide +kernel)) (hts (.static arraycopyName) (by decide +kernel)) (hts (.initialized "java/lang/System") (by decide +kernel)) hK hG hc_224 hc_230 0 rfl (by decide) (by decide) (by decide) (Nat.le_of_ble_eq_true rfl) (Nat.le_of_ble_eq_true rfl) dX0_snapshot_41 (fun H locs hG => ?_)
  obtain ⟨M_234, hM_235⟩ : ∃ M1 : gw_M, M1 = gw_up M_220 (ad2 1) (.inl (K.2.1 0, 408, .inl (va_cpy V.2.1 (fun _ => 0) 0 0 408))) := ⟨_, rfl⟩
  have hG : gw_B K M_234 s.heap H locs := by rw [hM_235]; exact hG
  have hc_236 := (congrFun hM_235 h).trans (gw_k hne_171 hc_222)
  have hc_237 := (congrFun hM_235 (ad 0)).trans (gw_k hne_172 hc_223)
  have hc_238 := (congrFun hM_235 (ad 1)).trans (gw_k hne_173 hc_224)
  have hc_239 := (congrFun hM_235 (ad 2)).trans (gw_k hne_174 hc_225)
  have hc_240 := (congrFun hM_235 (ad 3)).trans (gw_k hne_175 hc_226)
  have hc_241 := (congrFun hM_235 (ad 4)).trans (gw_k hne_176 hc_227)
  have hc_242 := (congrFun hM_235 g).trans (gw_k hne_196 hc_228)
  have hc_243 := (congrFun hM_235 (ad2 0)).trans (gw_k hne_200 hc_229)
  have hc_244 : M_234 (ad2 1) = some (.inl (K.2.1 0, 408, .inl (va_cpy V.2.1 (fun _ => 0) 0 0 408))) := (congrFun hM_235 _).trans gw_s
  have hc_245 := (congrFun hM_235 (ad2 2)).trans (gw_k hne_209 hc_231)
  have hc_246 := (congrFun hM_235 (ad2 3)).trans (gw_k hne_213 hc_232)
  have hc_247 := (congrFun hM_235 (ad2 4)).trans (gw_k hne_217 hc_233)
  refine lv_aload_n hx hb dX0_snapshot_44 rfl (lv_at hl 1 rfl) ?_
  refine gw_get (ci := 1) (C := RX0) (T := TX0) (N := 5) hx hb hts hinX0 hown hK hG hc_236 rfl 2 (by decide) hf18 (fun _ h9 => h9) rfl dX0_snapshot_45 ?_
  refine lv_iconst (v := nI 0) hx hb dX0_snapshot_48 (by decide) ?_
  refine lv_aload_n hx hb dX0_snapshot_49 rfl (lv_at hl 0 rfl) ?_
  refine gw_get (ci := 1) (C := RX0) (T := TX0) (N := 5) hx hb hts hinX0 hown hK hG hc_242 rfl 2 (by decide) hf18 (fun _ h9 => h9) rfl dX0_snapshot_50 ?_
  refine lv_iconst (v := nI 0) hx hb dX0_snapshot_53 (by decide) ?_
  refine lv_aload_n hx hb dX0_snapshot_54 rfl (lv_at hl 1 rfl) ?_
  refine gw_get (ci := 1) (C := RX0) (T := TX0) (N := 5) hx hb hts hinX0 hown hK hG hc_236 rfl 2 (by decide) hf18 (fun _ h9 => h9) rfl dX0_snapshot_55 ?_
  refine gw_alen hx hb hK hG hc_239 0 rfl (v := nI 24) rfl dX0_snapshot_58 ?_
  refine gw_copyi (nn := 24) hx hb (hml.trans hl.1.symm) hown (hts (.methodLink RX0 38 arraycopyName) (by decide +kernel)) (hts (.native arraycopyName) (by decide +kernel)) (hts (.static arraycopyName) (by decide +kernel)) (hts (.initialized "java/lang/System") (by decide +kernel)) hK hG hc_239 hc_245 0 rfl (by decide) (by decide) (by decide) (Nat.le_of_ble_eq_true rfl) (Nat.le_of_ble_eq_true rfl) dX0_snapshot_59 (fun H locs hG => ?_)
  obtain ⟨M_248, hM_249⟩ : ∃ M1 : gw_M, M1 = gw_up M_234 (ad2 2) (.inl (K.2.1 0, 24, .inl (va_cpy V.2.2.1 (fun _ => 0) 0 0 24))) := ⟨_, rfl⟩
  have hG : gw_B K M_248 s.heap H locs := by rw [hM_249]; exact hG
  have hc_250 := (congrFun hM_249 h).trans (gw_k hne_177 hc_236)
  have hc_251 := (congrFun hM_249 (ad 0)).trans (gw_k hne_178 hc_237)
  have hc_252 := (congrFun hM_249 (ad 1)).trans (gw_k hne_179 hc_238)
  have hc_253 := (congrFun hM_249 (ad 2)).trans (gw_k hne_180 hc_239)
  have hc_254 := (congrFun hM_249 (ad 3)).trans (gw_k hne_181 hc_240)
  have hc_255 := (congrFun hM_249 (ad 4)).trans (gw_k hne_182 hc_241)
  have hc_256 := (congrFun hM_249 g).trans (gw_k hne_197 hc_242)
  have hc_257 := (congrFun hM_249 (ad2 0)).trans (gw_k hne_201 hc_243)
  have hc_258 := (congrFun hM_249 (ad2 1)).trans (gw_k hne_205 hc_244)
  have hc_259 : M_248 (ad2 2) = some (.inl (K.2.1 0, 24, .inl (va_cpy V.2.2.1 (fun _ => 0) 0 0 24))) := (congrFun hM_249 _).trans gw_s
  have hc_260 := (congrFun hM_249 (ad2 3)).trans (gw_k hne_214 hc_246)
  have hc_261 := (congrFun hM_249 (ad2 4)).trans (gw_k hne_218 hc_247)
  refine lv_aload_n hx hb dX0_snapshot_62 rfl (lv_at hl 1 rfl) ?_
  refine gw_get (ci := 1) (C := RX0) (T := TX0) (N := 5) hx hb hts hinX0 hown hK hG hc_250 rfl 3 (by decide) hf21 (fun _ h9 => h9) rfl dX0_snapshot_63 ?_
  refine lv_iconst (v := nI 0) hx hb dX0_snapshot_66 (by decide) ?_
  refine lv_aload_n hx hb dX0_snapshot_67 rfl (lv_at hl 0 rfl) ?_
  refine gw_get (ci := 1) (C := RX0) (T := TX0) (N := 5) hx hb hts hinX0 hown hK hG hc_256 rfl 3 (by decide) hf21 (fun _ h9 => h9) rfl dX0_snapshot_68 ?_
  refine lv_iconst (v := nI 0) hx hb dX0_snapshot_71 (by decide) ?_
  refine lv_aload_n hx hb dX0_snapshot_72 rfl (lv_at hl 1 rfl) ?_
  refine gw_get (ci := 1) (C := RX0) (T := TX0) (N := 5) hx hb hts hinX0 hown hK hG hc_250 rfl 3 (by decide) hf21 (fun _ h9 => h9) rfl dX0_snapshot_73 ?_
  refine gw_alen hx hb hK hG hc_254 1 rfl (v := nI 24) rfl dX0_snapshot_76 ?_
  refine gw_copyl (nn := 24) hx hb (hml.trans hl.1.symm) hown (hts (.methodLink RX0 38 arraycopyName) (by decide +kernel)) (hts (.native arraycopyName) (by decide +kernel)) (hts (.static arraycopyName) (by decide +kernel)) (hts (.initialized "java/lang/System") (by decide +kernel)) hK hG hc_254 hc_260 1 rfl (by decide) (by decide) (by decide) (Nat.le_of_ble_eq_true rfl) (Nat.le_of_ble_eq_true rfl) dX0_snapshot_77 (fun H locs hG => ?_)
  obtain ⟨M_262, hM_263⟩ : ∃ M1 : gw_M, M1 = gw_up M_248 (ad2 3) (.inl (K.2.1 1, 24, .inr (.inl (va_cpy V.2.2.2.1 (fun _ => 0) 0 0 24)))) := ⟨_, rfl⟩
  have hG : gw_B K M_262 s.heap H locs := by rw [hM_263]; exact hG
  have hc_264 := (congrFun hM_263 h).trans (gw_k hne_183 hc_250)
  have hc_265 := (congrFun hM_263 (ad 0)).trans (gw_k hne_184 hc_251)
  have hc_266 := (congrFun hM_263 (ad 1)).trans (gw_k hne_185 hc_252)
  have hc_267 := (congrFun hM_263 (ad 2)).trans (gw_k hne_186 hc_253)
  have hc_268 := (congrFun hM_263 (ad 3)).trans (gw_k hne_187 hc_254)
  have hc_269 := (congrFun hM_263 (ad 4)).trans (gw_k hne_188 hc_255)
  have hc_270 := (congrFun hM_263 g).trans (gw_k hne_198 hc_256)
  have hc_271 := (congrFun hM_263 (ad2 0)).trans (gw_k hne_202 hc_257)
  have hc_272 := (congrFun hM_263 (ad2 1)).trans (gw_k hne_206 hc_258)
  have hc_273 := (congrFun hM_263 (ad2 2)).trans (gw_k hne_210 hc_259)
  have hc_274 : M_262 (ad2 3) = some (.inl (K.2.1 1, 24, .inr (.inl (va_cpy V.2.2.2.1 (fun _ => 0) 0 0 24)))) := (congrFun hM_263 _).trans gw_s
  have hc_275 := (congrFun hM_263 (ad2 4)).trans (gw_k hne_219 hc_261)
  refine lv_aload_n hx hb dX0_snapshot_80 rfl (lv_at hl 1 rfl) ?_
  refine gw_get (ci := 1) (C := RX0) (T := TX0) (N := 5) hx hb hts hinX0 hown hK hG hc_264 rfl 4 (by decide) hf25 (fun _ h9 => h9) rfl dX0_snapshot_81 ?_
  refine lv_iconst (v := nI 0) hx hb dX0_snapshot_84 (by decide) ?_
  refine lv_aload_n hx hb dX0_snapshot_85 rfl (lv_at hl 0 rfl) ?_
  refine gw_get (ci := 1) (C := RX0) (T := TX0) (N := 5) hx hb hts hinX0 hown hK hG hc_270 rfl 4 (by decide) hf25 (fun _ h9 => h9) rfl dX0_snapshot_86 ?_
  refine lv_iconst (v := nI 0) hx hb dX0_snapshot_89 (by decide) ?_
  refine lv_aload_n hx hb dX0_snapshot_90 rfl (lv_at hl 1 rfl) ?_
  refine gw_get (ci := 1) (C := RX0) (T := TX0) (N := 5) hx hb hts hinX0 hown hK hG hc_264 rfl 4 (by decide) hf25 (fun _ h9 => h9) rfl dX0_snapshot_91 ?_
  refine gw_alen hx hb hK hG hc_269 1 rfl (v := nI 24) rfl dX0_snapshot_94 ?_
  refine gw_copyl (nn := 24) hx hb (hml.trans hl.1.symm) hown (hts (.methodLink RX0 38 arraycopyName) (by decide +kernel)) (hts (.native arraycopyName) (by decide +kernel)) (hts (.static arraycopyName) (by decide +kernel)) (hts (.initialized "java/lang/System") (by decide +kernel)) hK hG hc_269 hc_275 1 rfl (by decide) (by decide) (by decide) (Nat.le_of_ble_eq_true rfl) (Nat.le_of_ble_eq_true rfl) dX0_snapshot_95 (fun H locs hG => ?_)
  obtain ⟨M_276, hM_277⟩ : ∃ M1 : gw_M, M1 = gw_up M_262 (ad2 4) (.inl (K.2.1 1, 24, .inr (.inl (va_cpy V.2.2.2.2 (fun _ => 0) 0 0 24)))) := ⟨_, rfl⟩
  have hG : gw_B K M_276 s.heap H locs := by rw [hM_277]; exact hG
  have hc_278 := (congrFun hM_277 h).trans (gw_k hne_189 hc_264)
  have hc_279 := (congrFun hM_277 (ad 0)).trans (gw_k hne_190 hc_265)
  have hc_280 := (congrFun hM_277 (ad 1)).trans (gw_k hne_191 hc_266)
  have hc_281 := (congrFun hM_277 (ad 2)).trans (gw_k hne_192 hc_267)
  have hc_282 := (congrFun hM_277 (ad 3)).trans (gw_k hne_193 hc_268)
  have hc_283 := (congrFun hM_277 (ad 4)).trans (gw_k hne_194 hc_269)
  have hc_284 := (congrFun hM_277 g).trans (gw_k hne_199 hc_270)
  have hc_285 := (congrFun hM_277 (ad2 0)).trans (gw_k hne_203 hc_271)
  have hc_286 := (congrFun hM_277 (ad2 1)).trans (gw_k hne_207 hc_272)
  have hc_287 := (congrFun hM_277 (ad2 2)).trans (gw_k hne_211 hc_273)
  have hc_288 := (congrFun hM_277 (ad2 3)).trans (gw_k hne_215 hc_274)
  have hc_289 : M_276 (ad2 4) = some (.inl (K.2.1 1, 24, .inr (.inl (va_cpy V.2.2.2.2 (fun _ => 0) 0 0 24)))) := (congrFun hM_277 _).trans gw_s
  refine lv_aload_n hx hb dX0_snapshot_98 rfl (lv_at hl 0 rfl) ?_
  have hfin : ∀ q e, M q = some e → M_276 q = some e := by
    intro q e9 he
    have hqg : q ≠ g := gw_ne hgn he
    have h1 := (congrFun hM_143 q).trans (gw_o hgn he)
    have h2 := hk2 q _ hqg h1
    have h2 := (congrFun hM_221 q).trans (gw_k (gw_ne (hf2 0 (by decide)) h1) h2)
    have h2 := (congrFun hM_235 q).trans (gw_k (gw_ne (hf2 1 (by decide)) h1) h2)
    have h2 := (congrFun hM_249 q).trans (gw_k (gw_ne (hf2 2 (by decide)) h1) h2)
    have h2 := (congrFun hM_263 q).trans (gw_k (gw_ne (hf2 3 (by decide)) h1) h2)
    have h2 := (congrFun hM_277 q).trans (gw_k (gw_ne (hf2 4 (by decide)) h1) h2)
    exact h2
  have hfr2 : ∀ i, i < 5 → M (ad2 i) = none := by
    intro i hi
    cases hz : M (ad2 i) with
    | none => rfl
    | some e9 =>
      have h1 := (congrFun hM_143 (ad2 i)).trans (gw_o hgn hz)
      rw [hf2 i hi] at h1
      cases h1
  exact gw_aret (v := some g) hx hb hr (Or.inl ⟨_, rfl⟩) hlocks hG hT (by omega) (by omega) dX0_snapshot_99 ⟨g, ad2, rfl, ⟨hc_284, hc_285, hc_286, hc_287, hc_288, hc_289, y_ne⟩, hgn, hfr2, hfin⟩
end
section
set_option maxHeartbeats 4000000 in
set_option maxRecDepth 100000 in
/-- AbstractCollection() -/
theorem c_acinit (l : Launch) (K : gw_C) (M : gw_M) (h : Nat)  : Met l yJxa1e45_init_da8c8 wsJxa1e45_init_da8c8 ({ frames := 1, cells := 0, slots := 0, locals := 12 } : Room) (va_Pc [.ref h] (gw_I K M)) (va_Qv (fun M1 => M1 = M) (gw_I K) (gw_A K)) 0 0 (gw_A K) := by
  refine Met.ofW (cc := cJxa1e45_init_da8c8) (maxL := 1) (ret := none) (by decide) rfl ?_
  intro p e s m args below meth c s₁ B hml hv
  obtain ⟨hav, hI⟩ := hv
  have hx := B.exec
  have hb := B.bytes
  have hr := B.returns
  have hts := atoms_spec (ws := wsJxa1e45_init_da8c8) B.pre
  have hown : s.vm.findClass RJxa1e45 = some m.cls := findClass_of_methodNamed B.named
  have hlocks : meth.locks = false := B.notSynchronized
  have hT := hI.2.2
  have hK := hT.K
  have hG := hI.B
  have hE : entryFrame m args 1 = entryFrame m ([.ref h] : List Value).toArray 1 := by rw [hav]
  rw [hE]
  have hl := lv_entry ([.ref h]) (n := 1) (Nat.le_of_ble_eq_true rfl)
  rw [lg_entry_eq]
  generalize (lg_sl ([.ref h]) ++ List.replicate (1 - (lg_sl ([.ref h])).length) Slot.unset).toArray = ls at hl ⊢
  have hl : lv_has ls 1 [(0, .ref h)] := hl
  refine lv_aload_n hx hb dJxa1e45_init_da8c8_0 rfl (lv_at hl 0 rfl) ?_
  refine W.objInit hx hb hown (hts (.methodLink RJxa1e45 1 objectInit) (by decide +kernel)) (hts (.instanceMethod objectInit) (by decide +kernel)) (hts (.code objectInit ⟨#[0xb1]⟩ 1 none) (by decide +kernel)) rfl (by rw [hml]; exact hl.1) rfl dJxa1e45_init_da8c8_1 (Nat.le_of_ble_eq_true rfl) (Nat.le_of_ble_eq_true rfl) ?_
  refine W.eq (g2 := F0 m 4 ls []) rfl ?_
  exact gw_vret hx hb hr hlocks hG hT (by omega) (by omega) dJxa1e45_init_da8c8_4 rfl

set_option maxHeartbeats 4000000 in
set_option maxRecDepth 100000 in
/-- AbstractList() -/
theorem c_abinit (l : Launch) (K : gw_C) (M : gw_M) (w : Nat) (hw0 : M w = some (.inr (0, [.int 0, .null, .int 0]))) : Met l yJxc12de_init_da8c8 wsJxc12de_init_da8c8 ({ frames := 2, cells := 0, slots := 0, locals := 32 } : Room) (va_Pc [.ref w] (gw_I K M)) (va_Qv (fun M1 => M1 = gw_up M w (.inr (0, [.int (nI 0), .null, .int 0]))) (gw_I K) (gw_A K)) 0 0 (gw_A K) := by
  refine Met.ofW (cc := cJxc12de_init_da8c8) (maxL := 1) (ret := none) (by decide) rfl ?_
  intro p e s m args below meth c s₁ B hml hv
  obtain ⟨hav, hI⟩ := hv
  have hx := B.exec
  have hb := B.bytes
  have hr := B.returns
  have hts := atoms_spec (ws := wsJxc12de_init_da8c8) B.pre
  have hown : s.vm.findClass RJxc12de = some m.cls := findClass_of_methodNamed B.named
  have hlocks : meth.locks = false := B.notSynchronized
  have hT := hI.2.2
  have hK := hT.K
  have hG := hI.B
  have hf7 := hts (.fieldLink RJxc12de 7 "java/util/AbstractList" "modCount" "I") (by decide +kernel)
  have hinJx4a65c : ∀ w ∈ wsJx4a65c0, w ∈ wsJxc12de_init_da8c8 := by decide +kernel
  have hE : entryFrame m args 1 = entryFrame m ([.ref w] : List Value).toArray 1 := by rw [hav]
  rw [hE]
  have hl := lv_entry ([.ref w]) (n := 1) (Nat.le_of_ble_eq_true rfl)
  rw [lg_entry_eq]
  generalize (lg_sl ([.ref w]) ++ List.replicate (1 - (lg_sl ([.ref w])).length) Slot.unset).toArray = ls at hl ⊢
  have hl : lv_has ls 1 [(0, .ref w)] := hl
  refine lv_aload_n hx hb dJxc12de_init_da8c8_0 rfl (lv_at hl 0 rfl) ?_
  refine gw_callv (va_runI (As := []) (rest := []) ⟨hx, hb, hml, hown, hts⟩ (c_acinit l K M w) (cwI 0 hts gJxc12de_init_da8c8_Jxa1e45_init_da8c8 rfl rfl rfl (hts (.initialized RJxa1e45) (by decide +kernel)) (hts (.methodLink RJxc12de 1 yJxa1e45_init_da8c8) (by decide +kernel)) (hts (.instanceMethod yJxa1e45_init_da8c8) (by decide +kernel)) rfl (by decide +kernel) ⟨Nat.le_of_ble_eq_true rfl, Nat.le_of_ble_eq_true rfl⟩) (gw_preS hG hT) rfl rfl hl.1 rfl (lv_room (Nat.le_of_ble_eq_true rfl)) dJxc12de_init_da8c8_1 ⟨Nat.le_of_ble_eq_true rfl, Nat.le_of_ble_eq_true rfl⟩) hG (fun M_2 H locs hw hG => ?_)
  rw [hw] at hG
  refine lv_aload_n hx hb dJxc12de_init_da8c8_4 rfl (lv_at hl 0 rfl) ?_
  refine lv_iconst (v := nI 0) hx hb dJxc12de_init_da8c8_5 (by decide) ?_
  refine gw_put (ci := 0) (v := .int (nI 0)) (ty := .int) (C := RJx4a65c) (T := TJx4a65c) (N := 3) hx hb hts hinJx4a65c tyJx4a65c tyJx4a65c_ok nmJx4a65c hown hK hG hw0 rfl 0 (by decide) hf7 (fun _ h9 => h9) rfl (by decide +kernel) rfl rfl (Nat.le_of_ble_eq_true rfl) dJxc12de_init_da8c8_6 (fun H locs hG => ?_)
  obtain ⟨M_3, hM_4⟩ : ∃ M1 : gw_M, M1 = gw_up M w (.inr (0, [.int (nI 0), .null, .int 0])) := ⟨_, rfl⟩
  have hG : gw_B K M_3 s.heap H locs := by rw [hM_4]; exact hG
  have hc_5 : M_3 w = some (.inr (0, [.int (nI 0), .null, .int 0])) := (congrFun hM_4 _).trans gw_s
  exact gw_vret hx hb hr hlocks hG hT (by omega) (by omega) dJxc12de_init_da8c8_9 hM_4

set_option maxHeartbeats 4000000 in
set_option maxRecDepth 100000 in
/-- ArrayList() -/
theorem c_alinit (l : Launch) (K : gw_C) (M : gw_M) (w : Nat) (hw0 : M w = some (.inr (0, [.int 0, .null, .int 0]))) : Met l yJx4a65c_init_da8c8 wsJx4a65c_init_da8c8 ({ frames := 3, cells := 0, slots := 0, locals := 52 } : Room) (va_Pc [.ref w] (gw_I K M)) (va_Qv (fun M1 => M1 = gw_up M w (.inr (0, [.int (nI 0), .ref K.2.2.2.1, .int 0]))) (gw_I K) (gw_A K)) 0 0 (gw_A K) := by
  refine Met.ofW (cc := cJx4a65c_init_da8c8) (maxL := 1) (ret := none) (by decide) rfl ?_
  intro p e s m args below meth c s₁ B hml hv
  obtain ⟨hav, hI⟩ := hv
  have hx := B.exec
  have hb := B.bytes
  have hr := B.returns
  have hts := atoms_spec (ws := wsJx4a65c_init_da8c8) B.pre
  have hown : s.vm.findClass RJx4a65c = some m.cls := findClass_of_methodNamed B.named
  have hlocks : meth.locks = false := B.notSynchronized
  have hT := hI.2.2
  have hK := hT.K
  have hG := hI.B
  have hf9 := hts (.fieldLink RJx4a65c 9 "java/util/ArrayList" "elementData" "[Ljava/lang/Object;") (by decide +kernel)
  have hf39 := hts (.fieldLink RJx4a65c 39 "java/util/ArrayList" "DEFAULTCAPACITY_EMPTY_ELEMENTDATA" "[Ljava/lang/Object;") (by decide +kernel)
  have hinJx4a65c : ∀ w ∈ wsJx4a65c0, w ∈ wsJx4a65c_init_da8c8 := by decide +kernel
  have hE : entryFrame m args 1 = entryFrame m ([.ref w] : List Value).toArray 1 := by rw [hav]
  rw [hE]
  have hl := lv_entry ([.ref w]) (n := 1) (Nat.le_of_ble_eq_true rfl)
  rw [lg_entry_eq]
  generalize (lg_sl ([.ref w]) ++ List.replicate (1 - (lg_sl ([.ref w])).length) Slot.unset).toArray = ls at hl ⊢
  have hl : lv_has ls 1 [(0, .ref w)] := hl
  refine lv_aload_n hx hb dJx4a65c_init_da8c8_0 rfl (lv_at hl 0 rfl) ?_
  refine gw_callv (va_runI (As := []) (rest := []) ⟨hx, hb, hml, hown, hts⟩ (c_abinit l K M w hw0) (cwI 0 hts gJx4a65c_init_da8c8_Jxc12de_init_da8c8 rfl rfl rfl (hts (.initialized RJxc12de) (by decide +kernel)) (hts (.methodLink RJx4a65c 1 yJxc12de_init_da8c8) (by decide +kernel)) (hts (.instanceMethod yJxc12de_init_da8c8) (by decide +kernel)) rfl (by decide +kernel) ⟨Nat.le_of_ble_eq_true rfl, Nat.le_of_ble_eq_true rfl⟩) (gw_preS hG hT) rfl rfl hl.1 rfl (lv_room (Nat.le_of_ble_eq_true rfl)) dJx4a65c_init_da8c8_1 ⟨Nat.le_of_ble_eq_true rfl, Nat.le_of_ble_eq_true rfl⟩) hG (fun M_7 H locs hw hG => ?_)
  have hM_8 := hw
  have hc_9 : M_7 w = some (.inr (0, [.int (nI 0), .null, .int 0])) := (congrFun hM_8 _).trans gw_s
  refine lv_aload_n hx hb dJx4a65c_init_da8c8_4 rfl (lv_at hl 0 rfl) ?_
  refine va_gets (v := .ref K.2.2.2.1) hx hb hT.2.1.2.1.1 hG.S hown hf39 (fun _ h9 => h9) dJx4a65c_init_da8c8_5 ?_
  refine gw_put (ci := 0) (v := .ref K.2.2.2.1) (ty := .array (.object "java/lang/Object")) (C := RJx4a65c) (T := TJx4a65c) (N := 3) hx hb hts hinJx4a65c tyJx4a65c tyJx4a65c_ok nmJx4a65c hown hK hG hc_9 rfl 1 (by decide) hf9 (fun _ h9 => h9) rfl (by decide +kernel) rfl rfl (Nat.le_of_ble_eq_true rfl) dJx4a65c_init_da8c8_8 (fun H locs hG => ?_)
  obtain ⟨M_10, hM_11⟩ : ∃ M1 : gw_M, M1 = gw_up M_7 w (.inr (0, [.int (nI 0), .ref K.2.2.2.1, .int 0])) := ⟨_, rfl⟩
  have hG : gw_B K M_10 s.heap H locs := by rw [hM_11]; exact hG
  have hc_12 : M_10 w = some (.inr (0, [.int (nI 0), .ref K.2.2.2.1, .int 0])) := (congrFun hM_11 _).trans gw_s
  exact gw_vret hx hb hr hlocks hG hT (by omega) (by omega) dJx4a65c_init_da8c8_11 (by rw [hM_11, hM_8, gw_uu])

set_option maxHeartbeats 4000000 in
set_option maxRecDepth 100000 in
/-- size() -/
theorem c_alsize (l : Launch) (K : gw_C) (M : gw_M) (w a sz : Nat) (mc : Int32) (hw0 : M w = some (.inr (0, [.int mc, .ref a, .int (nI sz)]))) : Met l yJx4a65c_size_8abf5 wsJx4a65c_size_8abf5 ({ frames := 0, cells := 0, slots := 0, locals := 0 } : Room) (va_Pc [.ref w] (gw_I K M)) (va_Qi (fun r M1 => M1 = M ∧ r = nI sz) (gw_I K) (gw_A K)) 0 0 (gw_A K) := by
  refine Met.ofW (cc := cJx4a65c_size_8abf5) (maxL := 1) (ret := (some .int)) (by decide) rfl ?_
  intro p e s m args below meth c s₁ B hml hv
  obtain ⟨hav, hI⟩ := hv
  have hx := B.exec
  have hb := B.bytes
  have hr := B.returns
  have hts := atoms_spec (ws := wsJx4a65c_size_8abf5) B.pre
  have hown : s.vm.findClass RJx4a65c = some m.cls := findClass_of_methodNamed B.named
  have hlocks : meth.locks = false := B.notSynchronized
  have hT := hI.2.2
  have hK := hT.K
  have hG := hI.B
  have hf48 := hts (.fieldLink RJx4a65c 48 "java/util/ArrayList" "size" "I") (by decide +kernel)
  have hinJx4a65c : ∀ w ∈ wsJx4a65c0, w ∈ wsJx4a65c_size_8abf5 := by decide +kernel
  have hE : entryFrame m args 1 = entryFrame m ([.ref w] : List Value).toArray 1 := by rw [hav]
  rw [hE]
  have hl := lv_entry ([.ref w]) (n := 1) (Nat.le_of_ble_eq_true rfl)
  rw [lg_entry_eq]
  generalize (lg_sl ([.ref w]) ++ List.replicate (1 - (lg_sl ([.ref w])).length) Slot.unset).toArray = ls at hl ⊢
  have hl : lv_has ls 1 [(0, .ref w)] := hl
  refine lv_aload_n hx hb dJx4a65c_size_8abf5_0 rfl (lv_at hl 0 rfl) ?_
  refine gw_get (ci := 0) (C := RJx4a65c) (T := TJx4a65c) (N := 3) hx hb hts hinJx4a65c hown hK hG hw0 rfl 2 (by decide) hf48 (fun _ h9 => h9) rfl dJx4a65c_size_8abf5_1 ?_
  exact gw_iret hx hb hr hlocks hG hT (by omega) (by omega) dJx4a65c_size_8abf5_4 ⟨rfl, rfl⟩

set_option maxHeartbeats 4000000 in
set_option maxRecDepth 100000 in
/-- Preconditions.checkIndex, within -/
theorem c_ck3 (l : Launch) (K : gw_C) (M : gw_M) (k n9 : Nat) (hk : k < n9) (hn : n9 < 2147483648) : Met l yJ3_checkIndex_8e157 wsJ3_checkIndex_8e157 ({ frames := 0, cells := 0, slots := 0, locals := 0 } : Room) (va_Pc [.int (nI k), .int (nI n9), .null] (gw_I K M)) (va_Qi (fun r M1 => M1 = M ∧ r = nI k) (gw_I K) (gw_A K)) 0 0 (gw_A K) := by
  refine Met.ofW (cc := cJ3_checkIndex_8e157) (maxL := 3) (ret := (some .int)) (by decide) rfl ?_
  intro p e s m args below meth c s₁ B hml hv
  obtain ⟨hav, hI⟩ := hv
  have hx := B.exec
  have hb := B.bytes
  have hr := B.returns
  have hts := atoms_spec (ws := wsJ3_checkIndex_8e157) B.pre
  have hown : s.vm.findClass RJ3 = some m.cls := findClass_of_methodNamed B.named
  have hlocks : meth.locks = false := B.notSynchronized
  have hT := hI.2.2
  have hK := hT.K
  have hG := hI.B
  have hE : entryFrame m args 3 = entryFrame m ([.int (nI k), .int (nI n9), .null] : List Value).toArray 3 := by rw [hav]
  rw [hE]
  have hl := lv_entry ([.int (nI k), .int (nI n9), .null]) (n := 3) (Nat.le_of_ble_eq_true rfl)
  rw [lg_entry_eq]
  generalize (lg_sl ([.int (nI k), .int (nI n9), .null]) ++ List.replicate (3 - (lg_sl ([.int (nI k), .int (nI n9), .null])).length) Slot.unset).toArray = ls at hl ⊢
  have hl : lv_has ls 3 [(0, .int (nI k)), (1, .int (nI n9)), (2, .null)] := hl
  refine lv_iload_n hx hb dJ3_checkIndex_8e157_0 rfl (lv_at hl 0 rfl) ?_
  refine lv_if_lt hx hb (tgt := 9) dJ3_checkIndex_8e157_1 (by decide) (fun hc => ?_) (fun hc => ?_)
  · exact absurd hc (nI_pos (by omega))
  · refine lv_iload_n hx hb dJ3_checkIndex_8e157_4 rfl (lv_at hl 0 rfl) ?_
    refine lv_iload_n hx hb dJ3_checkIndex_8e157_5 rfl (lv_at hl 1 rfl) ?_
    refine gw_icmp_lt hx hb (by omega) (by omega) (tgt := 16) dJ3_checkIndex_8e157_6 (by decide) (fun hc => ?_) (fun hc => ?_)
    · refine lv_iload_n hx hb dJ3_checkIndex_8e157_16 rfl (lv_at hl 0 rfl) ?_
      exact gw_iret hx hb hr hlocks hG hT (by omega) (by omega) dJ3_checkIndex_8e157_17 ⟨rfl, rfl⟩
    · exact absurd hk (by omega)

set_option maxHeartbeats 4000000 in
set_option maxRecDepth 100000 in
/-- Objects.checkIndex, within -/
theorem c_ck (l : Launch) (K : gw_C) (M : gw_M) (k n9 : Nat) (hk : k < n9) (hn : n9 < 2147483648) : Met l yJ15_checkIndex_7cf53 wsJ15_checkIndex_7cf53 ({ frames := 1, cells := 0, slots := 0, locals := 22 } : Room) (va_Pc [.int (nI k), .int (nI n9)] (gw_I K M)) (va_Qi (fun r M1 => M1 = M ∧ r = nI k) (gw_I K) (gw_A K)) 0 0 (gw_A K) := by
  refine Met.ofW (cc := cJ15_checkIndex_7cf53) (maxL := 2) (ret := (some .int)) (by decide) rfl ?_
  intro p e s m args below meth c s₁ B hml hv
  obtain ⟨hav, hI⟩ := hv
  have hx := B.exec
  have hb := B.bytes
  have hr := B.returns
  have hts := atoms_spec (ws := wsJ15_checkIndex_7cf53) B.pre
  have hown : s.vm.findClass RJ15 = some m.cls := findClass_of_methodNamed B.named
  have hlocks : meth.locks = false := B.notSynchronized
  have hT := hI.2.2
  have hK := hT.K
  have hG := hI.B
  have hE : entryFrame m args 2 = entryFrame m ([.int (nI k), .int (nI n9)] : List Value).toArray 2 := by rw [hav]
  rw [hE]
  have hl := lv_entry ([.int (nI k), .int (nI n9)]) (n := 2) (Nat.le_of_ble_eq_true rfl)
  rw [lg_entry_eq]
  generalize (lg_sl ([.int (nI k), .int (nI n9)]) ++ List.replicate (2 - (lg_sl ([.int (nI k), .int (nI n9)])).length) Slot.unset).toArray = ls at hl ⊢
  have hl : lv_has ls 2 [(0, .int (nI k)), (1, .int (nI n9))] := hl
  refine lv_iload_n hx hb dJ15_checkIndex_7cf53_0 rfl (lv_at hl 0 rfl) ?_
  refine lv_iload_n hx hb dJ15_checkIndex_7cf53_1 rfl (lv_at hl 1 rfl) ?_
  refine lv_null hx hb dJ15_checkIndex_7cf53_2 ?_
  refine gw_calli (va_runS (As := [.int (nI k), .int (nI n9), .null]) (rest := []) ⟨hx, hb, hml, hown, hts⟩ (c_ck3 l K M k n9 hk hn) (va_cwS 3 hts gJ15_checkIndex_7cf53_J3_checkIndex_8e157 rfl rfl rfl (by decide +kernel) ⟨Nat.le_of_ble_eq_true rfl, Nat.le_of_ble_eq_true rfl⟩) (gw_preS hG hT) rfl rfl hl.1 rfl (lv_room (Nat.le_of_ble_eq_true rfl)) dJ15_checkIndex_7cf53_3 ⟨Nat.le_of_ble_eq_true rfl, Nat.le_of_ble_eq_true rfl⟩) hG (fun r_13 M_14 H locs hw hG => ?_)
  rw [hw.1] at hG
  refine gw_as hw.2 ?_
  exact gw_iret hx hb hr hlocks hG hT (by omega) (by omega) dJ15_checkIndex_7cf53_6 ⟨rfl, rfl⟩

set_option maxHeartbeats 4000000 in
set_option maxRecDepth 100000 in
/-- elementData(i) -/
theorem c_aled (l : Launch) (K : gw_C) (M : gw_M) (w a cap sz : Nat) (mc : Int32) (f : Nat → Option Nat) (k : Nat) (hw0 : M w = some (.inr (0, [.int mc, .ref a, .int (nI sz)]))) (ha : M a = some (.inl (K.2.1 3, cap, .inr (.inr (.inr (.inr f)))))) (hk : k < cap) (hcp : cap ≤ 150) : Met l yJx4a65c_elementData_915e3 wsJx4a65c_elementData_915e3 ({ frames := 0, cells := 0, slots := 0, locals := 0 } : Room) (va_Pc [.ref w, .int (nI k)] (gw_I K M)) (va_Qq (fun r M1 => M1 = M ∧ r = f k) (gw_I K) (gw_A K)) 0 0 (gw_A K) := by
  refine Met.ofW (cc := cJx4a65c_elementData_915e3) (maxL := 2) (ret := (some (.object "java/lang/Object"))) (by decide) rfl ?_
  intro p e s m args below meth c s₁ B hml hv
  obtain ⟨hav, hI⟩ := hv
  have hx := B.exec
  have hb := B.bytes
  have hr := B.returns
  have hts := atoms_spec (ws := wsJx4a65c_elementData_915e3) B.pre
  have hown : s.vm.findClass RJx4a65c = some m.cls := findClass_of_methodNamed B.named
  have hlocks : meth.locks = false := B.notSynchronized
  have hT := hI.2.2
  have hK := hT.K
  have hG := hI.B
  have hf9 := hts (.fieldLink RJx4a65c 9 "java/util/ArrayList" "elementData" "[Ljava/lang/Object;") (by decide +kernel)
  have hinJx4a65c : ∀ w ∈ wsJx4a65c0, w ∈ wsJx4a65c_elementData_915e3 := by decide +kernel
  have hE : entryFrame m args 2 = entryFrame m ([.ref w, .int (nI k)] : List Value).toArray 2 := by rw [hav]
  rw [hE]
  have hl := lv_entry ([.ref w, .int (nI k)]) (n := 2) (Nat.le_of_ble_eq_true rfl)
  rw [lg_entry_eq]
  generalize (lg_sl ([.ref w, .int (nI k)]) ++ List.replicate (2 - (lg_sl ([.ref w, .int (nI k)])).length) Slot.unset).toArray = ls at hl ⊢
  have hl : lv_has ls 2 [(0, .ref w), (1, .int (nI k))] := hl
  refine lv_aload_n hx hb dJx4a65c_elementData_915e3_0 rfl (lv_at hl 0 rfl) ?_
  refine gw_get (ci := 0) (C := RJx4a65c) (T := TJx4a65c) (N := 3) hx hb hts hinJx4a65c hown hK hG hw0 rfl 1 (by decide) hf9 (fun _ h9 => h9) rfl dJx4a65c_elementData_915e3_1 ?_
  refine lv_iload_n hx hb dJx4a65c_elementData_915e3_4 rfl (lv_at hl 1 rfl) ?_
  refine gw_aldq_n (v := f k) hx hb hK hG ha 3 rfl (by omega) (by omega) rfl dJx4a65c_elementData_915e3_5 ?_
  exact gw_aret (v := f k) hx hb hr (Or.inl ⟨_, rfl⟩) hlocks hG hT (by omega) (by omega) dJx4a65c_elementData_915e3_6 ⟨rfl, rfl⟩

set_option maxHeartbeats 4000000 in
set_option maxRecDepth 100000 in
/-- get(i) -/
theorem c_alget (l : Launch) (K : gw_C) (M : gw_M) (w a cap sz : Nat) (mc : Int32) (f : Nat → Option Nat) (k : Nat) (hal : al K M w a cap sz mc f) (hk : k < sz) : Met l yJx4a65c_get_915e3 wsJx4a65c_get_915e3 ({ frames := 2, cells := 0, slots := 0, locals := 43 } : Room) (va_Pc [.ref w, .int (nI k)] (gw_I K M)) (va_Qq (fun r M1 => M1 = M ∧ r = f k) (gw_I K) (gw_A K)) 0 0 (gw_A K) := by
  refine Met.ofW (cc := cJx4a65c_get_915e3) (maxL := 2) (ret := (some (.object "java/lang/Object"))) (by decide) rfl ?_
  intro p e s m args below meth c s₁ B hml hv
  obtain ⟨hav, hI⟩ := hv
  have hx := B.exec
  have hb := B.bytes
  have hr := B.returns
  have hts := atoms_spec (ws := wsJx4a65c_get_915e3) B.pre
  have hown : s.vm.findClass RJx4a65c = some m.cls := findClass_of_methodNamed B.named
  have hlocks : meth.locks = false := B.notSynchronized
  have hT := hI.2.2
  have hK := hT.K
  have hG := hI.B
  have hf9 := hts (.fieldLink RJx4a65c 9 "java/util/ArrayList" "elementData" "[Ljava/lang/Object;") (by decide +kernel)
  have hf48 := hts (.fieldLink RJx4a65c 48 "java/util/ArrayList" "size" "I") (by decide +kernel)
  have hinJx4a65c : ∀ w ∈ wsJx4a65c0, w ∈ wsJx4a65c_get_915e3 := by decide +kernel
  have hE : entryFrame m args 2 = entryFrame m ([.ref w, .int (nI k)] : List Value).toArray 2 := by rw [hav]
  rw [hE]
  have hl := lv_entry ([.ref w, .int (nI k)]) (n := 2) (Nat.le_of_ble_eq_true rfl)
  rw [lg_entry_eq]
  generalize (lg_sl ([.ref w, .int (nI k)]) ++ List.replicate (2 - (lg_sl ([.ref w, .int (nI k)])).length) Slot.unset).toArray = ls at hl ⊢
  have hl : lv_has ls 2 [(0, .ref w), (1, .int (nI k))] := hl
  obtain ⟨hw0, hs, hd9 | ⟨ha, h1, h2, h3⟩⟩ := id hal
  · exact absurd hk (by omega)
  refine lv_iload_n hx hb dJx4a65c_get_915e3_0 rfl (lv_at hl 1 rfl) ?_
  refine lv_aload_n hx hb dJx4a65c_get_915e3_1 rfl (lv_at hl 0 rfl) ?_
  refine gw_get (ci := 0) (C := RJx4a65c) (T := TJx4a65c) (N := 3) hx hb hts hinJx4a65c hown hK hG hw0 rfl 2 (by decide) hf48 (fun _ h9 => h9) rfl dJx4a65c_get_915e3_2 ?_
  refine gw_calli (va_runS (As := [.int (nI k), .int (nI sz)]) (rest := []) ⟨hx, hb, hml, hown, hts⟩ (c_ck l K M k sz hk (by omega)) (va_cwS 2 hts gJx4a65c_get_915e3_J15_checkIndex_7cf53 rfl rfl rfl (by decide +kernel) ⟨Nat.le_of_ble_eq_true rfl, Nat.le_of_ble_eq_true rfl⟩) (gw_preS hG hT) rfl rfl hl.1 rfl (lv_room (Nat.le_of_ble_eq_true rfl)) dJx4a65c_get_915e3_5 ⟨Nat.le_of_ble_eq_true rfl, Nat.le_of_ble_eq_true rfl⟩) hG (fun r_15 M_16 H locs hw hG => ?_)
  rw [hw.1] at hG
  refine gw_as hw.2 ?_
  refine lv_pop hx hb dJx4a65c_get_915e3_8 rfl ?_
  refine lv_aload_n hx hb dJx4a65c_get_915e3_9 rfl (lv_at hl 0 rfl) ?_
  refine lv_iload_n hx hb dJx4a65c_get_915e3_10 rfl (lv_at hl 1 rfl) ?_
  refine gw_callq (va_runV (As := [.int (nI k)]) (rest := []) ⟨hx, hb, hml, hown, hts⟩ (c_aled l K M w a cap sz mc f k hw0 ha (by omega) h3) (cwV 1 hts gJx4a65c_get_915e3_Jx4a65c_elementData_915e3 rfl rfl rfl (by decide +kernel) ⟨Nat.le_of_ble_eq_true rfl, Nat.le_of_ble_eq_true rfl⟩) (gw_preV hG hT hw0 rfl) rfl rfl hl.1 rfl (lv_room (Nat.le_of_ble_eq_true rfl)) dJx4a65c_get_915e3_11 ⟨Nat.le_of_ble_eq_true rfl, Nat.le_of_ble_eq_true rfl⟩) hG (fun r_17 M_18 H locs hw hG => ?_)
  rw [hw.1] at hG
  rw [hw.2]
  exact gw_aret (v := f k) hx hb hr (Or.inl ⟨_, rfl⟩) hlocks hG hT (by omega) (by omega) dJx4a65c_get_915e3_14 ⟨rfl, rfl⟩

set_option maxHeartbeats 4000000 in
set_option maxRecDepth 100000 in
/-- newLength(c, 1, c / 2) -/
theorem c_newlen (l : Launch) (K : gw_C) (M : gw_M) (c9 : Nat) (h1 : 10 ≤ c9) (h2 : c9 ≤ 1000) : Met l yJ8_newLength_cabcc wsJ8_newLength_cabcc ({ frames := 1, cells := 0, slots := 0, locals := 26 } : Room) (va_Pc [.int (nI c9), .int (nI 1), .int (nI (c9 / 2))] (gw_I K M)) (va_Qi (fun r M1 => M1 = M ∧ r = nI (c9 + c9 / 2)) (gw_I K) (gw_A K)) 0 0 (gw_A K) := by
  refine Met.ofW (cc := cJ8_newLength_cabcc) (maxL := 4) (ret := (some .int)) (by decide) rfl ?_
  intro p e s m args below meth c s₁ B hml hv
  obtain ⟨hav, hI⟩ := hv
  have hx := B.exec
  have hb := B.bytes
  have hr := B.returns
  have hts := atoms_spec (ws := wsJ8_newLength_cabcc) B.pre
  have hown : s.vm.findClass RJ8 = some m.cls := findClass_of_methodNamed B.named
  have hlocks : meth.locks = false := B.notSynchronized
  have hT := hI.2.2
  have hK := hT.K
  have hG := hI.B
  have hE : entryFrame m args 4 = entryFrame m ([.int (nI c9), .int (nI 1), .int (nI (c9 / 2))] : List Value).toArray 4 := by rw [hav]
  rw [hE]
  have hl := lv_entry ([.int (nI c9), .int (nI 1), .int (nI (c9 / 2))]) (n := 4) (Nat.le_of_ble_eq_true rfl)
  rw [lg_entry_eq]
  generalize (lg_sl ([.int (nI c9), .int (nI 1), .int (nI (c9 / 2))]) ++ List.replicate (4 - (lg_sl ([.int (nI c9), .int (nI 1), .int (nI (c9 / 2))])).length) Slot.unset).toArray = ls at hl ⊢
  have hl : lv_has ls 4 [(0, .int (nI c9)), (1, .int (nI 1)), (2, .int (nI (c9 / 2)))] := hl
  refine lv_iload_n hx hb dJ8_newLength_cabcc_0 rfl (lv_at hl 0 rfl) ?_
  refine lv_iload_n hx hb dJ8_newLength_cabcc_1 rfl (lv_at hl 1 rfl) ?_
  refine lv_iload_n hx hb dJ8_newLength_cabcc_2 rfl (lv_at hl 2 rfl) ?_
  refine va_mmax hx hb (hml.trans hl.1.symm) hown (hts (.methodLink RJ8 194 Lib.Math.max.name) (by decide +kernel)) (hts (.static Lib.Math.max.name) (by decide +kernel)) (hts (.initialized "java/lang/Math") (by decide +kernel)) (hts (.code Lib.Math.max.name Lib.Math.max.code 2 (some .int)) (by decide +kernel)) (Nat.le_of_ble_eq_true rfl) (Nat.le_of_ble_eq_true rfl) (Nat.le_of_ble_eq_true rfl) (Nat.le_of_ble_eq_true rfl) dJ8_newLength_cabcc_3 ?_
  have e9 : (if nI 1 < nI (c9 / 2) then nI (c9 / 2) else nI 1) = nI (c9 / 2) := if_pos (nI_lt (by omega) (by omega))
  refine gw_as e9 ?_
  refine gw_iadd hx hb dJ8_newLength_cabcc_6 ?_
  refine lv_istore_n (lv' := [(3, .int (nI (c9 + (c9 / 2)))), (0, .int (nI c9)), (1, .int (nI 1)), (2, .int (nI (c9 / 2)))]) hx hb dJ8_newLength_cabcc_7 rfl hl (by decide) rfl (fun ls hl => ?_)
  refine lv_iconst (v := nI 0) hx hb dJ8_newLength_cabcc_8 (by decide) ?_
  refine lv_iload_n hx hb dJ8_newLength_cabcc_9 rfl (lv_at hl 0 rfl) ?_
  refine gw_icmp_ge hx hb (by omega) (by omega) (tgt := 21) dJ8_newLength_cabcc_10 (by decide) (fun hc => ?_) (fun hc => ?_)
  · exact absurd hc (by omega)
  · refine lv_iload_n hx hb dJ8_newLength_cabcc_13 rfl (lv_at hl 0 rfl) ?_
    refine lv_ldc (v := nI 2147483639) hx hb hown (hts (.constant RJ8 200 2147483639) (by decide +kernel)) dJ8_newLength_cabcc_14 ?_
    refine gw_icmp_gt hx hb (by omega) (by omega) (tgt := 21) dJ8_newLength_cabcc_16 (by decide) (fun hc => ?_) (fun hc => ?_)
    · exact absurd hc (by omega)
    · refine lv_iload_n hx hb dJ8_newLength_cabcc_19 rfl (lv_at hl 0 rfl) ?_
      exact gw_iret hx hb hr hlocks hG hT (by omega) (by omega) dJ8_newLength_cabcc_20 ⟨rfl, rfl⟩

set_option maxHeartbeats 4000000 in
set_option maxRecDepth 100000 in
/-- Arrays.copyOf(a, n, Object[].class) -/
theorem c_copy3 (l : Launch) (K : gw_C) (M : gw_M) (a cap n2 : Nat) (f : Nat → Option Nat) (ha : M a = some (.inl (K.2.1 3, cap, .inr (.inr (.inr (.inr f)))))) (h1 : cap ≤ n2) (h2 : n2 ≤ 150) (hel : ael M cap f) : Met l yJ7_copyOf_6403c wsJ7_copyOf_6403c ({ frames := 1, cells := 1, slots := 150, locals := 26 } : Room) (va_Pc [.ref a, .int (nI n2), .ref K.2.2.2.2] (gw_I K M)) (va_Qq (fun r M1 => ∃ q, r = some q ∧ M q = none ∧ M1 = gw_up M q (.inl (K.2.1 3, n2, .inr (.inr (.inr (.inr (va_cpy f (fun _ => none) 0 0 cap))))))) (gw_I K) (gw_A K)) 1 150 (gw_A K) := by
  refine Met.ofW (cc := cJ7_copyOf_6403c) (maxL := 4) (ret := (some (.array (.object "java/lang/Object")))) (by decide) rfl ?_
  intro p e s m args below meth c s₁ B hml hv
  obtain ⟨hav, hI⟩ := hv
  have hx := B.exec
  have hb := B.bytes
  have hr := B.returns
  have hts := atoms_spec (ws := wsJ7_copyOf_6403c) B.pre
  have hown : s.vm.findClass RJ7 = some m.cls := findClass_of_methodNamed B.named
  have hlocks : meth.locks = false := B.notSynchronized
  have hT := hI.2.2
  have hK := hT.K
  have hG := hI.B
  have hE : entryFrame m args 4 = entryFrame m ([.ref a, .int (nI n2), .ref K.2.2.2.2] : List Value).toArray 4 := by rw [hav]
  rw [hE]
  have hl := lv_entry ([.ref a, .int (nI n2), .ref K.2.2.2.2]) (n := 4) (Nat.le_of_ble_eq_true rfl)
  rw [lg_entry_eq]
  generalize (lg_sl ([.ref a, .int (nI n2), .ref K.2.2.2.2]) ++ List.replicate (4 - (lg_sl ([.ref a, .int (nI n2), .ref K.2.2.2.2])).length) Slot.unset).toArray = ls at hl ⊢
  have hl : lv_has ls 4 [(0, .ref a), (1, .int (nI n2)), (2, .ref K.2.2.2.2)] := hl
  refine lv_aload_n hx hb dJ7_copyOf_6403c_0 rfl (lv_at hl 2 rfl) ?_
  refine va_ldcM hx hb hown (hts (.classLink RJ7 110 "[Ljava/lang/Object;") (by decide +kernel)) hT.2.1.2.2.1 dJ7_copyOf_6403c_1 ?_
  refine lv_acmp_ne (rx := some K.2.2.2.2) (ry := some K.2.2.2.2) (tgt := 13) hx hb dJ7_copyOf_6403c_3 (by decide) (fun hc => absurd rfl hc) (fun _ => ?_)
  refine lv_iload_n hx hb dJ7_copyOf_6403c_6 rfl (lv_at hl 1 rfl) ?_
  refine gw_newq (C := "java/lang/Object") (n := nI n2) (N' := n2) hx hb hown (hts (.classLink RJ7 2 "java/lang/Object") (by decide +kernel)) hT.2.2.2.2.2.1.2 hK hG 3 rfl (nI_pos (by omega)) (nI_clamp (by omega)) (by omega) (Nat.le_of_ble_eq_true rfl) (show 0 + n2 ≤ 150 by omega) dJ7_copyOf_6403c_7 (fun q H hq hG => ?_)
  obtain ⟨M_19, hM_20⟩ : ∃ M1 : gw_M, M1 = gw_up M q (.inl (K.2.1 3, n2, .inr (.inr (.inr (.inr (fun _ => none)))))) := ⟨_, rfl⟩
  have hG : gw_B K M_19 s.heap H [] := by rw [hM_20]; exact hG
  have hne_22 : a ≠ q := gw_ne hq ha
  have hc_21 := (congrFun hM_20 a).trans (gw_k hne_22 ha)
  have hc_23 : M_19 q = some (.inl (K.2.1 3, n2, .inr (.inr (.inr (.inr (fun _ => none)))))) := (congrFun hM_20 _).trans gw_s
  refine W.widen (k := 1) (n := 150) (by omega) (by omega) ?_
  refine lv_goto (tgt := 24) hx hb dJ7_copyOf_6403c_10 (by decide) ?_
  refine lv_astore_n (lv' := [(3, .ref q), (0, .ref a), (1, .int (nI n2)), (2, .ref K.2.2.2.2)]) hx hb dJ7_copyOf_6403c_24 rfl hl (by decide) rfl (fun ls hl => ?_)
  refine lv_aload_n hx hb dJ7_copyOf_6403c_25 rfl (lv_at hl 1 rfl) ?_
  refine lv_iconst (v := nI 0) hx hb dJ7_copyOf_6403c_26 (by decide) ?_
  refine lv_aload_n hx hb dJ7_copyOf_6403c_27 rfl (lv_at hl 0 rfl) ?_
  refine lv_iconst (v := nI 0) hx hb dJ7_copyOf_6403c_28 (by decide) ?_
  refine lv_aload_n hx hb dJ7_copyOf_6403c_29 rfl (lv_at hl 1 rfl) ?_
  refine gw_alen hx hb hK hG hc_21 3 rfl (v := nI cap) rfl dJ7_copyOf_6403c_30 ?_
  refine lv_iload_n hx hb dJ7_copyOf_6403c_31 rfl (lv_at hl 2 rfl) ?_
  refine va_mmin hx hb (hml.trans hl.1.symm) hown (hts (.methodLink RJ7 304 Lib.Math.min.name) (by decide +kernel)) (hts (.static Lib.Math.min.name) (by decide +kernel)) (hts (.initialized "java/lang/Math") (by decide +kernel)) (hts (.code Lib.Math.min.name Lib.Math.min.code 2 (some .int)) (by decide +kernel)) (Nat.le_of_ble_eq_true rfl) (Nat.le_of_ble_eq_true rfl) (Nat.le_of_ble_eq_true rfl) (Nat.le_of_ble_eq_true rfl) dJ7_copyOf_6403c_32 ?_
  have e9 : (if nI n2 < nI cap then nI n2 else nI cap) = nI cap := if_neg (nI_nlt h1 (by omega))
  refine gw_as e9 ?_
  have hel9 : ∀ i : Nat, i < cap → ∀ y : Nat, f (0 + i) = some y → va_Any "java/lang/Object" s H y := by
    intro i hi y hy
    obtain ⟨y9, vs, e1, e2⟩ := hel i hi
    rw [Nat.zero_add, e1] at hy
    rw [← Option.some.inj hy]
    exact gw_any (ci := 2) hK hG ((congrFun hM_20 y9).trans (gw_o hq e2)) rfl hT.2.2.2.2.1.2
  refine gw_copyq (sp := 0) (dp := 0) (nn := cap) hx hb (hml.trans hl.1.symm) hown (hts (.methodLink RJ7 150 arraycopyName) (by decide +kernel)) (hts (.native arraycopyName) (by decide +kernel)) (hts (.static arraycopyName) (by decide +kernel)) (hts (.initialized "java/lang/System") (by decide +kernel)) hK hG hc_21 hc_23 3 rfl (by omega) (by omega) (by omega) (by omega) hel9 (Nat.le_of_ble_eq_true rfl) (Nat.le_of_ble_eq_true rfl) dJ7_copyOf_6403c_35 (fun H locs hG => ?_)
  obtain ⟨M_24, hM_25⟩ : ∃ M1 : gw_M, M1 = gw_up M_19 q (.inl (K.2.1 3, n2, .inr (.inr (.inr (.inr (va_cpy f (fun _ => none) 0 0 cap)))))) := ⟨_, rfl⟩
  have hG : gw_B K M_24 s.heap H locs := by rw [hM_25]; exact hG
  have hc_26 := (congrFun hM_25 a).trans (gw_k hne_22 hc_21)
  have hc_27 : M_24 q = some (.inl (K.2.1 3, n2, .inr (.inr (.inr (.inr (va_cpy f (fun _ => none) 0 0 cap)))))) := (congrFun hM_25 _).trans gw_s
  refine lv_aload_n hx hb dJ7_copyOf_6403c_38 rfl (lv_at hl 0 rfl) ?_
  exact gw_aret (v := some q) hx hb hr (Or.inr ⟨_, rfl⟩) hlocks hG hT (by omega) (by omega) dJ7_copyOf_6403c_39 ⟨q, rfl, hq, by rw [hM_25, hM_20, gw_uu]⟩

set_option maxHeartbeats 4000000 in
set_option maxRecDepth 100000 in
/-- Arrays.copyOf(a, n) -/
theorem c_copy2 (l : Launch) (K : gw_C) (M : gw_M) (a cap n2 : Nat) (f : Nat → Option Nat) (ha : M a = some (.inl (K.2.1 3, cap, .inr (.inr (.inr (.inr f)))))) (h1 : cap ≤ n2) (h2 : n2 ≤ 150) (hel : ael M cap f) : Met l yJ7_copyOf_1904c wsJ7_copyOf_1904c ({ frames := 2, cells := 1, slots := 150, locals := 49 } : Room) (va_Pc [.ref a, .int (nI n2)] (gw_I K M)) (va_Qq (fun r M1 => ∃ q, r = some q ∧ M q = none ∧ M1 = gw_up M q (.inl (K.2.1 3, n2, .inr (.inr (.inr (.inr (va_cpy f (fun _ => none) 0 0 cap))))))) (gw_I K) (gw_A K)) 1 150 (gw_A K) := by
  refine Met.ofW (cc := cJ7_copyOf_1904c) (maxL := 2) (ret := (some (.array (.object "java/lang/Object")))) (by decide) rfl ?_
  intro p e s m args below meth c s₁ B hml hv
  obtain ⟨hav, hI⟩ := hv
  have hx := B.exec
  have hb := B.bytes
  have hr := B.returns
  have hts := atoms_spec (ws := wsJ7_copyOf_1904c) B.pre
  have hown : s.vm.findClass RJ7 = some m.cls := findClass_of_methodNamed B.named
  have hlocks : meth.locks = false := B.notSynchronized
  have hT := hI.2.2
  have hK := hT.K
  have hG := hI.B
  have hE : entryFrame m args 2 = entryFrame m ([.ref a, .int (nI n2)] : List Value).toArray 2 := by rw [hav]
  rw [hE]
  have hl := lv_entry ([.ref a, .int (nI n2)]) (n := 2) (Nat.le_of_ble_eq_true rfl)
  rw [lg_entry_eq]
  generalize (lg_sl ([.ref a, .int (nI n2)]) ++ List.replicate (2 - (lg_sl ([.ref a, .int (nI n2)])).length) Slot.unset).toArray = ls at hl ⊢
  have hl : lv_has ls 2 [(0, .ref a), (1, .int (nI n2))] := hl
  refine lv_aload_n hx hb dJ7_copyOf_1904c_0 rfl (lv_at hl 0 rfl) ?_
  refine lv_iload_n hx hb dJ7_copyOf_1904c_1 rfl (lv_at hl 1 rfl) ?_
  refine lv_aload_n hx hb dJ7_copyOf_1904c_2 rfl (lv_at hl 0 rfl) ?_
  have hrec : ∃ cell : Cell, s.heap[a]? = some cell ∧ cell.vm.isStatics = false ∧ s.vm.findClass "[Ljava/lang/Object;" = some cell.cls := by
    obtain ⟨ws, hL, hP, hD, hS, h0⟩ := hG
    obtain ⟨q0, hq0⟩ := (hL _ _).mp ha
    exact ⟨_, hP q0 _ hq0, rfl, va_nmO (hK.2 3 _ rfl).2 (by decide)⟩
  refine va_getC (C := "[Ljava/lang/Object;") hx hb (hml.trans hl.1.symm) hown (hts (.methodLink RJ7 86 ⟨"java/lang/Object", "getClass", "()Ljava/lang/Class;"⟩) (by decide +kernel)) (va_Dc.use hT.2.1.2.2.2) (hts (.selects "[Ljava/lang/Object;" ⟨"java/lang/Object", "getClass", "()Ljava/lang/Class;"⟩ ⟨"java/lang/Object", "getClass", "()Ljava/lang/Class;"⟩) (by decide +kernel)) (hts (.instanceMethod ⟨"java/lang/Object", "getClass", "()Ljava/lang/Class;"⟩) (by decide +kernel)) (hts (.native ⟨"java/lang/Object", "getClass", "()Ljava/lang/Class;"⟩) (by decide +kernel)) hT.2.1.2.2.1 hrec (Nat.le_of_ble_eq_true rfl) (Nat.le_of_ble_eq_true rfl) dJ7_copyOf_1904c_3 ?_
  refine gw_callq (va_runS (As := [.ref a, .int (nI n2), .ref K.2.2.2.2]) (rest := []) ⟨hx, hb, hml, hown, hts⟩ (c_copy3 l K M a cap n2 f ha h1 h2 hel) (va_cwS 3 hts gJ7_copyOf_1904c_J7_copyOf_6403c rfl rfl rfl (by decide +kernel) ⟨Nat.le_of_ble_eq_true rfl, Nat.le_of_ble_eq_true rfl⟩) (gw_preS hG hT) rfl rfl hl.1 rfl (lv_room (Nat.le_of_ble_eq_true rfl)) dJ7_copyOf_1904c_6 ⟨Nat.le_of_ble_eq_true rfl, Nat.le_of_ble_eq_true rfl⟩) hG (fun r_28 M_29 H locs hw hG => ?_)
  obtain ⟨q, rfl, hq, hw⟩ := hw
  exact gw_aret (v := some q) hx hb hr (Or.inr ⟨_, rfl⟩) hlocks hG hT (by omega) (by omega) dJ7_copyOf_1904c_9 ⟨q, rfl, hq, hw⟩

set_option maxHeartbeats 4000000 in
set_option maxRecDepth 100000 in
/-- grow(n), of a full array -/
theorem c_growA (l : Launch) (K : gw_C) (M : gw_M) (w a cap : Nat) (mc : Int32) (f : Nat → Option Nat) (hw0 : M w = some (.inr (0, [.int mc, .ref a, .int (nI cap)]))) (ha : M a = some (.inl (K.2.1 3, cap, .inr (.inr (.inr (.inr f)))))) (h1 : 10 ≤ cap) (h2 : cap ≤ 100) (hel : ael M cap f) : Met l yJx4a65c_grow_92f84 wsJx4a65c_grow_92f84 ({ frames := 3, cells := 1, slots := 150, locals := 70 } : Room) (va_Pc [.ref w, .int (nI (cap + 1))] (gw_I K M)) (va_Qq (fun r M1 => ∃ q, r = some q ∧ M q = none ∧ M1 = gw_up (gw_up M q (.inl (K.2.1 3, cap + cap / 2, .inr (.inr (.inr (.inr (va_cpy f (fun _ => none) 0 0 cap))))))) w (.inr (0, [.int mc, .ref q, .int (nI cap)]))) (gw_I K) (gw_A K)) 1 150 (gw_A K) := by
  refine Met.ofW (cc := cJx4a65c_grow_92f84) (maxL := 4) (ret := (some (.array (.object "java/lang/Object")))) (by decide) rfl ?_
  intro p e s m args below meth c s₁ B hml hv
  obtain ⟨hav, hI⟩ := hv
  have hx := B.exec
  have hb := B.bytes
  have hr := B.returns
  have hts := atoms_spec (ws := wsJx4a65c_grow_92f84) B.pre
  have hown : s.vm.findClass RJx4a65c = some m.cls := findClass_of_methodNamed B.named
  have hlocks : meth.locks = false := B.notSynchronized
  have hT := hI.2.2
  have hK := hT.K
  have hG := hI.B
  have hf9 := hts (.fieldLink RJx4a65c 9 "java/util/ArrayList" "elementData" "[Ljava/lang/Object;") (by decide +kernel)
  have hf39 := hts (.fieldLink RJx4a65c 39 "java/util/ArrayList" "DEFAULTCAPACITY_EMPTY_ELEMENTDATA" "[Ljava/lang/Object;") (by decide +kernel)
  have hinJx4a65c : ∀ w ∈ wsJx4a65c0, w ∈ wsJx4a65c_grow_92f84 := by decide +kernel
  have hE : entryFrame m args 4 = entryFrame m ([.ref w, .int (nI (cap + 1))] : List Value).toArray 4 := by rw [hav]
  rw [hE]
  have hl := lv_entry ([.ref w, .int (nI (cap + 1))]) (n := 4) (Nat.le_of_ble_eq_true rfl)
  rw [lg_entry_eq]
  generalize (lg_sl ([.ref w, .int (nI (cap + 1))]) ++ List.replicate (4 - (lg_sl ([.ref w, .int (nI (cap + 1))])).length) Slot.unset).toArray = ls at hl ⊢
  have hl : lv_has ls 4 [(0, .ref w), (1, .int (nI (cap + 1)))] := hl
  refine lv_aload_n hx hb dJx4a65c_grow_92f84_0 rfl (lv_at hl 0 rfl) ?_
  refine gw_get (ci := 0) (C := RJx4a65c) (T := TJx4a65c) (N := 3) hx hb hts hinJx4a65c hown hK hG hw0 rfl 1 (by decide) hf9 (fun _ h9 => h9) rfl dJx4a65c_grow_92f84_1 ?_
  refine gw_alen hx hb hK hG ha 3 rfl (v := nI cap) rfl dJx4a65c_grow_92f84_4 ?_
  refine lv_istore_n (lv' := [(2, .int (nI cap)), (0, .ref w), (1, .int (nI (cap + 1)))]) hx hb dJx4a65c_grow_92f84_5 rfl hl (by decide) rfl (fun ls hl => ?_)
  refine lv_iload_n hx hb dJx4a65c_grow_92f84_6 rfl (lv_at hl 0 rfl) ?_
  refine lv_if_gt hx hb (tgt := 20) dJx4a65c_grow_92f84_7 (by decide) (fun hc => ?_) (fun hc => ?_)
  · refine lv_iload_n hx hb dJx4a65c_grow_92f84_20 rfl (lv_at hl 0 rfl) ?_
    refine lv_iload_n hx hb dJx4a65c_grow_92f84_21 rfl (lv_at hl 2 rfl) ?_
    refine lv_iload_n hx hb dJx4a65c_grow_92f84_22 rfl (lv_at hl 0 rfl) ?_
    refine gw_isub hx hb (by omega) dJx4a65c_grow_92f84_23 ?_
    refine lv_iload_n hx hb dJx4a65c_grow_92f84_24 rfl (lv_at hl 0 rfl) ?_
    refine lv_iconst (v := nI 1) hx hb dJx4a65c_grow_92f84_25 (by decide) ?_
    refine lv_ishr hx hb dJx4a65c_grow_92f84_26 ?_
    have e9 : nI cap >>> (nI 1 &&& 31) = nI (cap / 2) := by have k := pk_shrN (n := cap) (by omega) (nI 1 &&& 31) 1 (by decide); rw [Nat.pow_one] at k; exact k
    refine gw_as e9 ?_
    have e8 : cap + 1 - cap = 1 := by omega
    rw [e8]
    refine gw_calli (va_runS (As := [.int (nI cap), .int (nI 1), .int (nI (cap / 2))]) (rest := []) ⟨hx, hb, hml, hown, hts⟩ (c_newlen l K M cap h1 (by omega)) (va_cwS 3 hts gJx4a65c_grow_92f84_J8_newLength_cabcc rfl rfl rfl (by decide +kernel) ⟨Nat.le_of_ble_eq_true rfl, Nat.le_of_ble_eq_true rfl⟩) (gw_preS hG hT) rfl rfl hl.1 rfl (lv_room (Nat.le_of_ble_eq_true rfl)) dJx4a65c_grow_92f84_27 ⟨Nat.le_of_ble_eq_true rfl, Nat.le_of_ble_eq_true rfl⟩) hG (fun r_30 M_31 H locs hw hG => ?_)
    rw [hw.1] at hG
    refine gw_as hw.2 ?_
    refine lv_istore_n (lv' := [(3, .int (nI (cap + cap / 2))), (2, .int (nI cap)), (0, .ref w), (1, .int (nI (cap + 1)))]) hx hb dJx4a65c_grow_92f84_30 rfl hl (by decide) rfl (fun ls hl => ?_)
    refine lv_aload_n hx hb dJx4a65c_grow_92f84_31 rfl (lv_at hl 2 rfl) ?_
    refine lv_aload_n hx hb dJx4a65c_grow_92f84_32 rfl (lv_at hl 2 rfl) ?_
    refine gw_get (ci := 0) (C := RJx4a65c) (T := TJx4a65c) (N := 3) hx hb hts hinJx4a65c hown hK hG hw0 rfl 1 (by decide) hf9 (fun _ h9 => h9) rfl dJx4a65c_grow_92f84_33 ?_
    refine lv_iload_n hx hb dJx4a65c_grow_92f84_36 rfl (lv_at hl 0 rfl) ?_
    refine gw_callq (va_runS (As := [.ref a, .int (nI (cap + cap / 2))]) (rest := [.ref w]) ⟨hx, hb, hml, hown, hts⟩ (c_copy2 l K M a cap (cap + cap / 2) f ha (by omega) (by omega) hel) (va_cwS 2 hts gJx4a65c_grow_92f84_J7_copyOf_1904c rfl rfl rfl (by decide +kernel) ⟨Nat.le_of_ble_eq_true rfl, Nat.le_of_ble_eq_true rfl⟩) (gw_preS hG hT) rfl rfl hl.1 rfl (lv_room (Nat.le_of_ble_eq_true rfl)) dJx4a65c_grow_92f84_37 ⟨Nat.le_of_ble_eq_true rfl, Nat.le_of_ble_eq_true rfl⟩) hG (fun r_32 M_33 H locs hw hG => ?_)
    obtain ⟨q, rfl, hq, hw⟩ := hw
    have hM_34 := hw
    have hwq : w ≠ q := gw_ne hq hw0
    have hw1 := (congrFun hw w).trans (gw_k hwq hw0)
    have hstk : ∀ x : Value, x = va_rf (some q) → x = .ref q := fun x h => h
    refine lv_dup_x1 hx hb dJx4a65c_grow_92f84_40 rfl rfl ?_
    refine gw_put (ci := 0) (v := .ref q) (ty := .array (.object "java/lang/Object")) (C := RJx4a65c) (T := TJx4a65c) (N := 3) hx hb hts hinJx4a65c tyJx4a65c tyJx4a65c_ok nmJx4a65c hown hK hG hw1 rfl 1 (by decide) hf9 (fun _ h9 => h9) rfl (by decide +kernel) rfl rfl (Nat.le_of_ble_eq_true rfl) dJx4a65c_grow_92f84_41 (fun H locs hG => ?_)
    obtain ⟨M_35, hM_36⟩ : ∃ M1 : gw_M, M1 = gw_up M_33 w (.inr (0, [.int mc, .ref q, .int (nI cap)])) := ⟨_, rfl⟩
    have hG : gw_B K M_35 s.heap H locs := by rw [hM_36]; exact hG
    have hc_37 : M_35 w = some (.inr (0, [.int mc, .ref q, .int (nI cap)])) := (congrFun hM_36 _).trans gw_s
    exact gw_aret (v := some q) hx hb hr (Or.inr ⟨_, rfl⟩) hlocks hG hT (by omega) (by omega) dJx4a65c_grow_92f84_44 ⟨q, rfl, hq, by rw [hM_36, hM_34]⟩
  · exact absurd (show (0 : Int32) < nI cap from nI_lt (a := 0) (by omega) (by omega)) hc

set_option maxHeartbeats 4000000 in
set_option maxRecDepth 100000 in
/-- grow(1), the first time -/
theorem c_growE (l : Launch) (K : gw_C) (M : gw_M) (w : Nat) (mc : Int32) (hw0 : M w = some (.inr (0, [.int mc, .ref K.2.2.2.1, .int (nI 0)]))) : Met l yJx4a65c_grow_92f84 wsJx4a65c_grow_92f84 ({ frames := 3, cells := 1, slots := 150, locals := 70 } : Room) (va_Pc [.ref w, .int (nI 1)] (gw_I K M)) (va_Qq (fun r M1 => ∃ q, r = some q ∧ M q = none ∧ M1 = gw_up (gw_up M q (.inl (K.2.1 3, 10, .inr (.inr (.inr (.inr (fun _ => none))))))) w (.inr (0, [.int mc, .ref q, .int (nI 0)]))) (gw_I K) (gw_A K)) 1 150 (gw_A K) := by
  refine Met.ofW (cc := cJx4a65c_grow_92f84) (maxL := 4) (ret := (some (.array (.object "java/lang/Object")))) (by decide) rfl ?_
  intro p e s m args below meth c s₁ B hml hv
  obtain ⟨hav, hI⟩ := hv
  have hx := B.exec
  have hb := B.bytes
  have hr := B.returns
  have hts := atoms_spec (ws := wsJx4a65c_grow_92f84) B.pre
  have hown : s.vm.findClass RJx4a65c = some m.cls := findClass_of_methodNamed B.named
  have hlocks : meth.locks = false := B.notSynchronized
  have hT := hI.2.2
  have hK := hT.K
  have hG := hI.B
  have hf9 := hts (.fieldLink RJx4a65c 9 "java/util/ArrayList" "elementData" "[Ljava/lang/Object;") (by decide +kernel)
  have hf39 := hts (.fieldLink RJx4a65c 39 "java/util/ArrayList" "DEFAULTCAPACITY_EMPTY_ELEMENTDATA" "[Ljava/lang/Object;") (by decide +kernel)
  have hinJx4a65c : ∀ w ∈ wsJx4a65c0, w ∈ wsJx4a65c_grow_92f84 := by decide +kernel
  have hE : entryFrame m args 4 = entryFrame m ([.ref w, .int (nI 1)] : List Value).toArray 4 := by rw [hav]
  rw [hE]
  have hl := lv_entry ([.ref w, .int (nI 1)]) (n := 4) (Nat.le_of_ble_eq_true rfl)
  rw [lg_entry_eq]
  generalize (lg_sl ([.ref w, .int (nI 1)]) ++ List.replicate (4 - (lg_sl ([.ref w, .int (nI 1)])).length) Slot.unset).toArray = ls at hl ⊢
  have hl : lv_has ls 4 [(0, .ref w), (1, .int (nI 1))] := hl
  refine lv_aload_n hx hb dJx4a65c_grow_92f84_0 rfl (lv_at hl 0 rfl) ?_
  refine gw_get (ci := 0) (C := RJx4a65c) (T := TJx4a65c) (N := 3) hx hb hts hinJx4a65c hown hK hG hw0 rfl 1 (by decide) hf9 (fun _ h9 => h9) rfl dJx4a65c_grow_92f84_1 ?_
  refine va_tlen (v := nI 0) hx hb hT.2.1.2.1.2 hG.S rfl dJx4a65c_grow_92f84_4 ?_
  refine lv_istore_n (lv' := [(2, .int (nI 0)), (0, .ref w), (1, .int (nI 1))]) hx hb dJx4a65c_grow_92f84_5 rfl hl (by decide) rfl (fun ls hl => ?_)
  refine lv_iload_n hx hb dJx4a65c_grow_92f84_6 rfl (lv_at hl 0 rfl) ?_
  refine lv_if_gt hx hb (tgt := 20) dJx4a65c_grow_92f84_7 (by decide) (fun hc => ?_) (fun hc => ?_)
  · exact absurd hc (by decide)
  · refine lv_aload_n hx hb dJx4a65c_grow_92f84_10 rfl (lv_at hl 1 rfl) ?_
    refine gw_get (ci := 0) (C := RJx4a65c) (T := TJx4a65c) (N := 3) hx hb hts hinJx4a65c hown hK hG hw0 rfl 1 (by decide) hf9 (fun _ h9 => h9) rfl dJx4a65c_grow_92f84_11 ?_
    refine va_gets (v := .ref K.2.2.2.1) hx hb hT.2.1.2.1.1 hG.S hown hf39 (fun _ h9 => h9) dJx4a65c_grow_92f84_14 ?_
    refine lv_acmp_eq (rx := some K.2.2.2.1) (ry := some K.2.2.2.1) (tgt := 45) hx hb dJx4a65c_grow_92f84_17 (by decide) (fun _ => ?_) (fun hc => absurd rfl hc)
    refine lv_aload_n hx hb dJx4a65c_grow_92f84_45 rfl (lv_at hl 1 rfl) ?_
    refine lv_bipush (v := nI 10) hx hb dJx4a65c_grow_92f84_46 (by decide) ?_
    refine lv_iload_n hx hb dJx4a65c_grow_92f84_48 rfl (lv_at hl 2 rfl) ?_
    refine va_mmax hx hb (hml.trans hl.1.symm) hown (hts (.methodLink RJx4a65c 79 Lib.Math.max.name) (by decide +kernel)) (hts (.static Lib.Math.max.name) (by decide +kernel)) (hts (.initialized "java/lang/Math") (by decide +kernel)) (hts (.code Lib.Math.max.name Lib.Math.max.code 2 (some .int)) (by decide +kernel)) (Nat.le_of_ble_eq_true rfl) (Nat.le_of_ble_eq_true rfl) (Nat.le_of_ble_eq_true rfl) (Nat.le_of_ble_eq_true rfl) dJx4a65c_grow_92f84_49 ?_
    have e9 : (if nI 10 < nI 1 then nI 1 else nI 10) = nI 10 := by decide
    refine gw_as e9 ?_
    refine gw_newq (C := "java/lang/Object") (n := nI 10) (N' := 10) hx hb hown (hts (.classLink RJx4a65c 7 "java/lang/Object") (by decide +kernel)) hT.2.2.2.2.2.1.2 hK hG 3 rfl (by decide) (by decide) (by decide) (Nat.le_of_ble_eq_true rfl) (Nat.le_of_ble_eq_true rfl) dJx4a65c_grow_92f84_52 (fun q H hq hG => ?_)
    obtain ⟨M_38, hM_39⟩ : ∃ M1 : gw_M, M1 = gw_up M q (.inl (K.2.1 3, 10, .inr (.inr (.inr (.inr (fun _ => none)))))) := ⟨_, rfl⟩
    have hG : gw_B K M_38 s.heap H [] := by rw [hM_39]; exact hG
    have hne_41 : w ≠ q := gw_ne hq hw0
    have hc_40 := (congrFun hM_39 w).trans (gw_k hne_41 hw0)
    have hc_42 : M_38 q = some (.inl (K.2.1 3, 10, .inr (.inr (.inr (.inr (fun _ => none)))))) := (congrFun hM_39 _).trans gw_s
    refine lv_dup_x1 hx hb dJx4a65c_grow_92f84_55 rfl rfl ?_
    refine gw_put (ci := 0) (v := .ref q) (ty := .array (.object "java/lang/Object")) (C := RJx4a65c) (T := TJx4a65c) (N := 3) hx hb hts hinJx4a65c tyJx4a65c tyJx4a65c_ok nmJx4a65c hown hK hG hc_40 rfl 1 (by decide) hf9 (fun _ h9 => h9) rfl (by decide +kernel) rfl rfl (Nat.le_of_ble_eq_true rfl) dJx4a65c_grow_92f84_56 (fun H locs hG => ?_)
    obtain ⟨M_43, hM_44⟩ : ∃ M1 : gw_M, M1 = gw_up M_38 w (.inr (0, [.int mc, .ref q, .int (nI 0)])) := ⟨_, rfl⟩
    have hG : gw_B K M_43 s.heap H locs := by rw [hM_44]; exact hG
    have hc_45 : M_43 w = some (.inr (0, [.int mc, .ref q, .int (nI 0)])) := (congrFun hM_44 _).trans gw_s
    have hc_46 := (congrFun hM_44 q).trans (gw_k (Ne.symm hne_41) hc_42)
    exact gw_aret (v := some q) hx hb hr (Or.inr ⟨_, rfl⟩) hlocks hG hT (by omega) (by omega) dJx4a65c_grow_92f84_59 ⟨q, rfl, hq, by rw [hM_44, hM_39]⟩

set_option maxHeartbeats 4000000 in
set_option maxRecDepth 100000 in
/-- grow() -/
theorem c_grow0A (l : Launch) (K : gw_C) (M : gw_M) (w a cap : Nat) (mc : Int32) (f : Nat → Option Nat) (hw0 : M w = some (.inr (0, [.int mc, .ref a, .int (nI cap)]))) (ha : M a = some (.inl (K.2.1 3, cap, .inr (.inr (.inr (.inr f)))))) (h1 : 10 ≤ cap) (h2 : cap ≤ 100) (hel : ael M cap f) : Met l yJx4a65c_grow_d5877 wsJx4a65c_grow_d5877 ({ frames := 4, cells := 1, slots := 150, locals := 93 } : Room) (va_Pc [.ref w] (gw_I K M)) (va_Qq (fun r M1 => ∃ q, r = some q ∧ M q = none ∧ M1 = gw_up (gw_up M q (.inl (K.2.1 3, cap + cap / 2, .inr (.inr (.inr (.inr (va_cpy f (fun _ => none) 0 0 cap))))))) w (.inr (0, [.int mc, .ref q, .int (nI cap)]))) (gw_I K) (gw_A K)) 1 150 (gw_A K) := by
  refine Met.ofW (cc := cJx4a65c_grow_d5877) (maxL := 1) (ret := (some (.array (.object "java/lang/Object")))) (by decide) rfl ?_
  intro p e s m args below meth c s₁ B hml hv
  obtain ⟨hav, hI⟩ := hv
  have hx := B.exec
  have hb := B.bytes
  have hr := B.returns
  have hts := atoms_spec (ws := wsJx4a65c_grow_d5877) B.pre
  have hown : s.vm.findClass RJx4a65c = some m.cls := findClass_of_methodNamed B.named
  have hlocks : meth.locks = false := B.notSynchronized
  have hT := hI.2.2
  have hK := hT.K
  have hG := hI.B
  have hf9 := hts (.fieldLink RJx4a65c 9 "java/util/ArrayList" "elementData" "[Ljava/lang/Object;") (by decide +kernel)
  have hf39 := hts (.fieldLink RJx4a65c 39 "java/util/ArrayList" "DEFAULTCAPACITY_EMPTY_ELEMENTDATA" "[Ljava/lang/Object;") (by decide +kernel)
  have hf48 := hts (.fieldLink RJx4a65c 48 "java/util/ArrayList" "size" "I") (by decide +kernel)
  have hinJx4a65c : ∀ w ∈ wsJx4a65c0, w ∈ wsJx4a65c_grow_d5877 := by decide +kernel
  have hE : entryFrame m args 1 = entryFrame m ([.ref w] : List Value).toArray 1 := by rw [hav]
  rw [hE]
  have hl := lv_entry ([.ref w]) (n := 1) (Nat.le_of_ble_eq_true rfl)
  rw [lg_entry_eq]
  generalize (lg_sl ([.ref w]) ++ List.replicate (1 - (lg_sl ([.ref w])).length) Slot.unset).toArray = ls at hl ⊢
  have hl : lv_has ls 1 [(0, .ref w)] := hl
  refine lv_aload_n hx hb dJx4a65c_grow_d5877_0 rfl (lv_at hl 0 rfl) ?_
  refine lv_aload_n hx hb dJx4a65c_grow_d5877_1 rfl (lv_at hl 0 rfl) ?_
  refine gw_get (ci := 0) (C := RJx4a65c) (T := TJx4a65c) (N := 3) hx hb hts hinJx4a65c hown hK hG hw0 rfl 2 (by decide) hf48 (fun _ h9 => h9) rfl dJx4a65c_grow_d5877_2 ?_
  refine lv_iconst (v := nI 1) hx hb dJx4a65c_grow_d5877_5 (by decide) ?_
  refine gw_iadd hx hb dJx4a65c_grow_d5877_6 ?_
  refine gw_callq (va_runV (As := [.int (nI (cap + 1))]) (rest := []) ⟨hx, hb, hml, hown, hts⟩ (c_growA l K M w a cap mc f hw0 ha h1 h2 hel) (cwV 1 hts gJx4a65c_grow_d5877_Jx4a65c_grow_92f84 rfl rfl rfl (by decide +kernel) ⟨Nat.le_of_ble_eq_true rfl, Nat.le_of_ble_eq_true rfl⟩) (gw_preV hG hT hw0 rfl) rfl rfl hl.1 rfl (lv_room (Nat.le_of_ble_eq_true rfl)) dJx4a65c_grow_d5877_7 ⟨Nat.le_of_ble_eq_true rfl, Nat.le_of_ble_eq_true rfl⟩) hG (fun r_47 M_48 H locs hw hG => ?_)
  obtain ⟨q, rfl, hq, hw⟩ := hw
  exact gw_aret (v := some q) hx hb hr (Or.inr ⟨_, rfl⟩) hlocks hG hT (by omega) (by omega) dJx4a65c_grow_d5877_10 ⟨q, rfl, hq, hw⟩

set_option maxHeartbeats 4000000 in
set_option maxRecDepth 100000 in
/-- grow() -/
theorem c_grow0E (l : Launch) (K : gw_C) (M : gw_M) (w : Nat) (mc : Int32) (hw0 : M w = some (.inr (0, [.int mc, .ref K.2.2.2.1, .int (nI 0)]))) : Met l yJx4a65c_grow_d5877 wsJx4a65c_grow_d5877 ({ frames := 4, cells := 1, slots := 150, locals := 93 } : Room) (va_Pc [.ref w] (gw_I K M)) (va_Qq (fun r M1 => ∃ q, r = some q ∧ M q = none ∧ M1 = gw_up (gw_up M q (.inl (K.2.1 3, 10, .inr (.inr (.inr (.inr (fun _ => none))))))) w (.inr (0, [.int mc, .ref q, .int (nI 0)]))) (gw_I K) (gw_A K)) 1 150 (gw_A K) := by
  refine Met.ofW (cc := cJx4a65c_grow_d5877) (maxL := 1) (ret := (some (.array (.object "java/lang/Object")))) (by decide) rfl ?_
  intro p e s m args below meth c s₁ B hml hv
  obtain ⟨hav, hI⟩ := hv
  have hx := B.exec
  have hb := B.bytes
  have hr := B.returns
  have hts := atoms_spec (ws := wsJx4a65c_grow_d5877) B.pre
  have hown : s.vm.findClass RJx4a65c = some m.cls := findClass_of_methodNamed B.named
  have hlocks : meth.locks = false := B.notSynchronized
  have hT := hI.2.2
  have hK := hT.K
  have hG := hI.B
  have hf9 := hts (.fieldLink RJx4a65c 9 "java/util/ArrayList" "elementData" "[Ljava/lang/Object;") (by decide +kernel)
  have hf39 := hts (.fieldLink RJx4a65c 39 "java/util/ArrayList" "DEFAULTCAPACITY_EMPTY_ELEMENTDATA" "[Ljava/lang/Object;") (by decide +kernel)
  have hf48 := hts (.fieldLink RJx4a65c 48 "java/util/ArrayList" "size" "I") (by decide +kernel)
  have hinJx4a65c : ∀ w ∈ wsJx4a65c0, w ∈ wsJx4a65c_grow_d5877 := by decide +kernel
  have hE : entryFrame m args 1 = entryFrame m ([.ref w] : List Value).toArray 1 := by rw [hav]
  rw [hE]
  have hl := lv_entry ([.ref w]) (n := 1) (Nat.le_of_ble_eq_true rfl)
  rw [lg_entry_eq]
  generalize (lg_sl ([.ref w]) ++ List.replicate (1 - (lg_sl ([.ref w])).length) Slot.unset).toArray = ls at hl ⊢
  have hl : lv_has ls 1 [(0, .ref w)] := hl
  refine lv_aload_n hx hb dJx4a65c_grow_d5877_0 rfl (lv_at hl 0 rfl) ?_
  refine lv_aload_n hx hb dJx4a65c_grow_d5877_1 rfl (lv_at hl 0 rfl) ?_
  refine gw_get (ci := 0) (C := RJx4a65c) (T := TJx4a65c) (N := 3) hx hb hts hinJx4a65c hown hK hG hw0 rfl 2 (by decide) hf48 (fun _ h9 => h9) rfl dJx4a65c_grow_d5877_2 ?_
  refine lv_iconst (v := nI 1) hx hb dJx4a65c_grow_d5877_5 (by decide) ?_
  refine gw_iadd hx hb dJx4a65c_grow_d5877_6 ?_
  rw [show (0 : Nat) + 1 = 1 from rfl]
  refine gw_callq (va_runV (As := [.int (nI 1)]) (rest := []) ⟨hx, hb, hml, hown, hts⟩ (c_growE l K M w mc hw0) (cwV 1 hts gJx4a65c_grow_d5877_Jx4a65c_grow_92f84 rfl rfl rfl (by decide +kernel) ⟨Nat.le_of_ble_eq_true rfl, Nat.le_of_ble_eq_true rfl⟩) (gw_preV hG hT hw0 rfl) rfl rfl hl.1 rfl (lv_room (Nat.le_of_ble_eq_true rfl)) dJx4a65c_grow_d5877_7 ⟨Nat.le_of_ble_eq_true rfl, Nat.le_of_ble_eq_true rfl⟩) hG (fun r_49 M_50 H locs hw hG => ?_)
  obtain ⟨q, rfl, hq, hw⟩ := hw
  exact gw_aret (v := some q) hx hb hr (Or.inr ⟨_, rfl⟩) hlocks hG hT (by omega) (by omega) dJx4a65c_grow_d5877_10 ⟨q, rfl, hq, hw⟩

/-- what add has done to a list -/
def aladd (K : gw_C) (M M1 : gw_M) (w a sz : Nat) (mc : Int32) (f : Nat → Option Nat) (y : Nat) : Prop :=
  ∃ (a1 cap1 : Nat) (f1 : Nat → Option Nat), al K M1 w a1 cap1 (sz + 1) mc f1 ∧ (∀ k, k < sz → f1 k = f k) ∧ f1 sz = some y ∧ (a1 = a ∨ M a1 = none) ∧ ∀ q e, q ≠ w → q ≠ a → M q = some e → M1 q = some e

set_option maxHeartbeats 4000000 in
set_option maxRecDepth 100000 in
/-- add(e, es, s) -/
theorem c_add2 (l : Launch) (K : gw_C) (M : gw_M) (w a cap sz : Nat) (mc : Int32) (f : Nat → Option Nat) (y : Nat) (vs : List Value) (hal : al K M w a cap sz mc f) (hel : ael M sz f) (hy : M y = some (.inr (2, vs))) (hs9 : sz < 100) : Met l yJx4a65c_add_72be8 wsJx4a65c_add_72be8 ({ frames := 5, cells := 1, slots := 150, locals := 113 } : Room) (va_Pc [.ref w, .ref y, .ref a, .int (nI sz)] (gw_I K M)) (va_Qv (fun M1 => aladd K M M1 w a sz mc f y) (gw_I K) (gw_A K)) 1 150 (gw_A K) := by
  refine Met.ofW (cc := cJx4a65c_add_72be8) (maxL := 4) (ret := none) (by decide) rfl ?_
  intro p e s m args below meth c s₁ B hml hv
  obtain ⟨hav, hI⟩ := hv
  have hx := B.exec
  have hb := B.bytes
  have hr := B.returns
  have hts := atoms_spec (ws := wsJx4a65c_add_72be8) B.pre
  have hown : s.vm.findClass RJx4a65c = some m.cls := findClass_of_methodNamed B.named
  have hlocks : meth.locks = false := B.notSynchronized
  have hT := hI.2.2
  have hK := hT.K
  have hG := hI.B
  have hf9 := hts (.fieldLink RJx4a65c 9 "java/util/ArrayList" "elementData" "[Ljava/lang/Object;") (by decide +kernel)
  have hf39 := hts (.fieldLink RJx4a65c 39 "java/util/ArrayList" "DEFAULTCAPACITY_EMPTY_ELEMENTDATA" "[Ljava/lang/Object;") (by decide +kernel)
  have hf48 := hts (.fieldLink RJx4a65c 48 "java/util/ArrayList" "size" "I") (by decide +kernel)
  have hinJx4a65c : ∀ w ∈ wsJx4a65c0, w ∈ wsJx4a65c_add_72be8 := by decide +kernel
  have hE : entryFrame m args 4 = entryFrame m ([.ref w, .ref y, .ref a, .int (nI sz)] : List Value).toArray 4 := by rw [hav]
  rw [hE]
  have hl := lv_entry ([.ref w, .ref y, .ref a, .int (nI sz)]) (n := 4) (Nat.le_of_ble_eq_true rfl)
  rw [lg_entry_eq]
  generalize (lg_sl ([.ref w, .ref y, .ref a, .int (nI sz)]) ++ List.replicate (4 - (lg_sl ([.ref w, .ref y, .ref a, .int (nI sz)])).length) Slot.unset).toArray = ls at hl ⊢
  have hl : lv_has ls 4 [(0, .ref w), (1, .ref y), (2, .ref a), (3, .int (nI sz))] := hl
  obtain ⟨hw0, hs, hcase⟩ := id hal
  rcases hcase with ⟨ea, ec, es⟩ | ⟨ha, h1, h2, h3⟩
  · subst es
    rw [ea] at hl
    rw [ea] at hw0
    refine lv_iload_n hx hb dJx4a65c_add_72be8_0 rfl (lv_at hl 3 rfl) ?_
    refine lv_aload_n hx hb dJx4a65c_add_72be8_1 rfl (lv_at hl 2 rfl) ?_
    refine va_tlen (v := nI 0) hx hb hT.2.1.2.1.2 hG.S rfl dJx4a65c_add_72be8_2 ?_
    refine gw_icmp_ne hx hb (by omega) (by omega) (tgt := 11) dJx4a65c_add_72be8_3 (by decide) (fun hc => ?_) (fun hc => ?_)
    · exact absurd hc (by omega)
    · refine lv_aload_n hx hb dJx4a65c_add_72be8_6 rfl (lv_at hl 0 rfl) ?_
      refine gw_callq (va_runV (As := []) (rest := []) ⟨hx, hb, hml, hown, hts⟩ (c_grow0E l K M w mc hw0) (cwV 0 hts gJx4a65c_add_72be8_Jx4a65c_grow_d5877 rfl rfl rfl (by decide +kernel) ⟨Nat.le_of_ble_eq_true rfl, Nat.le_of_ble_eq_true rfl⟩) (gw_preV hG hT hw0 rfl) rfl rfl hl.1 rfl (lv_room (Nat.le_of_ble_eq_true rfl)) dJx4a65c_add_72be8_7 ⟨Nat.le_of_ble_eq_true rfl, Nat.le_of_ble_eq_true rfl⟩) hG (fun r_51 M_52 H locs hw hG => ?_)
      obtain ⟨q, rfl, hq, hw⟩ := hw
      have hwq : w ≠ q := gw_ne hq hw0
      have hyq : y ≠ q := gw_ne hq hy
      have hyw : y ≠ w := fun z => by rw [z, hw0] at hy; cases hy
      have hcq := (congrFun hw q).trans (gw_k (Ne.symm hwq) gw_s)
      have hcw := (congrFun hw w).trans gw_s
      have hcy := (congrFun hw y).trans (gw_k hyw (gw_k hyq hy))
      have hw9 := hw
      refine W.widen (k := 1) (n := 150) (by omega) (by omega) ?_
      refine lv_astore_n (lv' := [(2, .ref q), (0, .ref w), (1, .ref y), (3, .int (nI 0))]) hx hb dJx4a65c_add_72be8_10 rfl hl (by decide) rfl (fun ls hl => ?_)
      refine lv_aload_n hx hb dJx4a65c_add_72be8_11 rfl (lv_at hl 0 rfl) ?_
      refine lv_iload_n hx hb dJx4a65c_add_72be8_12 rfl (lv_at hl 3 rfl) ?_
      refine lv_aload_n hx hb dJx4a65c_add_72be8_13 rfl (lv_at hl 2 rfl) ?_
      refine gw_astq_n (r := (RX1, TX1, 3)) hx hb hK hG hcq 3 rfl hT.2.2.2.2.1.2 2 hcy rfl (by omega) (by omega) dJx4a65c_add_72be8_14 (fun H locs hG => ?_)
      obtain ⟨M_53, hM_54⟩ : ∃ M1 : gw_M, M1 = gw_up M_52 q (.inl (K.2.1 3, 10, .inr (.inr (.inr (.inr (va_up (fun _ => none) 0 (some y))))))) := ⟨_, rfl⟩
      have hG : gw_B K M_53 s.heap H locs := by rw [hM_54]; exact hG
      have hc_55 : M_53 q = some (.inl (K.2.1 3, 10, .inr (.inr (.inr (.inr (va_up (fun _ => none) 0 (some y))))))) := (congrFun hM_54 _).trans gw_s
      have hc_56 := (congrFun hM_54 w).trans (gw_k hwq hcw)
      have hc_57 := (congrFun hM_54 y).trans (gw_k hyq hcy)
      refine lv_aload_n hx hb dJx4a65c_add_72be8_15 rfl (lv_at hl 1 rfl) ?_
      refine lv_iload_n hx hb dJx4a65c_add_72be8_16 rfl (lv_at hl 3 rfl) ?_
      refine lv_iconst (v := nI 1) hx hb dJx4a65c_add_72be8_17 (by decide) ?_
      refine gw_iadd hx hb dJx4a65c_add_72be8_18 ?_
      refine gw_put (ci := 0) (v := .int (nI (0 + 1))) (ty := .int) (C := RJx4a65c) (T := TJx4a65c) (N := 3) hx hb hts hinJx4a65c tyJx4a65c tyJx4a65c_ok nmJx4a65c hown hK hG hc_56 rfl 2 (by decide) hf48 (fun _ h9 => h9) rfl (by decide +kernel) rfl rfl (Nat.le_of_ble_eq_true rfl) dJx4a65c_add_72be8_19 (fun H locs hG => ?_)
      obtain ⟨M_58, hM_59⟩ : ∃ M1 : gw_M, M1 = gw_up M_53 w (.inr (0, [.int mc, .ref q, .int (nI (0 + 1))])) := ⟨_, rfl⟩
      have hG : gw_B K M_58 s.heap H locs := by rw [hM_59]; exact hG
      have hc_60 := (congrFun hM_59 q).trans (gw_k (Ne.symm hwq) hc_55)
      have hc_61 : M_58 w = some (.inr (0, [.int mc, .ref q, .int (nI (0 + 1))])) := (congrFun hM_59 _).trans gw_s
      have hc_62 := (congrFun hM_59 y).trans (gw_k hyw hc_57)
      exact gw_vret hx hb hr hlocks hG hT (by omega) (by omega) dJx4a65c_add_72be8_22 ⟨q, 10, _, ⟨hc_61, by omega, Or.inr ⟨hc_60, by omega, by omega, by omega⟩⟩, fun k hk => absurd hk (by omega), va_up_self _ _ _, Or.inr hq, fun q9 e9 g1 g2 g3 => (congrFun hM_59 q9).trans (gw_k g1 ((congrFun hM_54 q9).trans (gw_k (gw_ne hq g3) ((congrFun hw9 q9).trans (gw_k g1 (gw_k (gw_ne hq g3) g3))))))⟩
  · have hwa : w ≠ a := gw_io hw0 ha
    have hya : y ≠ a := gw_io hy ha
    have hyw0 : y ≠ w := fun z => by rw [z, hw0] at hy; cases hy
    refine lv_iload_n hx hb dJx4a65c_add_72be8_0 rfl (lv_at hl 3 rfl) ?_
    refine lv_aload_n hx hb dJx4a65c_add_72be8_1 rfl (lv_at hl 2 rfl) ?_
    refine gw_alen hx hb hK hG ha 3 rfl (v := nI cap) rfl dJx4a65c_add_72be8_2 ?_
    refine gw_icmp_ne hx hb (by omega) (by omega) (tgt := 11) dJx4a65c_add_72be8_3 (by decide) (fun hc => ?_) (fun hc => ?_)
    · refine lv_aload_n hx hb dJx4a65c_add_72be8_11 rfl (lv_at hl 2 rfl) ?_
      refine lv_iload_n hx hb dJx4a65c_add_72be8_12 rfl (lv_at hl 3 rfl) ?_
      refine lv_aload_n hx hb dJx4a65c_add_72be8_13 rfl (lv_at hl 1 rfl) ?_
      refine gw_astq_n (r := (RX1, TX1, 3)) hx hb hK hG ha 3 rfl hT.2.2.2.2.1.2 2 hy rfl (by omega) (by omega) dJx4a65c_add_72be8_14 (fun H locs hG => ?_)
      obtain ⟨M_63, hM_64⟩ : ∃ M1 : gw_M, M1 = gw_up M a (.inl (K.2.1 3, cap, .inr (.inr (.inr (.inr (va_up f sz (some y))))))) := ⟨_, rfl⟩
      have hG : gw_B K M_63 s.heap H locs := by rw [hM_64]; exact hG
      have hc_65 := (congrFun hM_64 w).trans (gw_k hwa hw0)
      have hc_66 : M_63 a = some (.inl (K.2.1 3, cap, .inr (.inr (.inr (.inr (va_up f sz (some y))))))) := (congrFun hM_64 _).trans gw_s
      have hc_67 := (congrFun hM_64 y).trans (gw_k hya hy)
      refine lv_aload_n hx hb dJx4a65c_add_72be8_15 rfl (lv_at hl 0 rfl) ?_
      refine lv_iload_n hx hb dJx4a65c_add_72be8_16 rfl (lv_at hl 3 rfl) ?_
      refine lv_iconst (v := nI 1) hx hb dJx4a65c_add_72be8_17 (by decide) ?_
      refine gw_iadd hx hb dJx4a65c_add_72be8_18 ?_
      refine gw_put (ci := 0) (v := .int (nI (sz + 1))) (ty := .int) (C := RJx4a65c) (T := TJx4a65c) (N := 3) hx hb hts hinJx4a65c tyJx4a65c tyJx4a65c_ok nmJx4a65c hown hK hG hc_65 rfl 2 (by decide) hf48 (fun _ h9 => h9) rfl (by decide +kernel) rfl rfl (Nat.le_of_ble_eq_true rfl) dJx4a65c_add_72be8_19 (fun H locs hG => ?_)
      obtain ⟨M_68, hM_69⟩ : ∃ M1 : gw_M, M1 = gw_up M_63 w (.inr (0, [.int mc, .ref a, .int (nI (sz + 1))])) := ⟨_, rfl⟩
      have hG : gw_B K M_68 s.heap H locs := by rw [hM_69]; exact hG
      have hc_70 : M_68 w = some (.inr (0, [.int mc, .ref a, .int (nI (sz + 1))])) := (congrFun hM_69 _).trans gw_s
      have hc_71 := (congrFun hM_69 a).trans (gw_k (Ne.symm hwa) hc_66)
      have hc_72 := (congrFun hM_69 y).trans (gw_k hyw0 hc_67)
      exact gw_vret hx hb hr hlocks hG hT (by omega) (by omega) dJx4a65c_add_72be8_22 ⟨a, cap, _, ⟨hc_70, by omega, Or.inr ⟨hc_71, by omega, by omega, by omega⟩⟩, fun k hk => va_up_ne _ _ (by omega), va_up_self _ _ _, Or.inl rfl, fun q9 e9 g1 g2 g3 => (congrFun hM_69 q9).trans (gw_k g1 ((congrFun hM_64 q9).trans (gw_k g2 g3)))⟩
    · obtain rfl : sz = cap := hc
      refine lv_aload_n hx hb dJx4a65c_add_72be8_6 rfl (lv_at hl 0 rfl) ?_
      refine gw_callq (va_runV (As := []) (rest := []) ⟨hx, hb, hml, hown, hts⟩ (c_grow0A l K M w a sz mc f hw0 ha h2 (by omega) hel) (cwV 0 hts gJx4a65c_add_72be8_Jx4a65c_grow_d5877 rfl rfl rfl (by decide +kernel) ⟨Nat.le_of_ble_eq_true rfl, Nat.le_of_ble_eq_true rfl⟩) (gw_preV hG hT hw0 rfl) rfl rfl hl.1 rfl (lv_room (Nat.le_of_ble_eq_true rfl)) dJx4a65c_add_72be8_7 ⟨Nat.le_of_ble_eq_true rfl, Nat.le_of_ble_eq_true rfl⟩) hG (fun r_73 M_74 H locs hw hG => ?_)
      obtain ⟨q, rfl, hq, hw⟩ := hw
      have hwq : w ≠ q := gw_ne hq hw0
      have hyq : y ≠ q := gw_ne hq hy
      have hyw : y ≠ w := fun z => by rw [z, hw0] at hy; cases hy
      have hcq := (congrFun hw q).trans (gw_k (Ne.symm hwq) gw_s)
      have hcw := (congrFun hw w).trans gw_s
      have hcy := (congrFun hw y).trans (gw_k hyw (gw_k hyq hy))
      have hw9 := hw
      refine W.widen (k := 1) (n := 150) (by omega) (by omega) ?_
      refine lv_astore_n (lv' := [(2, .ref q), (0, .ref w), (1, .ref y), (3, .int (nI sz))]) hx hb dJx4a65c_add_72be8_10 rfl hl (by decide) rfl (fun ls hl => ?_)
      refine lv_aload_n hx hb dJx4a65c_add_72be8_11 rfl (lv_at hl 0 rfl) ?_
      refine lv_iload_n hx hb dJx4a65c_add_72be8_12 rfl (lv_at hl 3 rfl) ?_
      refine lv_aload_n hx hb dJx4a65c_add_72be8_13 rfl (lv_at hl 2 rfl) ?_
      refine gw_astq_n (r := (RX1, TX1, 3)) hx hb hK hG hcq 3 rfl hT.2.2.2.2.1.2 2 hcy rfl (by omega) (by omega) dJx4a65c_add_72be8_14 (fun H locs hG => ?_)
      obtain ⟨M_75, hM_76⟩ : ∃ M1 : gw_M, M1 = gw_up M_74 q (.inl (K.2.1 3, sz + sz / 2, .inr (.inr (.inr (.inr (va_up (va_cpy f (fun _ => none) 0 0 sz) sz (some y))))))) := ⟨_, rfl⟩
      have hG : gw_B K M_75 s.heap H locs := by rw [hM_76]; exact hG
      have hc_77 : M_75 q = some (.inl (K.2.1 3, sz + sz / 2, .inr (.inr (.inr (.inr (va_up (va_cpy f (fun _ => none) 0 0 sz) sz (some y))))))) := (congrFun hM_76 _).trans gw_s
      have hc_78 := (congrFun hM_76 w).trans (gw_k hwq hcw)
      have hc_79 := (congrFun hM_76 y).trans (gw_k hyq hcy)
      refine lv_aload_n hx hb dJx4a65c_add_72be8_15 rfl (lv_at hl 1 rfl) ?_
      refine lv_iload_n hx hb dJx4a65c_add_72be8_16 rfl (lv_at hl 3 rfl) ?_
      refine lv_iconst (v := nI 1) hx hb dJx4a65c_add_72be8_17 (by decide) ?_
      refine gw_iadd hx hb dJx4a65c_add_72be8_18 ?_
      refine gw_put (ci := 0) (v := .int (nI (sz + 1))) (ty := .int) (C := RJx4a65c) (T := TJx4a65c) (N := 3) hx hb hts hinJx4a65c tyJx4a65c tyJx4a65c_ok nmJx4a65c hown hK hG hc_78 rfl 2 (by decide) hf48 (fun _ h9 => h9) rfl (by decide +kernel) rfl rfl (Nat.le_of_ble_eq_true rfl) dJx4a65c_add_72be8_19 (fun H locs hG => ?_)
      obtain ⟨M_80, hM_81⟩ : ∃ M1 : gw_M, M1 = gw_up M_75 w (.inr (0, [.int mc, .ref q, .int (nI (sz + 1))])) := ⟨_, rfl⟩
      have hG : gw_B K M_80 s.heap H locs := by rw [hM_81]; exact hG
      have hc_82 := (congrFun hM_81 q).trans (gw_k (Ne.symm hwq) hc_77)
      have hc_83 : M_80 w = some (.inr (0, [.int mc, .ref q, .int (nI (sz + 1))])) := (congrFun hM_81 _).trans gw_s
      have hc_84 := (congrFun hM_81 y).trans (gw_k hyw hc_79)
      exact gw_vret hx hb hr hlocks hG hT (by omega) (by omega) dJx4a65c_add_72be8_22 ⟨q, sz + sz / 2, _, ⟨hc_83, by omega, Or.inr ⟨hc_82, by omega, by omega, by omega⟩⟩, fun k hk => by rw [va_up_ne _ _ (by omega), pk_cpy_in (by omega) (by omega), Nat.zero_add, Nat.sub_zero], va_up_self _ _ _, Or.inr hq, fun q9 e9 g1 g2 g3 => (congrFun hM_81 q9).trans (gw_k g1 ((congrFun hM_76 q9).trans (gw_k (gw_ne hq g3) ((congrFun hw9 q9).trans (gw_k g1 (gw_k (gw_ne hq g3) g3))))))⟩

set_option maxHeartbeats 4000000 in
set_option maxRecDepth 100000 in
/-- add(e) -/
theorem c_add1 (l : Launch) (K : gw_C) (M : gw_M) (w a cap sz : Nat) (mc : Int32) (f : Nat → Option Nat) (y : Nat) (vs : List Value) (hal : al K M w a cap sz mc f) (hel : ael M sz f) (hy : M y = some (.inr (2, vs))) (hs9 : sz < 100) : Met l yJx4a65c_add_9ea2d wsJx4a65c_add_9ea2d ({ frames := 6, cells := 1, slots := 150, locals := 136 } : Room) (va_Pc [.ref w, .ref y] (gw_I K M)) (va_Qi (fun r M1 => r = nI 1 ∧ aladd K M M1 w a sz (mc + nI 1) f y) (gw_I K) (gw_A K)) 1 150 (gw_A K) := by
  refine Met.ofW (cc := cJx4a65c_add_9ea2d) (maxL := 2) (ret := (some .boolean)) (by decide) rfl ?_
  intro p e s m args below meth c s₁ B hml hv
  obtain ⟨hav, hI⟩ := hv
  have hx := B.exec
  have hb := B.bytes
  have hr := B.returns
  have hts := atoms_spec (ws := wsJx4a65c_add_9ea2d) B.pre
  have hown : s.vm.findClass RJx4a65c = some m.cls := findClass_of_methodNamed B.named
  have hlocks : meth.locks = false := B.notSynchronized
  have hT := hI.2.2
  have hK := hT.K
  have hG := hI.B
  have hf9 := hts (.fieldLink RJx4a65c 9 "java/util/ArrayList" "elementData" "[Ljava/lang/Object;") (by decide +kernel)
  have hf39 := hts (.fieldLink RJx4a65c 39 "java/util/ArrayList" "DEFAULTCAPACITY_EMPTY_ELEMENTDATA" "[Ljava/lang/Object;") (by decide +kernel)
  have hf48 := hts (.fieldLink RJx4a65c 48 "java/util/ArrayList" "size" "I") (by decide +kernel)
  have hf63 := hts (.fieldLink RJx4a65c 63 "java/util/ArrayList" "modCount" "I") (by decide +kernel)
  have hinJx4a65c : ∀ w ∈ wsJx4a65c0, w ∈ wsJx4a65c_add_9ea2d := by decide +kernel
  have hE : entryFrame m args 2 = entryFrame m ([.ref w, .ref y] : List Value).toArray 2 := by rw [hav]
  rw [hE]
  have hl := lv_entry ([.ref w, .ref y]) (n := 2) (Nat.le_of_ble_eq_true rfl)
  rw [lg_entry_eq]
  generalize (lg_sl ([.ref w, .ref y]) ++ List.replicate (2 - (lg_sl ([.ref w, .ref y])).length) Slot.unset).toArray = ls at hl ⊢
  have hl : lv_has ls 2 [(0, .ref w), (1, .ref y)] := hl
  have hsf63 := hts (.sameField "java/util/ArrayList" "java/util/AbstractList" "modCount" "I") (by decide +kernel)
  obtain ⟨hw0, hs, hcase⟩ := id hal
  have hyw : y ≠ w := fun z => by rw [z, hw0] at hy; cases hy
  refine lv_aload_n hx hb dJx4a65c_add_9ea2d_0 rfl (lv_at hl 0 rfl) ?_
  refine lv_dup hx hb dJx4a65c_add_9ea2d_1 rfl ?_
  refine gw_get (ci := 0) (C := RJx4a65c) (T := TJx4a65c) (N := 3) hx hb hts hinJx4a65c hown hK hG hw0 rfl 0 (by decide) hf63 (fun x9 h9 => u_same hsf63 x9 h9) rfl dJx4a65c_add_9ea2d_2 ?_
  refine lv_iconst (v := nI 1) hx hb dJx4a65c_add_9ea2d_5 (by decide) ?_
  refine lv_iadd hx hb dJx4a65c_add_9ea2d_6 ?_
  refine gw_put (ci := 0) (v := .int (mc + (nI 1))) (ty := .int) (C := RJx4a65c) (T := TJx4a65c) (N := 3) hx hb hts hinJx4a65c tyJx4a65c tyJx4a65c_ok nmJx4a65c hown hK hG hw0 rfl 0 (by decide) hf63 (fun x9 h9 => u_same hsf63 x9 h9) rfl (by decide +kernel) rfl rfl (Nat.le_of_ble_eq_true rfl) dJx4a65c_add_9ea2d_7 (fun H locs hG => ?_)
  obtain ⟨M_85, hM_86⟩ : ∃ M1 : gw_M, M1 = gw_up M w (.inr (0, [.int (mc + (nI 1)), .ref a, .int (nI sz)])) := ⟨_, rfl⟩
  have hG : gw_B K M_85 s.heap H locs := by rw [hM_86]; exact hG
  have hc_87 : M_85 w = some (.inr (0, [.int (mc + (nI 1)), .ref a, .int (nI sz)])) := (congrFun hM_86 _).trans gw_s
  have hc_88 := (congrFun hM_86 y).trans (gw_k hyw hy)
  refine lv_aload_n hx hb dJx4a65c_add_9ea2d_10 rfl (lv_at hl 0 rfl) ?_
  refine lv_aload_n hx hb dJx4a65c_add_9ea2d_11 rfl (lv_at hl 1 rfl) ?_
  refine lv_aload_n hx hb dJx4a65c_add_9ea2d_12 rfl (lv_at hl 0 rfl) ?_
  refine gw_get (ci := 0) (C := RJx4a65c) (T := TJx4a65c) (N := 3) hx hb hts hinJx4a65c hown hK hG hc_87 rfl 1 (by decide) hf9 (fun _ h9 => h9) rfl dJx4a65c_add_9ea2d_13 ?_
  refine lv_aload_n hx hb dJx4a65c_add_9ea2d_16 rfl (lv_at hl 0 rfl) ?_
  refine gw_get (ci := 0) (C := RJx4a65c) (T := TJx4a65c) (N := 3) hx hb hts hinJx4a65c hown hK hG hc_87 rfl 2 (by decide) hf48 (fun _ h9 => h9) rfl dJx4a65c_add_9ea2d_17 ?_
  have hcw9 := (congrFun hM_86 w).trans gw_s
  have hal1 : al K M_85 w a cap sz (mc + nI 1) f := ⟨hc_87, hs, hcase.imp id (fun z => ⟨(congrFun hM_86 a).trans (gw_k (Ne.symm (gw_io hw0 z.1)) z.1), z.2⟩)⟩
  have hel1 : ael M_85 sz f := fun k hk => by obtain ⟨y9, v9, e1, e2⟩ := hel k hk; exact ⟨y9, v9, e1, (congrFun hM_86 y9).trans (gw_k (fun z => by rw [z, hw0] at e2; cases e2) e2)⟩
  refine gw_callv (va_runV (As := [.ref y, .ref a, .int (nI sz)]) (rest := []) ⟨hx, hb, hml, hown, hts⟩ (c_add2 l K M_85 w a cap sz (mc + nI 1) f y vs hal1 hel1 hc_88 hs9) (cwV 3 hts gJx4a65c_add_9ea2d_Jx4a65c_add_72be8 rfl rfl rfl (by decide +kernel) ⟨Nat.le_of_ble_eq_true rfl, Nat.le_of_ble_eq_true rfl⟩) (gw_preV hG hT hc_87 rfl) rfl rfl hl.1 rfl (lv_room (Nat.le_of_ble_eq_true rfl)) dJx4a65c_add_9ea2d_20 ⟨Nat.le_of_ble_eq_true rfl, Nat.le_of_ble_eq_true rfl⟩) hG (fun M_90 H locs hw hG => ?_)
  obtain ⟨a1, cap1, f1, k1, k2, k3, k4, k5⟩ := hw
  refine lv_iconst (v := nI 1) hx hb dJx4a65c_add_9ea2d_23 (by decide) ?_
  have k4b : a1 = a ∨ M a1 = none := k4.imp id (fun z => by cases hz : M a1 with | none => rfl | some e9 => exact absurd (((congrFun hM_86 a1).trans (gw_k (fun q => by rw [q, hcw9] at z; cases z) hz)).symm.trans z) (by simp))
  exact gw_zret hx hb hr hlocks hG hT (by omega) (by omega) dJx4a65c_add_9ea2d_24 (Or.inr (by decide)) ⟨rfl, a1, cap1, f1, k1, k2, k3, k4b, fun q e9 g1 g2 g3 => k5 q e9 g1 g2 ((congrFun hM_86 q).trans (gw_k g1 g3))⟩
end
section
def alrem (K : gw_C) (M M1 : gw_M) (w a cap sz k : Nat) (mc : Int32) (f : Nat → Option Nat) : Prop :=
  ∃ f1 : Nat → Option Nat, al K M1 w a cap (sz - 1) mc f1 ∧ (∀ j, j < k → f1 j = f j) ∧ (∀ j, k ≤ j → j < sz - 1 → f1 j = f (j + 1)) ∧ ∀ q e, q ≠ w → q ≠ a → M q = some e → M1 q = some e
set_option maxHeartbeats 4000000 in
set_option maxRecDepth 100000 in
/-- fastRemove(es, i) -/
theorem c_frem (l : Launch) (K : gw_C) (M : gw_M) (w a cap sz : Nat) (mc : Int32) (f : Nat → Option Nat) (k : Nat) (hal : al K M w a cap sz mc f) (hel : ael M sz f) (hk : k < sz) : Met l yJx4a65c_fastRemove_b59b0 wsJx4a65c_fastRemove_b59b0 ({ frames := 1, cells := 0, slots := 0, locals := 26 } : Room) (va_Pc [.ref w, .ref a, .int (nI k)] (gw_I K M)) (va_Qv (fun M1 => alrem K M M1 w a cap sz k (mc + nI 1) f) (gw_I K) (gw_A K)) 0 0 (gw_A K) := by
  refine Met.ofW (cc := cJx4a65c_fastRemove_b59b0) (maxL := 4) (ret := none) (by decide) rfl ?_
  intro p e s m args below meth c s₁ B hml hv
  obtain ⟨hav, hI⟩ := hv
  have hx := B.exec
  have hb := B.bytes
  have hr := B.returns
  have hts := atoms_spec (ws := wsJx4a65c_fastRemove_b59b0) B.pre
  have hown : s.vm.findClass RJx4a65c = some m.cls := findClass_of_methodNamed B.named
  have hlocks : meth.locks = false := B.notSynchronized
  have hT := hI.2.2
  have hK := hT.K
  have hG := hI.B
  have hf48 := hts (.fieldLink RJx4a65c 48 "java/util/ArrayList" "size" "I") (by decide +kernel)
  have hf63 := hts (.fieldLink RJx4a65c 63 "java/util/ArrayList" "modCount" "I") (by decide +kernel)
  have hinJx4a65c : ∀ w ∈ wsJx4a65c0, w ∈ wsJx4a65c_fastRemove_b59b0 := by decide +kernel
  have hE : entryFrame m args 4 = entryFrame m ([.ref w, .ref a, .int (nI k)] : List Value).toArray 4 := by rw [hav]
  rw [hE]
  have hl := lv_entry ([.ref w, .ref a, .int (nI k)]) (n := 4) (Nat.le_of_ble_eq_true rfl)
  rw [lg_entry_eq]
  generalize (lg_sl ([.ref w, .ref a, .int (nI k)]) ++ List.replicate (4 - (lg_sl ([.ref w, .ref a, .int (nI k)])).length) Slot.unset).toArray = ls at hl ⊢
  have hl : lv_has ls 4 [(0, .ref w), (1, .ref a), (2, .int (nI k))] := hl
  have hsf63 := hts (.sameField "java/util/ArrayList" "java/util/AbstractList" "modCount" "I") (by decide +kernel)
  obtain ⟨hw0, hs, hd9 | ⟨ha, h1, h2, h3⟩⟩ := id hal
  · exact absurd hk (by omega)
  have hwa : w ≠ a := gw_io hw0 ha
  refine lv_aload_n hx hb dJx4a65c_fastRemove_b59b0_0 rfl (lv_at hl 0 rfl) ?_
  refine lv_dup hx hb dJx4a65c_fastRemove_b59b0_1 rfl ?_
  refine gw_get (ci := 0) (C := RJx4a65c) (T := TJx4a65c) (N := 3) hx hb hts hinJx4a65c hown hK hG hw0 rfl 0 (by decide) hf63 (fun x9 h9 => u_same hsf63 x9 h9) rfl dJx4a65c_fastRemove_b59b0_2 ?_
  refine lv_iconst (v := nI 1) hx hb dJx4a65c_fastRemove_b59b0_5 (by decide) ?_
  refine lv_iadd hx hb dJx4a65c_fastRemove_b59b0_6 ?_
  refine gw_put (ci := 0) (v := .int (mc + (nI 1))) (ty := .int) (C := RJx4a65c) (T := TJx4a65c) (N := 3) hx hb hts hinJx4a65c tyJx4a65c tyJx4a65c_ok nmJx4a65c hown hK hG hw0 rfl 0 (by decide) hf63 (fun x9 h9 => u_same hsf63 x9 h9) rfl (by decide +kernel) rfl rfl (Nat.le_of_ble_eq_true rfl) dJx4a65c_fastRemove_b59b0_7 (fun H locs hG => ?_)
  obtain ⟨M_91, hM_92⟩ : ∃ M1 : gw_M, M1 = gw_up M w (.inr (0, [.int (mc + (nI 1)), .ref a, .int (nI sz)])) := ⟨_, rfl⟩
  have hG : gw_B K M_91 s.heap H locs := by rw [hM_92]; exact hG
  have hc_93 : M_91 w = some (.inr (0, [.int (mc + (nI 1)), .ref a, .int (nI sz)])) := (congrFun hM_92 _).trans gw_s
  have hc_94 := (congrFun hM_92 a).trans (gw_k (Ne.symm hwa) ha)
  refine lv_aload_n hx hb dJx4a65c_fastRemove_b59b0_10 rfl (lv_at hl 0 rfl) ?_
  refine gw_get (ci := 0) (C := RJx4a65c) (T := TJx4a65c) (N := 3) hx hb hts hinJx4a65c hown hK hG hc_93 rfl 2 (by decide) hf48 (fun _ h9 => h9) rfl dJx4a65c_fastRemove_b59b0_11 ?_
  refine lv_iconst (v := nI 1) hx hb dJx4a65c_fastRemove_b59b0_14 (by decide) ?_
  refine gw_isub hx hb (by omega) dJx4a65c_fastRemove_b59b0_15 ?_
  refine lv_dup hx hb dJx4a65c_fastRemove_b59b0_16 rfl ?_
  refine lv_istore_n (lv' := [(3, .int (nI (sz - 1))), (0, .ref w), (1, .ref a), (2, .int (nI k))]) hx hb dJx4a65c_fastRemove_b59b0_17 rfl hl (by decide) rfl (fun ls hl => ?_)
  refine lv_iload_n hx hb dJx4a65c_fastRemove_b59b0_18 rfl (lv_at hl 3 rfl) ?_
  refine gw_icmp_le hx hb (by omega) (by omega) (tgt := 34) dJx4a65c_fastRemove_b59b0_19 (by decide) (fun hc => ?_) (fun hc => ?_)
  · refine lv_aload_n hx hb dJx4a65c_fastRemove_b59b0_34 rfl (lv_at hl 2 rfl) ?_
    refine lv_aload_n hx hb dJx4a65c_fastRemove_b59b0_35 rfl (lv_at hl 1 rfl) ?_
    refine lv_iload_n hx hb dJx4a65c_fastRemove_b59b0_36 rfl (lv_at hl 0 rfl) ?_
    refine lv_dup_x1 hx hb dJx4a65c_fastRemove_b59b0_37 rfl rfl ?_
    refine gw_put (ci := 0) (v := .int (nI (sz - 1))) (ty := .int) (C := RJx4a65c) (T := TJx4a65c) (N := 3) hx hb hts hinJx4a65c tyJx4a65c tyJx4a65c_ok nmJx4a65c hown hK hG hc_93 rfl 2 (by decide) hf48 (fun _ h9 => h9) rfl (by decide +kernel) rfl rfl (Nat.le_of_ble_eq_true rfl) dJx4a65c_fastRemove_b59b0_38 (fun H locs hG => ?_)
    obtain ⟨M_95, hM_96⟩ : ∃ M1 : gw_M, M1 = gw_up M_91 w (.inr (0, [.int (mc + (nI 1)), .ref a, .int (nI (sz - 1))])) := ⟨_, rfl⟩
    have hG : gw_B K M_95 s.heap H locs := by rw [hM_96]; exact hG
    have hc_97 : M_95 w = some (.inr (0, [.int (mc + (nI 1)), .ref a, .int (nI (sz - 1))])) := (congrFun hM_96 _).trans gw_s
    have hc_98 := (congrFun hM_96 a).trans (gw_k (Ne.symm hwa) hc_94)
    refine lv_null hx hb dJx4a65c_fastRemove_b59b0_41 ?_
    refine gw_astn_n hx hb hK hG hc_98 3 rfl (by omega) (by omega) dJx4a65c_fastRemove_b59b0_42 (fun H locs hG => ?_)
    obtain ⟨M_99, hM_100⟩ : ∃ M1 : gw_M, M1 = gw_up M_95 a (.inl (K.2.1 3, cap, .inr (.inr (.inr (.inr (va_up f (sz - 1) none)))))) := ⟨_, rfl⟩
    have hG : gw_B K M_99 s.heap H locs := by rw [hM_100]; exact hG
    have hc_101 := (congrFun hM_100 w).trans (gw_k hwa hc_97)
    have hc_102 : M_99 a = some (.inl (K.2.1 3, cap, .inr (.inr (.inr (.inr (va_up f (sz - 1) none)))))) := (congrFun hM_100 _).trans gw_s
    exact gw_vret hx hb hr hlocks hG hT (by omega) (by omega) dJx4a65c_fastRemove_b59b0_43 ⟨_, ⟨hc_101, by omega, Or.inr ⟨hc_102, by omega, h2, h3⟩⟩, fun j hj => va_up_ne _ _ (by omega), fun j h8 h9 => absurd h9 (by omega), fun q9 e9 g1 g2 g3 => (congrFun hM_100 q9).trans (gw_k g2 ((congrFun hM_96 q9).trans (gw_k g1 ((congrFun hM_92 q9).trans (gw_k g1 g3)))))⟩
  · refine lv_aload_n hx hb dJx4a65c_fastRemove_b59b0_22 rfl (lv_at hl 2 rfl) ?_
    refine lv_iload_n hx hb dJx4a65c_fastRemove_b59b0_23 rfl (lv_at hl 3 rfl) ?_
    refine lv_iconst (v := nI 1) hx hb dJx4a65c_fastRemove_b59b0_24 (by decide) ?_
    refine gw_iadd hx hb dJx4a65c_fastRemove_b59b0_25 ?_
    refine lv_aload_n hx hb dJx4a65c_fastRemove_b59b0_26 rfl (lv_at hl 2 rfl) ?_
    refine lv_iload_n hx hb dJx4a65c_fastRemove_b59b0_27 rfl (lv_at hl 3 rfl) ?_
    refine lv_iload_n hx hb dJx4a65c_fastRemove_b59b0_28 rfl (lv_at hl 0 rfl) ?_
    refine lv_iload_n hx hb dJx4a65c_fastRemove_b59b0_29 rfl (lv_at hl 3 rfl) ?_
    refine gw_isub hx hb (by omega) dJx4a65c_fastRemove_b59b0_30 ?_
    have hel9 : ∀ i : Nat, i < sz - 1 - k → ∀ y : Nat, f (k + 1 + i) = some y → va_Any "java/lang/Object" s H y := by
      intro i hi y hy
      obtain ⟨y9, vs, e1, e2⟩ := hel (k + 1 + i) (by omega)
      rw [e1] at hy
      rw [← Option.some.inj hy]
      exact gw_any (ci := 2) hK hG ((congrFun hM_92 y9).trans (gw_k (fun z => by rw [z, hw0] at e2; cases e2) e2)) rfl hT.2.2.2.2.1.2
    refine gw_copyq (sp := k + 1) (dp := k) (nn := sz - 1 - k) hx hb (hml.trans hl.1.symm) hown (hts (.methodLink RJx4a65c 112 arraycopyName) (by decide +kernel)) (hts (.native arraycopyName) (by decide +kernel)) (hts (.static arraycopyName) (by decide +kernel)) (hts (.initialized "java/lang/System") (by decide +kernel)) hK hG hc_94 hc_94 3 rfl (by omega) (by omega) (by omega) (by omega) hel9 (Nat.le_of_ble_eq_true rfl) (Nat.le_of_ble_eq_true rfl) dJx4a65c_fastRemove_b59b0_31 (fun H locs hG => ?_)
    obtain ⟨M_103, hM_104⟩ : ∃ M1 : gw_M, M1 = gw_up M_91 a (.inl (K.2.1 3, cap, .inr (.inr (.inr (.inr (va_cpy f f (k + 1) k (sz - 1 - k))))))) := ⟨_, rfl⟩
    have hG : gw_B K M_103 s.heap H locs := by rw [hM_104]; exact hG
    have hc_105 := (congrFun hM_104 w).trans (gw_k hwa hc_93)
    have hc_106 : M_103 a = some (.inl (K.2.1 3, cap, .inr (.inr (.inr (.inr (va_cpy f f (k + 1) k (sz - 1 - k))))))) := (congrFun hM_104 _).trans gw_s
    refine lv_aload_n hx hb dJx4a65c_fastRemove_b59b0_34 rfl (lv_at hl 2 rfl) ?_
    refine lv_aload_n hx hb dJx4a65c_fastRemove_b59b0_35 rfl (lv_at hl 1 rfl) ?_
    refine lv_iload_n hx hb dJx4a65c_fastRemove_b59b0_36 rfl (lv_at hl 0 rfl) ?_
    refine lv_dup_x1 hx hb dJx4a65c_fastRemove_b59b0_37 rfl rfl ?_
    refine gw_put (ci := 0) (v := .int (nI (sz - 1))) (ty := .int) (C := RJx4a65c) (T := TJx4a65c) (N := 3) hx hb hts hinJx4a65c tyJx4a65c tyJx4a65c_ok nmJx4a65c hown hK hG hc_105 rfl 2 (by decide) hf48 (fun _ h9 => h9) rfl (by decide +kernel) rfl rfl (Nat.le_of_ble_eq_true rfl) dJx4a65c_fastRemove_b59b0_38 (fun H locs hG => ?_)
    obtain ⟨M_107, hM_108⟩ : ∃ M1 : gw_M, M1 = gw_up M_103 w (.inr (0, [.int (mc + (nI 1)), .ref a, .int (nI (sz - 1))])) := ⟨_, rfl⟩
    have hG : gw_B K M_107 s.heap H locs := by rw [hM_108]; exact hG
    have hc_109 : M_107 w = some (.inr (0, [.int (mc + (nI 1)), .ref a, .int (nI (sz - 1))])) := (congrFun hM_108 _).trans gw_s
    have hc_110 := (congrFun hM_108 a).trans (gw_k (Ne.symm hwa) hc_106)
    refine lv_null hx hb dJx4a65c_fastRemove_b59b0_41 ?_
    refine gw_astn_n hx hb hK hG hc_110 3 rfl (by omega) (by omega) dJx4a65c_fastRemove_b59b0_42 (fun H locs hG => ?_)
    obtain ⟨M_111, hM_112⟩ : ∃ M1 : gw_M, M1 = gw_up M_107 a (.inl (K.2.1 3, cap, .inr (.inr (.inr (.inr (va_up (va_cpy f f (k + 1) k (sz - 1 - k)) (sz - 1) none)))))) := ⟨_, rfl⟩
    have hG : gw_B K M_111 s.heap H locs := by rw [hM_112]; exact hG
    have hc_113 := (congrFun hM_112 w).trans (gw_k hwa hc_109)
    have hc_114 : M_111 a = some (.inl (K.2.1 3, cap, .inr (.inr (.inr (.inr (va_up (va_cpy f f (k + 1) k (sz - 1 - k)) (sz - 1) none)))))) := (congrFun hM_112 _).trans gw_s
    exact gw_vret hx hb hr hlocks hG hT (by omega) (by omega) dJx4a65c_fastRemove_b59b0_43 ⟨_, ⟨hc_113, by omega, Or.inr ⟨hc_114, by omega, h2, h3⟩⟩, fun j hj => by rw [va_up_ne _ _ (by omega), pk_cpy_out (by omega)], fun j h8 h9 => by rw [va_up_ne _ _ (by omega), pk_cpy_in (by omega) (by omega)]; congr 1; omega, fun q9 e9 g1 g2 g3 => (congrFun hM_112 q9).trans (gw_k g2 ((congrFun hM_108 q9).trans (gw_k g1 ((congrFun hM_104 q9).trans (gw_k g2 ((congrFun hM_92 q9).trans (gw_k g1 g3)))))))⟩

set_option maxHeartbeats 4000000 in
set_option maxRecDepth 100000 in
/-- remove(i) -/
theorem c_alrem (l : Launch) (K : gw_C) (M : gw_M) (w a cap sz : Nat) (mc : Int32) (f : Nat → Option Nat) (k y : Nat) (hal : al K M w a cap sz mc f) (hel : ael M sz f) (hk : k < sz) (hy : f k = some y) : Met l yJx4a65c_remove_915e3 wsJx4a65c_remove_915e3 ({ frames := 2, cells := 0, slots := 0, locals := 49 } : Room) (va_Pc [.ref w, .int (nI k)] (gw_I K M)) (va_Qq (fun r M1 => r = some y ∧ alrem K M M1 w a cap sz k (mc + nI 1) f) (gw_I K) (gw_A K)) 0 0 (gw_A K) := by
  refine Met.ofW (cc := cJx4a65c_remove_915e3) (maxL := 4) (ret := (some (.object "java/lang/Object"))) (by decide) rfl ?_
  intro p e s m args below meth c s₁ B hml hv
  obtain ⟨hav, hI⟩ := hv
  have hx := B.exec
  have hb := B.bytes
  have hr := B.returns
  have hts := atoms_spec (ws := wsJx4a65c_remove_915e3) B.pre
  have hown : s.vm.findClass RJx4a65c = some m.cls := findClass_of_methodNamed B.named
  have hlocks : meth.locks = false := B.notSynchronized
  have hT := hI.2.2
  have hK := hT.K
  have hG := hI.B
  have hf9 := hts (.fieldLink RJx4a65c 9 "java/util/ArrayList" "elementData" "[Ljava/lang/Object;") (by decide +kernel)
  have hf48 := hts (.fieldLink RJx4a65c 48 "java/util/ArrayList" "size" "I") (by decide +kernel)
  have hf63 := hts (.fieldLink RJx4a65c 63 "java/util/ArrayList" "modCount" "I") (by decide +kernel)
  have hinJx4a65c : ∀ w ∈ wsJx4a65c0, w ∈ wsJx4a65c_remove_915e3 := by decide +kernel
  have hE : entryFrame m args 4 = entryFrame m ([.ref w, .int (nI k)] : List Value).toArray 4 := by rw [hav]
  rw [hE]
  have hl := lv_entry ([.ref w, .int (nI k)]) (n := 4) (Nat.le_of_ble_eq_true rfl)
  rw [lg_entry_eq]
  generalize (lg_sl ([.ref w, .int (nI k)]) ++ List.replicate (4 - (lg_sl ([.ref w, .int (nI k)])).length) Slot.unset).toArray = ls at hl ⊢
  have hl : lv_has ls 4 [(0, .ref w), (1, .int (nI k))] := hl
  obtain ⟨hw0, hs, hd9 | ⟨ha, h1, h2, h3⟩⟩ := id hal
  · exact absurd hk (by omega)
  refine lv_iload_n hx hb dJx4a65c_remove_915e3_0 rfl (lv_at hl 1 rfl) ?_
  refine lv_aload_n hx hb dJx4a65c_remove_915e3_1 rfl (lv_at hl 0 rfl) ?_
  refine gw_get (ci := 0) (C := RJx4a65c) (T := TJx4a65c) (N := 3) hx hb hts hinJx4a65c hown hK hG hw0 rfl 2 (by decide) hf48 (fun _ h9 => h9) rfl dJx4a65c_remove_915e3_2 ?_
  refine gw_calli (va_runS (As := [.int (nI k), .int (nI sz)]) (rest := []) ⟨hx, hb, hml, hown, hts⟩ (c_ck l K M k sz hk (by omega)) (va_cwS 2 hts gJx4a65c_remove_915e3_J15_checkIndex_7cf53 rfl rfl rfl (by decide +kernel) ⟨Nat.le_of_ble_eq_true rfl, Nat.le_of_ble_eq_true rfl⟩) (gw_preS hG hT) rfl rfl hl.1 rfl (lv_room (Nat.le_of_ble_eq_true rfl)) dJx4a65c_remove_915e3_5 ⟨Nat.le_of_ble_eq_true rfl, Nat.le_of_ble_eq_true rfl⟩) hG (fun r_115 M_116 H locs hw hG => ?_)
  rw [hw.1] at hG
  refine gw_as hw.2 ?_
  refine lv_pop hx hb dJx4a65c_remove_915e3_8 rfl ?_
  refine lv_aload_n hx hb dJx4a65c_remove_915e3_9 rfl (lv_at hl 0 rfl) ?_
  refine gw_get (ci := 0) (C := RJx4a65c) (T := TJx4a65c) (N := 3) hx hb hts hinJx4a65c hown hK hG hw0 rfl 1 (by decide) hf9 (fun _ h9 => h9) rfl dJx4a65c_remove_915e3_10 ?_
  refine lv_astore_n (lv' := [(2, .ref a), (0, .ref w), (1, .int (nI k))]) hx hb dJx4a65c_remove_915e3_13 rfl hl (by decide) rfl (fun ls hl => ?_)
  refine lv_aload_n hx hb dJx4a65c_remove_915e3_14 rfl (lv_at hl 0 rfl) ?_
  refine lv_iload_n hx hb dJx4a65c_remove_915e3_15 rfl (lv_at hl 2 rfl) ?_
  refine gw_aldq_n (v := some y) hx hb hK hG ha 3 rfl (by omega) (by omega) hy dJx4a65c_remove_915e3_16 ?_
  refine lv_astore_n (lv' := [(3, .ref y), (2, .ref a), (0, .ref w), (1, .int (nI k))]) hx hb dJx4a65c_remove_915e3_17 rfl hl (by decide) rfl (fun ls hl => ?_)
  refine lv_aload_n hx hb dJx4a65c_remove_915e3_18 rfl (lv_at hl 2 rfl) ?_
  refine lv_aload_n hx hb dJx4a65c_remove_915e3_19 rfl (lv_at hl 1 rfl) ?_
  refine lv_iload_n hx hb dJx4a65c_remove_915e3_20 rfl (lv_at hl 3 rfl) ?_
  refine gw_callv (va_runV (As := [.ref a, .int (nI k)]) (rest := []) ⟨hx, hb, hml, hown, hts⟩ (c_frem l K M w a cap sz mc f k hal hel hk) (cwV 2 hts gJx4a65c_remove_915e3_Jx4a65c_fastRemove_b59b0 rfl rfl rfl (by decide +kernel) ⟨Nat.le_of_ble_eq_true rfl, Nat.le_of_ble_eq_true rfl⟩) (gw_preV hG hT hw0 rfl) rfl rfl hl.1 rfl (lv_room (Nat.le_of_ble_eq_true rfl)) dJx4a65c_remove_915e3_21 ⟨Nat.le_of_ble_eq_true rfl, Nat.le_of_ble_eq_true rfl⟩) hG (fun M_118 H locs hw hG => ?_)
  refine lv_aload_n hx hb dJx4a65c_remove_915e3_24 rfl (lv_at hl 0 rfl) ?_
  exact gw_aret (v := some y) hx hb hr (Or.inl ⟨_, rfl⟩) hlocks hG hT (by omega) (by omega) dJx4a65c_remove_915e3_25 ⟨rfl, hw⟩

set_option maxHeartbeats 4000000 in
set_option maxRecDepth 100000 in
/-- clear() -/
theorem c_alclear (l : Launch) (K : gw_C) (M : gw_M) (w a cap sz : Nat) (mc : Int32) (f : Nat → Option Nat) (hal : al K M w a cap sz mc f) : Met l yJx4a65c_clear_da8c8 wsJx4a65c_clear_da8c8 ({ frames := 0, cells := 0, slots := 0, locals := 0 } : Room) (va_Pc [.ref w] (gw_I K M)) (va_Qv (fun M1 => ∃ f1, al K M1 w a cap 0 (mc + nI 1) f1 ∧ ∀ q e, q ≠ w → q ≠ a → M q = some e → M1 q = some e) (gw_I K) (gw_A K)) 0 0 (gw_A K) := by
  refine Met.ofW (cc := cJx4a65c_clear_da8c8) (maxL := 4) (ret := none) (by decide) rfl ?_
  intro p e s m args below meth c s₁ B hml hv
  obtain ⟨hav, hI⟩ := hv
  have hx := B.exec
  have hb := B.bytes
  have hr := B.returns
  have hts := atoms_spec (ws := wsJx4a65c_clear_da8c8) B.pre
  have hown : s.vm.findClass RJx4a65c = some m.cls := findClass_of_methodNamed B.named
  have hlocks : meth.locks = false := B.notSynchronized
  have hT := hI.2.2
  have hK := hT.K
  have hG := hI.B
  have hf9 := hts (.fieldLink RJx4a65c 9 "java/util/ArrayList" "elementData" "[Ljava/lang/Object;") (by decide +kernel)
  have hf48 := hts (.fieldLink RJx4a65c 48 "java/util/ArrayList" "size" "I") (by decide +kernel)
  have hf63 := hts (.fieldLink RJx4a65c 63 "java/util/ArrayList" "modCount" "I") (by decide +kernel)
  have hinJx4a65c : ∀ w ∈ wsJx4a65c0, w ∈ wsJx4a65c_clear_da8c8 := by decide +kernel
  have hE : entryFrame m args 4 = entryFrame m ([.ref w] : List Value).toArray 4 := by rw [hav]
  rw [hE]
  have hl := lv_entry ([.ref w]) (n := 4) (Nat.le_of_ble_eq_true rfl)
  rw [lg_entry_eq]
  generalize (lg_sl ([.ref w]) ++ List.replicate (4 - (lg_sl ([.ref w])).length) Slot.unset).toArray = ls at hl ⊢
  have hl : lv_has ls 4 [(0, .ref w)] := hl
  have hsf63 := hts (.sameField "java/util/ArrayList" "java/util/AbstractList" "modCount" "I") (by decide +kernel)
  obtain ⟨hw0, hs, hcase⟩ := id hal
  refine lv_aload_n hx hb dJx4a65c_clear_da8c8_0 rfl (lv_at hl 0 rfl) ?_
  refine lv_dup hx hb dJx4a65c_clear_da8c8_1 rfl ?_
  refine gw_get (ci := 0) (C := RJx4a65c) (T := TJx4a65c) (N := 3) hx hb hts hinJx4a65c hown hK hG hw0 rfl 0 (by decide) hf63 (fun x9 h9 => u_same hsf63 x9 h9) rfl dJx4a65c_clear_da8c8_2 ?_
  refine lv_iconst (v := nI 1) hx hb dJx4a65c_clear_da8c8_5 (by decide) ?_
  refine lv_iadd hx hb dJx4a65c_clear_da8c8_6 ?_
  refine gw_put (ci := 0) (v := .int (mc + (nI 1))) (ty := .int) (C := RJx4a65c) (T := TJx4a65c) (N := 3) hx hb hts hinJx4a65c tyJx4a65c tyJx4a65c_ok nmJx4a65c hown hK hG hw0 rfl 0 (by decide) hf63 (fun x9 h9 => u_same hsf63 x9 h9) rfl (by decide +kernel) rfl rfl (Nat.le_of_ble_eq_true rfl) dJx4a65c_clear_da8c8_7 (fun H locs hG => ?_)
  obtain ⟨M_119, hM_120⟩ : ∃ M1 : gw_M, M1 = gw_up M w (.inr (0, [.int (mc + (nI 1)), .ref a, .int (nI sz)])) := ⟨_, rfl⟩
  have hG : gw_B K M_119 s.heap H locs := by rw [hM_120]; exact hG
  have hc_121 : M_119 w = some (.inr (0, [.int (mc + (nI 1)), .ref a, .int (nI sz)])) := (congrFun hM_120 _).trans gw_s
  refine lv_aload_n hx hb dJx4a65c_clear_da8c8_10 rfl (lv_at hl 0 rfl) ?_
  refine gw_get (ci := 0) (C := RJx4a65c) (T := TJx4a65c) (N := 3) hx hb hts hinJx4a65c hown hK hG hc_121 rfl 1 (by decide) hf9 (fun _ h9 => h9) rfl dJx4a65c_clear_da8c8_11 ?_
  refine lv_astore_n (lv' := [(1, .ref a), (0, .ref w)]) hx hb dJx4a65c_clear_da8c8_14 rfl hl (by decide) rfl (fun ls hl => ?_)
  refine lv_aload_n hx hb dJx4a65c_clear_da8c8_15 rfl (lv_at hl 1 rfl) ?_
  refine gw_get (ci := 0) (C := RJx4a65c) (T := TJx4a65c) (N := 3) hx hb hts hinJx4a65c hown hK hG hc_121 rfl 2 (by decide) hf48 (fun _ h9 => h9) rfl dJx4a65c_clear_da8c8_16 ?_
  refine lv_istore_n (lv' := [(2, .int (nI sz)), (1, .ref a), (0, .ref w)]) hx hb dJx4a65c_clear_da8c8_19 rfl hl (by decide) rfl (fun ls hl => ?_)
  refine lv_aload_n hx hb dJx4a65c_clear_da8c8_20 rfl (lv_at hl 2 rfl) ?_
  refine lv_iconst (v := nI 0) hx hb dJx4a65c_clear_da8c8_21 (by decide) ?_
  refine lv_dup_x1 hx hb dJx4a65c_clear_da8c8_22 rfl rfl ?_
  refine gw_put (ci := 0) (v := .int (nI 0)) (ty := .int) (C := RJx4a65c) (T := TJx4a65c) (N := 3) hx hb hts hinJx4a65c tyJx4a65c tyJx4a65c_ok nmJx4a65c hown hK hG hc_121 rfl 2 (by decide) hf48 (fun _ h9 => h9) rfl (by decide +kernel) rfl rfl (Nat.le_of_ble_eq_true rfl) dJx4a65c_clear_da8c8_23 (fun H locs hG => ?_)
  obtain ⟨M_122, hM_123⟩ : ∃ M1 : gw_M, M1 = gw_up M_119 w (.inr (0, [.int (mc + (nI 1)), .ref a, .int (nI 0)])) := ⟨_, rfl⟩
  have hG : gw_B K M_122 s.heap H locs := by rw [hM_123]; exact hG
  have hc_124 : M_122 w = some (.inr (0, [.int (mc + (nI 1)), .ref a, .int (nI 0)])) := (congrFun hM_123 _).trans gw_s
  refine lv_istore_n (lv' := [(3, .int (nI 0)), (2, .int (nI sz)), (1, .ref a), (0, .ref w)]) hx hb dJx4a65c_clear_da8c8_26 rfl hl (by decide) rfl (fun ls hl => ?_)
  have hloop : ∀ (n : Nat) (i : Nat), i ≤ sz → sz + 1 ≤ i + n → ∀ (Mi : gw_M), (∃ f1, (Mi w = some (.inr (0, [.int (mc + nI 1), .ref a, .int (nI 0)])) ∧ ((a = K.2.2.2.1 ∧ cap = 0 ∧ sz = 0) ∨ (Mi a = some (.inl (K.2.1 3, cap, .inr (.inr (.inr (.inr f1))))) ∧ sz ≤ cap ∧ 10 ≤ cap ∧ cap ≤ 150))) ∧ ∀ q e, q ≠ w → q ≠ a → M q = some e → Mi q = some e) → ∀ (H : Heap) (locs : List Loc), gw_B K Mi s.heap H locs → ∀ (ls : Array Slot), lv_has ls 4 [(3, .int (nI i)), (2, .int (nI sz)), (1, .ref a), (0, .ref w)] → W p l e ({ frames := 0, cells := 0, slots := 0, locals := 0 } : Room) s m args below meth c H locs 0 0 (MQ below (va_Qv (fun M1 => ∃ f1, al K M1 w a cap 0 (mc + nI 1) f1 ∧ ∀ q e, q ≠ w → q ≠ a → M q = some e → M1 q = some e) (gw_I K) (gw_A K)) args s 0 0 (gw_A K)) (F0 m 27 ls []) := by
    intro n
    induction n with
    | zero =>
      intro i hg0 hm
      exact absurd hm (by omega)
    | succ n ih =>
      intro i hg0 hm Mi hMi H locs hG ls hl
      obtain ⟨f1, ⟨z0, z1⟩, z2⟩ := hMi
      refine lv_iload_n hx hb dJx4a65c_clear_da8c8_27 rfl (lv_at hl 0 rfl) ?_
      refine lv_iload_n hx hb dJx4a65c_clear_da8c8_28 rfl (lv_at hl 1 rfl) ?_
      refine gw_icmp_ge hx hb (by omega) (by omega) (tgt := 42) dJx4a65c_clear_da8c8_29 (by decide) (fun hc => ?_) (fun hc => ?_)
      · exact gw_vret hx hb hr hlocks hG hT (by omega) (by omega) dJx4a65c_clear_da8c8_42 ⟨f1, ⟨z0, by omega, z1.imp (fun z => ⟨z.1, z.2.1, rfl⟩) (fun z => ⟨z.1, by omega, z.2.2.1, z.2.2.2⟩)⟩, z2⟩
      · rcases z1 with z1 | ⟨g0, g1, g2, g3⟩
        · exact absurd hc (by omega)
        have hwa : w ≠ a := gw_io z0 g0
        refine lv_aload_n hx hb dJx4a65c_clear_da8c8_32 rfl (lv_at hl 2 rfl) ?_
        refine lv_iload_n hx hb dJx4a65c_clear_da8c8_33 rfl (lv_at hl 0 rfl) ?_
        refine lv_null hx hb dJx4a65c_clear_da8c8_34 ?_
        refine gw_astn_n hx hb hK hG g0 3 rfl (by omega) (by omega) dJx4a65c_clear_da8c8_35 (fun H locs hG => ?_)
        obtain ⟨M_125, hM_126⟩ : ∃ M1 : gw_M, M1 = gw_up Mi a (.inl (K.2.1 3, cap, .inr (.inr (.inr (.inr (va_up f1 i none)))))) := ⟨_, rfl⟩
        have hG : gw_B K M_125 s.heap H locs := by rw [hM_126]; exact hG
        have hc_127 := (congrFun hM_126 w).trans (gw_k hwa z0)
        have hc_128 : M_125 a = some (.inl (K.2.1 3, cap, .inr (.inr (.inr (.inr (va_up f1 i none)))))) := (congrFun hM_126 _).trans gw_s
        refine lv_iinc (v := nI (i + 1)) (lv' := [(3, .int (nI (i + 1))), (2, .int (nI sz)), (1, .ref a), (0, .ref w)]) hx hb dJx4a65c_clear_da8c8_36 hl (k := 0) rfl (gw_inc _) (by decide) rfl (fun ls hl => ?_)
        refine lv_goto (tgt := 27) hx hb dJx4a65c_clear_da8c8_39 (by decide) ?_
        exact ih (i + 1) (by omega) (by omega) _ ⟨_, ⟨hc_127, Or.inr ⟨hc_128, g1, g2, g3⟩⟩, fun q e9 k1 k2 k3 => (congrFun hM_126 q).trans (gw_k k2 (z2 q e9 k1 k2 k3))⟩ _ _ hG ls (lv_sub hl [0, 1, 2, 3] rfl)
  exact hloop (sz + 1) 0 (by omega) (by omega) _ ⟨f, ⟨hc_124, hcase.imp id (fun z => ⟨(congrFun hM_123 a).trans (gw_k (Ne.symm (gw_io hw0 z.1)) ((congrFun hM_120 a).trans (gw_k (Ne.symm (gw_io hw0 z.1)) z.1))), z.2⟩)⟩, fun q e9 k1 k2 k3 => (congrFun hM_123 q).trans (gw_k k1 ((congrFun hM_120 q).trans (gw_k k1 k3)))⟩ _ _ hG ls (lv_sub hl [0, 1, 2, 3] rfl)
end
section
/-! THE CLASS'S GUARDS -/
def inN (x : Int32) (n : Nat) : Prop := ∃ k, k < n ∧ x = nI k
theorem inN_iff {x : Int32} {n : Nat} (hn : n < 2 ^ 31) : (¬ x < 0 ∧ x < nI n) ↔ inN x n := by
  constructor
  · rintro ⟨h0, h1⟩
    obtain ⟨k, hk, rfl⟩ := nI_of h0
    exact ⟨k, (nI_ltI hk hn).mp h1, rfl⟩
  · rintro ⟨k, hk, rfl⟩
    exact ⟨nI_pos (by omega), nI_lt hk hn⟩
/-- an IllegalArgumentException, nothing changed, because C -/
abbrev iae (M : gw_M) (C : Prop) : String → gw_M → Prop := fun E M1 => E = "java/lang/IllegalArgumentException" ∧ M1 = M ∧ C
set_option maxHeartbeats 4000000 in
set_option maxRecDepth 100000 in
/-- require -/
theorem c_require (l : Launch) (hnt : l.stackTraces = false) (K : gw_C) (M : gw_M) (b9 : Int32)  : vx_Met l yX2_require wsX2_require ({ frames := 6, cells := 1, slots := 6, locals := 81 } : Room) (va_Pc [.int b9] (gw_I K M)) (va_Qv (fun M1 => M1 = M ∧ ¬ b9 = 0) (gw_I K) (gw_A K)) (gw_X K (iae M (b9 = 0))) 1 6 (gw_A K) := by
  refine vx_ofW (cc := cX2_require) (maxL := 1) (ret := none) (by decide) rfl ?_
  intro p e s m args below meth c s₁ B hml hnone hv
  obtain ⟨hav, hI⟩ := hv
  have hx := B.exec
  have hb := B.bytes
  have hr := B.returns
  have hts := atoms_spec (ws := wsX2_require) B.pre
  have hown : s.vm.findClass RX2 = some m.cls := findClass_of_methodNamed B.named
  have hlocks : meth.locks = false := B.notSynchronized
  have hemp : c.exceptionTable.isEmpty = true := B.noHandlers (hts _ List.mem_cons_self)
  have hT := hI.2.2
  have hK := hT.K
  have hG := hI.B
  have hE : entryFrame m args 1 = entryFrame m ([.int b9] : List Value).toArray 1 := by rw [hav]
  rw [hE]
  have hl := lv_entry ([.int b9]) (n := 1) (Nat.le_of_ble_eq_true rfl)
  rw [lg_entry_eq]
  generalize (lg_sl ([.int b9]) ++ List.replicate (1 - (lg_sl ([.int b9])).length) Slot.unset).toArray = ls at hl ⊢
  have hl : lv_has ls 1 [(0, .int b9)] := hl
  refine lv_iload_n hx hb dX2_require_0 rfl (lv_at hl 0 rfl) ?_
  refine lv_if_ne hx hb (tgt := 12) dX2_require_1 (by decide) (fun hc => ?_) (fun hc => ?_)
  · refine vx_ret ?_
    exact gw_vret hx hb hr hlocks hG hT (by omega) (by omega) dX2_require_12 ⟨rfl, hc⟩
  · exact gw_throw0 hx hb hnt hown (by decide +kernel) (hts (.classLink RX2 131 "java/lang/IllegalArgumentException") (by decide +kernel)) (hts (.initialized "java/lang/IllegalArgumentException") (by decide +kernel)) (fun w9 h9 => hts w9 (List.mem_cons_of_mem _ (List.mem_append_right _ h9))) hT.2.2.2.1.1 hT hG (hl.1.trans hml.symm) (by decide +kernel) (by decide +kernel) dX2_require_4 dX2_require_7 dX2_require_8 dX2_require_11 hemp (Nat.le_of_ble_eq_true rfl) (Nat.le_of_ble_eq_true rfl) (Nat.le_of_ble_eq_true rfl) (Nat.le_of_ble_eq_true rfl) hlocks (by omega) (by omega) ⟨rfl, rfl, hc⟩

set_option maxHeartbeats 4000000 in
set_option maxRecDepth 100000 in
/-- requireIndex -/
theorem c_reqIx (l : Launch) (hnt : l.stackTraces = false) (K : gw_C) (M : gw_M) (x9 bd : Int32)  : vx_Met l yX2_requireIndex wsX2_requireIndex ({ frames := 7, cells := 1, slots := 6, locals := 101 } : Room) (va_Pc [.int x9, .int bd] (gw_I K M)) (va_Qv (fun M1 => M1 = M ∧ ¬ x9 < 0 ∧ x9 < bd) (gw_I K) (gw_A K)) (gw_X K (iae M (¬ (¬ x9 < 0 ∧ x9 < bd)))) 1 6 (gw_A K) := by
  refine vx_ofW (cc := cX2_requireIndex) (maxL := 2) (ret := none) (by decide) rfl ?_
  intro p e s m args below meth c s₁ B hml hnone hv
  obtain ⟨hav, hI⟩ := hv
  have hx := B.exec
  have hb := B.bytes
  have hr := B.returns
  have hts := atoms_spec (ws := wsX2_requireIndex) B.pre
  have hown : s.vm.findClass RX2 = some m.cls := findClass_of_methodNamed B.named
  have hlocks : meth.locks = false := B.notSynchronized
  have hemp : c.exceptionTable.isEmpty = true := B.noHandlers (hts _ List.mem_cons_self)
  have hT := hI.2.2
  have hK := hT.K
  have hG := hI.B
  have hE : entryFrame m args 2 = entryFrame m ([.int x9, .int bd] : List Value).toArray 2 := by rw [hav]
  rw [hE]
  have hl := lv_entry ([.int x9, .int bd]) (n := 2) (Nat.le_of_ble_eq_true rfl)
  rw [lg_entry_eq]
  generalize (lg_sl ([.int x9, .int bd]) ++ List.replicate (2 - (lg_sl ([.int x9, .int bd])).length) Slot.unset).toArray = ls at hl ⊢
  have hl : lv_has ls 2 [(0, .int x9), (1, .int bd)] := hl
  refine lv_iload_n hx hb dX2_requireIndex_0 rfl (lv_at hl 0 rfl) ?_
  refine lv_if_lt hx hb (tgt := 13) dX2_requireIndex_1 (by decide) (fun h1 => ?_) (fun h1 => ?_)
  · refine lv_iconst (v := nI 0) hx hb dX2_requireIndex_13 (by decide) ?_
    refine gw_xcallv (vx_runS (As := [.int (nI 0)]) (rest := []) ⟨hx, hb, hml, hown, hts⟩ (c_require l hnt K M (nI 0)) (va_cwS 1 hts gX2_requireIndex_X2_require rfl rfl rfl (by decide +kernel) ⟨Nat.le_of_ble_eq_true rfl, Nat.le_of_ble_eq_true rfl⟩) (gw_preS hG hT) rfl rfl hl.1 rfl (lv_room (Nat.le_of_ble_eq_true rfl)) dX2_requireIndex_14 ⟨Nat.le_of_ble_eq_true rfl, Nat.le_of_ble_eq_true rfl⟩) hG (fun E9 ce9 q9 M_2 H locs hw hG h7 h8 h9 => ?_) (fun M_2 H locs hw hG => ?_)
    · exact gw_out hemp hlocks hG hT h7 h8 h9 ⟨hw.1, hw.2.1, fun q => q.1 h1⟩ (by omega) (by omega)
    · exact absurd (by decide) hw.2
  · refine lv_iload_n hx hb dX2_requireIndex_4 rfl (lv_at hl 0 rfl) ?_
    refine lv_iload_n hx hb dX2_requireIndex_5 rfl (lv_at hl 1 rfl) ?_
    refine lv_icmp_ge hx hb (tgt := 13) dX2_requireIndex_6 (by decide) (fun h2 => ?_) (fun h2 => ?_)
    · refine lv_iconst (v := nI 0) hx hb dX2_requireIndex_13 (by decide) ?_
      refine gw_xcallv (vx_runS (As := [.int (nI 0)]) (rest := []) ⟨hx, hb, hml, hown, hts⟩ (c_require l hnt K M (nI 0)) (va_cwS 1 hts gX2_requireIndex_X2_require rfl rfl rfl (by decide +kernel) ⟨Nat.le_of_ble_eq_true rfl, Nat.le_of_ble_eq_true rfl⟩) (gw_preS hG hT) rfl rfl hl.1 rfl (lv_room (Nat.le_of_ble_eq_true rfl)) dX2_requireIndex_14 ⟨Nat.le_of_ble_eq_true rfl, Nat.le_of_ble_eq_true rfl⟩) hG (fun E9 ce9 q9 M_4 H locs hw hG h7 h8 h9 => ?_) (fun M_4 H locs hw hG => ?_)
      · exact gw_out hemp hlocks hG hT h7 h8 h9 ⟨hw.1, hw.2.1, fun q => absurd q.2 (Int32.not_lt.mpr h2)⟩ (by omega) (by omega)
      · exact absurd (by decide) hw.2
    · refine lv_iconst (v := nI 1) hx hb dX2_requireIndex_9 (by decide) ?_
      refine lv_goto (tgt := 14) hx hb dX2_requireIndex_10 (by decide) ?_
      refine gw_xcallv (vx_runS (As := [.int (nI 1)]) (rest := []) ⟨hx, hb, hml, hown, hts⟩ (c_require l hnt K M (nI 1)) (va_cwS 1 hts gX2_requireIndex_X2_require rfl rfl rfl (by decide +kernel) ⟨Nat.le_of_ble_eq_true rfl, Nat.le_of_ble_eq_true rfl⟩) (gw_preS hG hT) rfl rfl hl.1 rfl (lv_room (Nat.le_of_ble_eq_true rfl)) dX2_requireIndex_14 ⟨Nat.le_of_ble_eq_true rfl, Nat.le_of_ble_eq_true rfl⟩) hG (fun E9 ce9 q9 M_6 H locs hw hG h7 h8 h9 => ?_) (fun M_6 H locs hw hG => ?_)
      · exact absurd hw.2.2 (by decide)
      · rw [hw.1] at hG
        refine vx_ret ?_
        exact gw_vret hx hb hr hlocks hG hT (by omega) (by omega) dX2_requireIndex_17 ⟨rfl, h1, Int32.not_le.mp h2⟩

set_option maxHeartbeats 4000000 in
set_option maxRecDepth 100000 in
/-- requireReplica -/
theorem c_reqRep (l : Launch) (hnt : l.stackTraces = false) (K : gw_C) (M : gw_M) (x n : Nat) (v1 v2 : Value) (r9 : Int32) (hx0 : M x = some (.inr (3, [v1, v2, .int (nI n)]))) (hn : n ≤ 6) : vx_Met l yX2_requireReplica wsX2_requireReplica ({ frames := 8, cells := 1, slots := 6, locals := 122 } : Room) (va_Pc [.ref x, .int r9] (gw_I K M)) (va_Qv (fun M1 => M1 = M ∧ inN r9 n) (gw_I K) (gw_A K)) (gw_X K (iae M (¬ inN r9 n))) 1 6 (gw_A K) := by
  refine vx_ofW (cc := cX2_requireReplica) (maxL := 2) (ret := none) (by decide) rfl ?_
  intro p e s m args below meth c s₁ B hml hnone hv
  obtain ⟨hav, hI⟩ := hv
  have hx := B.exec
  have hb := B.bytes
  have hr := B.returns
  have hts := atoms_spec (ws := wsX2_requireReplica) B.pre
  have hown : s.vm.findClass RX2 = some m.cls := findClass_of_methodNamed B.named
  have hlocks : meth.locks = false := B.notSynchronized
  have hemp : c.exceptionTable.isEmpty = true := B.noHandlers (hts _ List.mem_cons_self)
  have hT := hI.2.2
  have hK := hT.K
  have hG := hI.B
  have hf23 := hts (.fieldLink RX2 23 "DotGossip" "replicaCount" "I") (by decide +kernel)
  have hinX2 : ∀ w ∈ wsX20, w ∈ wsX2_requireReplica := by decide +kernel
  have hE : entryFrame m args 2 = entryFrame m ([.ref x, .int r9] : List Value).toArray 2 := by rw [hav]
  rw [hE]
  have hl := lv_entry ([.ref x, .int r9]) (n := 2) (Nat.le_of_ble_eq_true rfl)
  rw [lg_entry_eq]
  generalize (lg_sl ([.ref x, .int r9]) ++ List.replicate (2 - (lg_sl ([.ref x, .int r9])).length) Slot.unset).toArray = ls at hl ⊢
  have hl : lv_has ls 2 [(0, .ref x), (1, .int r9)] := hl
  refine lv_iload_n hx hb dX2_requireReplica_0 rfl (lv_at hl 1 rfl) ?_
  refine lv_aload_n hx hb dX2_requireReplica_1 rfl (lv_at hl 0 rfl) ?_
  refine gw_get (ci := 3) (C := RX2) (T := TX2) (N := 3) hx hb hts hinX2 hown hK hG hx0 rfl 2 (by decide) hf23 (fun _ h9 => h9) rfl dX2_requireReplica_2 ?_
  refine gw_xcallv (vx_runS (As := [.int r9, .int (nI n)]) (rest := []) ⟨hx, hb, hml, hown, hts⟩ (c_reqIx l hnt K M r9 (nI n)) (va_cwS 2 hts gX2_requireReplica_X2_requireIndex rfl rfl rfl (by decide +kernel) ⟨Nat.le_of_ble_eq_true rfl, Nat.le_of_ble_eq_true rfl⟩) (gw_preS hG hT) rfl rfl hl.1 rfl (lv_room (Nat.le_of_ble_eq_true rfl)) dX2_requireReplica_5 ⟨Nat.le_of_ble_eq_true rfl, Nat.le_of_ble_eq_true rfl⟩) hG (fun E9 ce9 q9 M_8 H locs hw hG h7 h8 h9 => ?_) (fun M_8 H locs hw hG => ?_)
  · exact gw_out hemp hlocks hG hT h7 h8 h9 ⟨hw.1, hw.2.1, fun q => hw.2.2 ((inN_iff (by omega)).mpr q)⟩ (by omega) (by omega)
  · rw [hw.1] at hG
    refine vx_ret ?_
    exact gw_vret hx hb hr hlocks hG hT (by omega) (by omega) dX2_requireReplica_8 ⟨rfl, (inN_iff (by omega)).mp hw.2⟩

set_option maxHeartbeats 4000000 in
set_option maxRecDepth 100000 in
/-- requireElement -/
theorem c_reqEl (l : Launch) (hnt : l.stackTraces = false) (K : gw_C) (M : gw_M) (x n : Nat) (v1 v2 : Value) (r9 s9 e9 : Int32) (hx0 : M x = some (.inr (3, [v1, v2, .int (nI n)]))) (hn : n ≤ 6) : vx_Met l yX2_requireElement wsX2_requireElement ({ frames := 9, cells := 3, slots := 18, locals := 143 } : Room) (va_Pc [.ref x, .int r9, .int s9, .int e9] (gw_I K M)) (va_Qv (fun M1 => M1 = M ∧ inN r9 n ∧ inN s9 4 ∧ inN e9 16) (gw_I K) (gw_A K)) (gw_X K (iae M (¬ (inN r9 n ∧ inN s9 4 ∧ inN e9 16)))) 3 18 (gw_A K) := by
  refine vx_ofW (cc := cX2_requireElement) (maxL := 4) (ret := none) (by decide) rfl ?_
  intro p e s m args below meth c s₁ B hml hnone hv
  obtain ⟨hav, hI⟩ := hv
  have hx := B.exec
  have hb := B.bytes
  have hr := B.returns
  have hts := atoms_spec (ws := wsX2_requireElement) B.pre
  have hown : s.vm.findClass RX2 = some m.cls := findClass_of_methodNamed B.named
  have hlocks : meth.locks = false := B.notSynchronized
  have hemp : c.exceptionTable.isEmpty = true := B.noHandlers (hts _ List.mem_cons_self)
  have hT := hI.2.2
  have hK := hT.K
  have hG := hI.B
  have hf23 := hts (.fieldLink RX2 23 "DotGossip" "replicaCount" "I") (by decide +kernel)
  have hinX2 : ∀ w ∈ wsX20, w ∈ wsX2_requireElement := by decide +kernel
  have hE : entryFrame m args 4 = entryFrame m ([.ref x, .int r9, .int s9, .int e9] : List Value).toArray 4 := by rw [hav]
  rw [hE]
  have hl := lv_entry ([.ref x, .int r9, .int s9, .int e9]) (n := 4) (Nat.le_of_ble_eq_true rfl)
  rw [lg_entry_eq]
  generalize (lg_sl ([.ref x, .int r9, .int s9, .int e9]) ++ List.replicate (4 - (lg_sl ([.ref x, .int r9, .int s9, .int e9])).length) Slot.unset).toArray = ls at hl ⊢
  have hl : lv_has ls 4 [(0, .ref x), (1, .int r9), (2, .int s9), (3, .int e9)] := hl
  refine lv_aload_n hx hb dX2_requireElement_0 rfl (lv_at hl 0 rfl) ?_
  refine lv_iload_n hx hb dX2_requireElement_1 rfl (lv_at hl 1 rfl) ?_
  refine gw_xcallv (vx_runV (As := [.int r9]) (rest := []) ⟨hx, hb, hml, hown, hts⟩ (c_reqRep l hnt K M x n v1 v2 r9 hx0 hn) (cwV 1 hts gX2_requireElement_X2_requireReplica rfl rfl rfl (by decide +kernel) ⟨Nat.le_of_ble_eq_true rfl, Nat.le_of_ble_eq_true rfl⟩) (gw_preV hG hT hx0 rfl) rfl rfl hl.1 rfl (lv_room (Nat.le_of_ble_eq_true rfl)) dX2_requireElement_2 ⟨Nat.le_of_ble_eq_true rfl, Nat.le_of_ble_eq_true rfl⟩) hG (fun E9 ce9 q9 M_10 H locs hw hG h7 h8 h9 => ?_) (fun M_10 H locs hw hG => ?_)
  · exact gw_out hemp hlocks hG hT h7 h8 h9 ⟨hw.1, hw.2.1, fun q => hw.2.2 q.1⟩ (by omega) (by omega)
  · have hr1 := hw.2
    rw [hw.1] at hG
    refine lv_iload_n hx hb dX2_requireElement_5 rfl (lv_at hl 2 rfl) ?_
    refine lv_iconst (v := nI 4) hx hb dX2_requireElement_6 (by decide) ?_
    refine gw_xcallv (vx_runS (As := [.int s9, .int (nI 4)]) (rest := []) ⟨hx, hb, hml, hown, hts⟩ (c_reqIx l hnt K M s9 (nI 4)) (va_cwS 2 hts gX2_requireElement_X2_requireIndex rfl rfl rfl (by decide +kernel) ⟨Nat.le_of_ble_eq_true rfl, Nat.le_of_ble_eq_true rfl⟩) (gw_preS hG hT) rfl rfl hl.1 rfl (lv_room (Nat.le_of_ble_eq_true rfl)) dX2_requireElement_7 ⟨Nat.le_of_ble_eq_true rfl, Nat.le_of_ble_eq_true rfl⟩) hG (fun E9 ce9 q9 M_12 H locs hw hG h7 h8 h9 => ?_) (fun M_12 H locs hw hG => ?_)
    · exact gw_out hemp hlocks hG hT h7 h8 h9 ⟨hw.1, hw.2.1, fun q => hw.2.2 ((inN_iff (by omega)).mpr q.2.1)⟩ (by omega) (by omega)
    · have hr2 := (inN_iff (n := 4) (by omega)).mp hw.2
      rw [hw.1] at hG
      refine lv_iload_n hx hb dX2_requireElement_10 rfl (lv_at hl 3 rfl) ?_
      refine lv_bipush (v := nI 16) hx hb dX2_requireElement_11 (by decide) ?_
      refine gw_xcallv (vx_runS (As := [.int e9, .int (nI 16)]) (rest := []) ⟨hx, hb, hml, hown, hts⟩ (c_reqIx l hnt K M e9 (nI 16)) (va_cwS 2 hts gX2_requireElement_X2_requireIndex rfl rfl rfl (by decide +kernel) ⟨Nat.le_of_ble_eq_true rfl, Nat.le_of_ble_eq_true rfl⟩) (gw_preS hG hT) rfl rfl hl.1 rfl (lv_room (Nat.le_of_ble_eq_true rfl)) dX2_requireElement_13 ⟨Nat.le_of_ble_eq_true rfl, Nat.le_of_ble_eq_true rfl⟩) hG (fun E9 ce9 q9 M_14 H locs hw hG h7 h8 h9 => ?_) (fun M_14 H locs hw hG => ?_)
      · exact gw_out hemp hlocks hG hT h7 h8 h9 ⟨hw.1, hw.2.1, fun q => hw.2.2 ((inN_iff (by omega)).mpr q.2.2)⟩ (by omega) (by omega)
      · have hr3 := (inN_iff (n := 16) (by omega)).mp hw.2
        rw [hw.1] at hG
        refine vx_ret ?_
        exact gw_vret hx hb hr hlocks hG hT (by omega) (by omega) dX2_requireElement_16 ⟨rfl, hr1, hr2, hr3⟩

set_option maxHeartbeats 4000000 in
set_option maxRecDepth 100000 in
/-- placeOfElement -/
theorem c_place (l : Launch) (K : gw_C) (M : gw_M) (a b : Nat)  : Met l yX2_placeOfElement wsX2_placeOfElement ({ frames := 0, cells := 0, slots := 0, locals := 0 } : Room) (va_Pc [.int (nI a), .int (nI b)] (gw_I K M)) (va_Qi (fun r M1 => M1 = M ∧ r = nI (a * 16 + b)) (gw_I K) (gw_A K)) 0 0 (gw_A K) := by
  refine Met.ofW (cc := cX2_placeOfElement) (maxL := 2) (ret := (some .int)) (by decide) rfl ?_
  intro p e s m args below meth c s₁ B hml hv
  obtain ⟨hav, hI⟩ := hv
  have hx := B.exec
  have hb := B.bytes
  have hr := B.returns
  have hts := atoms_spec (ws := wsX2_placeOfElement) B.pre
  have hown : s.vm.findClass RX2 = some m.cls := findClass_of_methodNamed B.named
  have hlocks : meth.locks = false := B.notSynchronized
  have hT := hI.2.2
  have hK := hT.K
  have hG := hI.B
  have hE : entryFrame m args 2 = entryFrame m ([.int (nI a), .int (nI b)] : List Value).toArray 2 := by rw [hav]
  rw [hE]
  have hl := lv_entry ([.int (nI a), .int (nI b)]) (n := 2) (Nat.le_of_ble_eq_true rfl)
  rw [lg_entry_eq]
  generalize (lg_sl ([.int (nI a), .int (nI b)]) ++ List.replicate (2 - (lg_sl ([.int (nI a), .int (nI b)])).length) Slot.unset).toArray = ls at hl ⊢
  have hl : lv_has ls 2 [(0, .int (nI a)), (1, .int (nI b))] := hl
  refine lv_iload_n hx hb dX2_placeOfElement_0 rfl (lv_at hl 0 rfl) ?_
  refine lv_bipush (v := nI 16) hx hb dX2_placeOfElement_1 (by decide) ?_
  refine gw_imul hx hb dX2_placeOfElement_3 ?_
  refine lv_iload_n hx hb dX2_placeOfElement_4 rfl (lv_at hl 1 rfl) ?_
  refine gw_iadd hx hb dX2_placeOfElement_5 ?_
  exact gw_iret hx hb hr hlocks hG hT (by omega) (by omega) dX2_placeOfElement_6 ⟨rfl, rfl⟩
end
section
/-! THE CLASS'S STATE, and its picture: (replicas, the six holdings, messages, from, to, what was sent) -/
abbrev gst : Type := Nat × (Nat → hV) × Nat × (Nat → Nat) × (Nat → Nat) × (Nat → hV)
def shold (S : gst) (i : Nat) (V : hV) : gst := (S.1, fun k => if k = i then V else S.2.1 k, S.2.2)
def cs (K : gw_C) (M : gw_M) (x : Nat) (S : gst) (aH wl la cap : Nat) (mc : Int32) (g lf : Nat → Option Nat) (ho : Nat → Nat) (had : Nat → Nat → Nat) (my sn : Nat → Nat) (sad : Nat → Nat → Nat) : Prop :=
  (2 ≤ S.1 ∧ S.1 ≤ 6) ∧ M x = some (.inr (3, [.ref aH, .ref wl, .int (nI S.1)])) ∧ M aH = some (.inl (K.2.1 2, 6, .inr (.inr (.inr (.inr g))))) ∧
  (∀ i, i < 6 → g i = some (ho i) ∧ hd K M (ho i) (had i) (S.2.1 i)) ∧ al K M wl la cap S.2.2.1 mc lf ∧
  (∀ k, k < S.2.2.1 → lf k = some (my k) ∧ M (my k) = some (.inr (2, [.int (nI (S.2.2.2.1 k)), .int (nI (S.2.2.2.2.1 k)), .ref (sn k)])) ∧ hd K M (sn k) (sad k) (S.2.2.2.2.2 k)) ∧ ∀ k, k < S.2.2.1 → S.2.2.2.1 k < 6 ∧ S.2.2.2.2.1 k < 6
/-- which part of the world an address belongs to -/
def rs (M : gw_M) (ro : Nat → Nat) (x sz aH wl la : Nat) (ho : Nat → Nat) (had : Nat → Nat → Nat) (my sn : Nat → Nat) (sad : Nat → Nat → Nat) : Prop :=
  ro x = 1 ∧ ro aH = 2 ∧ ro wl = 3 ∧ (∀ e, M la = some e → ro la = 4) ∧ (∀ i, i < 6 → ro (ho i) = 5 ∧ ∀ j, j < 5 → ro (had i j) = 10 + i * 5 + j) ∧
  (∀ k, k < sz → ro (my k) = 6 ∧ ro (sn k) = 7 ∧ ∀ j, j < 5 → ro (sad k j) = 8) ∧ ∀ j k, j < sz → k < sz → my j = my k → j = k
def CS (K : gw_C) (M : gw_M) (ro : Nat → Nat) (x : Nat) (S : gst) : Prop :=
  ∃ (aH wl la cap : Nat) (mc : Int32) (g lf : Nat → Option Nat) (ho : Nat → Nat) (had : Nat → Nat → Nat) (my sn : Nat → Nat) (sad : Nat → Nat → Nat), cs K M x S aH wl la cap mc g lf ho had my sn sad ∧ rs M ro x S.2.2.1 aH wl la ho had my sn sad
/-- what an operation of one side leaves to the other: roles stay, cells of roles from lo to hi stay -/
def ofr (lo hi : Nat) (M M1 : gw_M) (ro ro1 : Nat → Nat) : Prop := ∀ q e, M q = some e → ro1 q = ro q ∧ (lo ≤ ro q → ro q < hi → M1 q = some e)
theorem ofr.rf {lo hi : Nat} {M : gw_M} {ro : Nat → Nat} : ofr lo hi M M ro ro := fun _ _ h => ⟨rfl, fun _ _ => h⟩
theorem hd_keep {K : gw_C} {M M1 : gw_M} {h : Nat} {ad : Nat → Nat} {V : hV} (hh : hd K M h ad V) (h0 : M1 h = M h) (h1 : ∀ j, j < 5 → M1 (ad j) = M (ad j)) : hd K M1 h ad V := by
  obtain ⟨a0, a1, a2, a3, a4, a5, a6⟩ := hh
  exact ⟨h0.trans a0, (h1 0 (by decide)).trans a1, (h1 1 (by decide)).trans a2, (h1 2 (by decide)).trans a3, (h1 3 (by decide)).trans a4, (h1 4 (by decide)).trans a5, a6⟩
theorem hd_some {K : gw_C} {M : gw_M} {h : Nat} {ad : Nat → Nat} {V : hV} (hh : hd K M h ad V) : ∀ j, j < 5 → ∃ e, M (ad j) = some e := by
  obtain ⟨a0, a1, a2, a3, a4, a5, a6⟩ := hh
  intro j hj
  rcases (show j = 0 ∨ j = 1 ∨ j = 2 ∨ j = 3 ∨ j = 4 by omega) with rfl | rfl | rfl | rfl | rfl
  · exact ⟨_, a1⟩
  · exact ⟨_, a2⟩
  · exact ⟨_, a3⟩
  · exact ⟨_, a4⟩
  · exact ⟨_, a5⟩
theorem al_keep {K : gw_C} {M M1 : gw_M} {w a cap sz : Nat} {mc : Int32} {f : Nat → Option Nat} (h : al K M w a cap sz mc f) (h0 : M1 w = M w) (h1 : ∀ e, M a = some e → M1 a = M a) : al K M1 w a cap sz mc f := by
  obtain ⟨a0, a1, a2⟩ := h
  refine ⟨h0.trans a0, a1, ?_⟩
  rcases a2 with a2 | ⟨a2, a3, a4, a5⟩
  · exact Or.inl a2
  · exact Or.inr ⟨(h1 _ a2).trans a2, a3, a4, a5⟩
/-- a holding of the class has changed, all else is as it was -/
theorem cs_hold {K : gw_C} {M M1 : gw_M} {x : Nat} {S : gst} {aH wl la cap : Nat} {mc : Int32} {g lf : Nat → Option Nat} {ho : Nat → Nat} {had : Nat → Nat → Nat} {my sn : Nat → Nat} {sad : Nat → Nat → Nat} {ro : Nat → Nat}
    (hcs : cs K M x S aH wl la cap mc g lf ho had my sn sad) (hrs : rs M ro x S.2.2.1 aH wl la ho had my sn sad) {i : Nat} (hi : i < 6) {V : hV} (hV : hd K M1 (ho i) (had i) V) (hF : hfr M M1 (had i)) : CS K M1 ro x (shold S i V) ∧ ofr 60 1000 M M1 ro ro := by
  obtain ⟨c0, c1, c2, c3, c4, c5, c6⟩ := hcs
  obtain ⟨r0, r1, r2, r3, r4, r5, r6⟩ := hrs
  have kp : ∀ q, (ro q < 10 + i * 5 ∨ 15 + i * 5 ≤ ro q) → M1 q = M q := fun q hq => hF q (fun j hj z => by
    have h9 := (r4 i hi).2 j hj
    rw [z] at hq
    omega)
  refine ⟨⟨aH, wl, la, cap, mc, g, lf, ho, had, my, sn, sad, ⟨c0, (kp x (by omega)).trans c1, (kp aH (by omega)).trans c2, fun k hk => ⟨(c3 k hk).1, ?_⟩, al_keep c4 (kp wl (by omega)) (fun e he => kp la (by have := r3 e he; omega)), fun k hk => ⟨(c5 k hk).1, (kp _ (by have := (r5 k hk).1; omega)).trans (c5 k hk).2.1, hd_keep (c5 k hk).2.2 (kp _ (by have := (r5 k hk).2.1; omega)) (fun j hj => kp _ (by have := (r5 k hk).2.2 j hj; omega))⟩, c6⟩, r0, r1, r2, fun e he => ?_, r4, r5, r6⟩, fun q e he => ⟨rfl, fun h1 h2 => (kp q (by omega)).trans he⟩⟩
  · show hd K M1 (ho k) (had k) (if k = i then V else S.2.1 k)
    by_cases hki : k = i
    · rw [if_pos hki, hki]
      exact hV
    · rw [if_neg hki]
      exact hd_keep (c3 k hk).2 (kp _ (by have := (r4 k hk).1; omega)) (fun j hj => kp _ (by have := (r4 k hk).2 j hj; omega))
  · by_cases hz : (∀ j, j < 5 → la ≠ had i j)
    · rw [hF la hz] at he
      exact r3 e he
    · obtain ⟨j, hj⟩ := Classical.not_forall.mp hz
      obtain ⟨hj5, hj⟩ := Classical.not_imp.mp hj
      have hj : la = had i j := Classical.not_not.mp hj
      obtain ⟨e9, he9⟩ := hd_some (c3 i hi).2 j hj5
      rw [← hj] at he9
      exact r3 e9 he9
/-- adding: the place's old dots go, a new one comes -/
def vadd (V : hV) (rk pl : Nat) : hV := (upd V.1 rk (V.1 rk + nI 1), upd (hclr V.2.1 pl 6) (pl * 6 + rk) (V.1 rk + nI 1), V.2.2)
def vrem (V : hV) (pl : Nat) : hV := (V.1, hclr V.2.1 pl 6, V.2.2)
def vwr (V : hV) (rk k : Nat) (v : Int32) : hV := (upd V.1 rk (V.1 rk + nI 1), upd (hclr V.2.1 (64 + k) 6) ((64 + k) * 6 + rk) (V.1 rk + nI 1), upd V.2.2.1 (k * 6 + rk) v, V.2.2.2)
def vcnt (V : hV) (rk k : Nat) (b : Int32) : hV := (V.1, V.2.1, V.2.2.1, (if 0 ≤ b then vp_updL V.2.2.2.1 (k * 6 + rk) (V.2.2.2.1 (k * 6 + rk) + b.toInt64) else V.2.2.2.1), (if 0 ≤ b then V.2.2.2.2 else vp_updL V.2.2.2.2 (k * 6 + rk) (V.2.2.2.2 (k * 6 + rk) - b.toInt64)))
end
