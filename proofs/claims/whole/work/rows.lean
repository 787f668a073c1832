section
-- ===== PART A: goes FIRST, ahead of the names: the tables' words, and 'selects' of the private methods out of them =====
/-- a private method of a class that the tables say can be made, by its rows of tables_1 -/
def lw_okq (q : MethodName × Nat) : Prop := (q.1.cls ≠ "java/lang/invoke/MethodHandle" ∧ q.1.cls ≠ "java/lang/invoke/VarHandle") ∧ Cond.instantiable q.1.cls q.2 ∈ tables_1 ∧ Cond.privateMethod q.1 ∈ tables_1 ∧ Cond.instanceMethod q.1 ∈ tables_1
theorem lw_p0 : lw_okq (⟨"java/lang/Throwable", "fillInStackTrace", "(I)Ljava/lang/Throwable;"⟩, 6) := ⟨⟨by decide +kernel, by decide +kernel⟩, List.mem_of_getElem? (i := 141) (by decide +kernel), List.mem_of_getElem? (i := 139) (by decide +kernel), List.mem_of_getElem? (i := 140) (by decide +kernel)⟩
theorem lw_p1 : lw_okq (⟨"DotGossip", "requireElement", "(III)V"⟩, 3) := ⟨⟨by decide +kernel, by decide +kernel⟩, List.mem_of_getElem? (i := 20) (by decide +kernel), List.mem_of_getElem? (i := 187) (by decide +kernel), List.mem_of_getElem? (i := 188) (by decide +kernel)⟩
theorem lw_p2 : lw_okq (⟨"DotGossip", "requireReplica", "(I)V"⟩, 3) := ⟨⟨by decide +kernel, by decide +kernel⟩, List.mem_of_getElem? (i := 20) (by decide +kernel), List.mem_of_getElem? (i := 191) (by decide +kernel), List.mem_of_getElem? (i := 192) (by decide +kernel)⟩
theorem lw_p3 : lw_okq (⟨"java/util/ArrayList", "add", "(Ljava/lang/Object;[Ljava/lang/Object;I)V"⟩, 3) := ⟨⟨by decide +kernel, by decide +kernel⟩, List.mem_of_getElem? (i := 57) (by decide +kernel), List.mem_of_getElem? (i := 304) (by decide +kernel), List.mem_of_getElem? (i := 305) (by decide +kernel)⟩
theorem lw_p4 : lw_okq (⟨"java/util/ArrayList", "grow", "()[Ljava/lang/Object;"⟩, 3) := ⟨⟨by decide +kernel, by decide +kernel⟩, List.mem_of_getElem? (i := 57) (by decide +kernel), List.mem_of_getElem? (i := 308) (by decide +kernel), List.mem_of_getElem? (i := 309) (by decide +kernel)⟩
theorem lw_p5 : lw_okq (⟨"java/util/ArrayList", "grow", "(I)[Ljava/lang/Object;"⟩, 3) := ⟨⟨by decide +kernel, by decide +kernel⟩, List.mem_of_getElem? (i := 57) (by decide +kernel), List.mem_of_getElem? (i := 312) (by decide +kernel), List.mem_of_getElem? (i := 313) (by decide +kernel)⟩
theorem lw_p6 : lw_okq (⟨"java/util/ArrayList", "fastRemove", "([Ljava/lang/Object;I)V"⟩, 3) := ⟨⟨by decide +kernel, by decide +kernel⟩, List.mem_of_getElem? (i := 57) (by decide +kernel), List.mem_of_getElem? (i := 369) (by decide +kernel), List.mem_of_getElem? (i := 370) (by decide +kernel)⟩
theorem lw_p7 : lw_okq (⟨"DotGossip$Holding", "mergeDot", "(LDotGossip$Holding;II)Z"⟩, 5) := ⟨⟨by decide +kernel, by decide +kernel⟩, List.mem_of_getElem? (i := 29) (by decide +kernel), List.mem_of_getElem? (i := 378) (by decide +kernel), List.mem_of_getElem? (i := 379) (by decide +kernel)⟩
theorem lw_p8 : lw_okq (⟨"DotGossipModel", "refuses", "(I)Z"⟩, 8) := ⟨⟨by decide +kernel, by decide +kernel⟩, List.mem_of_getElem? (i := 497) (by decide +kernel), List.mem_of_getElem? (i := 537) (by decide +kernel), List.mem_of_getElem? (i := 538) (by decide +kernel)⟩
theorem lw_p9 : lw_okq (⟨"DotGossipModel", "isElement", "(III)Z"⟩, 8) := ⟨⟨by decide +kernel, by decide +kernel⟩, List.mem_of_getElem? (i := 497) (by decide +kernel), List.mem_of_getElem? (i := 545) (by decide +kernel), List.mem_of_getElem? (i := 546) (by decide +kernel)⟩
theorem lw_p10 : lw_okq (⟨"DotGossipModel", "isReplica", "(I)Z"⟩, 8) := ⟨⟨by decide +kernel, by decide +kernel⟩, List.mem_of_getElem? (i := 497) (by decide +kernel), List.mem_of_getElem? (i := 549) (by decide +kernel), List.mem_of_getElem? (i := 550) (by decide +kernel)⟩
theorem lw_p11 : lw_okq (⟨"DotGossipModel", "news", "(II)I"⟩, 8) := ⟨⟨by decide +kernel, by decide +kernel⟩, List.mem_of_getElem? (i := 497) (by decide +kernel), List.mem_of_getElem? (i := 553) (by decide +kernel), List.mem_of_getElem? (i := 554) (by decide +kernel)⟩
theorem lw_p12 : lw_okq (⟨"DotGossipModel", "empties", "(II)V"⟩, 8) := ⟨⟨by decide +kernel, by decide +kernel⟩, List.mem_of_getElem? (i := 497) (by decide +kernel), List.mem_of_getElem? (i := 560) (by decide +kernel), List.mem_of_getElem? (i := 561) (by decide +kernel)⟩
theorem lw_p13 : lw_okq (⟨"DotGossipModel", "many", "(II)I"⟩, 8) := ⟨⟨by decide +kernel, by decide +kernel⟩, List.mem_of_getElem? (i := 497) (by decide +kernel), List.mem_of_getElem? (i := 571) (by decide +kernel), List.mem_of_getElem? (i := 572) (by decide +kernel)⟩
theorem lw_p14 : lw_okq (⟨"DotGossipModel", "isRegister", "(II)Z"⟩, 8) := ⟨⟨by decide +kernel, by decide +kernel⟩, List.mem_of_getElem? (i := 497) (by decide +kernel), List.mem_of_getElem? (i := 583) (by decide +kernel), List.mem_of_getElem? (i := 584) (by decide +kernel)⟩
theorem lw_p15 : lw_okq (⟨"DotGossipModel", "sum", "(II)I"⟩, 8) := ⟨⟨by decide +kernel, by decide +kernel⟩, List.mem_of_getElem? (i := 497) (by decide +kernel), List.mem_of_getElem? (i := 591) (by decide +kernel), List.mem_of_getElem? (i := 592) (by decide +kernel)⟩
def lw_privs_1 : List (MethodName × Nat) := [(⟨"java/lang/Throwable", "fillInStackTrace", "(I)Ljava/lang/Throwable;"⟩, 6), (⟨"DotGossip", "requireElement", "(III)V"⟩, 3), (⟨"DotGossip", "requireReplica", "(I)V"⟩, 3), (⟨"java/util/ArrayList", "add", "(Ljava/lang/Object;[Ljava/lang/Object;I)V"⟩, 3), (⟨"java/util/ArrayList", "grow", "()[Ljava/lang/Object;"⟩, 3), (⟨"java/util/ArrayList", "grow", "(I)[Ljava/lang/Object;"⟩, 3), (⟨"java/util/ArrayList", "fastRemove", "([Ljava/lang/Object;I)V"⟩, 3), (⟨"DotGossip$Holding", "mergeDot", "(LDotGossip$Holding;II)Z"⟩, 5), (⟨"DotGossipModel", "refuses", "(I)Z"⟩, 8), (⟨"DotGossipModel", "isElement", "(III)Z"⟩, 8), (⟨"DotGossipModel", "isReplica", "(I)Z"⟩, 8), (⟨"DotGossipModel", "news", "(II)I"⟩, 8), (⟨"DotGossipModel", "empties", "(II)V"⟩, 8), (⟨"DotGossipModel", "many", "(II)I"⟩, 8), (⟨"DotGossipModel", "isRegister", "(II)Z"⟩, 8), (⟨"DotGossipModel", "sum", "(II)I"⟩, 8)]
theorem lw_r1 : ∀ q ∈ lw_privs_1, lw_okq q := List.forall_mem_cons.mpr ⟨lw_p0, List.forall_mem_cons.mpr ⟨lw_p1, List.forall_mem_cons.mpr ⟨lw_p2, List.forall_mem_cons.mpr ⟨lw_p3, List.forall_mem_cons.mpr ⟨lw_p4, List.forall_mem_cons.mpr ⟨lw_p5, List.forall_mem_cons.mpr ⟨lw_p6, List.forall_mem_cons.mpr ⟨lw_p7, List.forall_mem_cons.mpr ⟨lw_p8, List.forall_mem_cons.mpr ⟨lw_p9, List.forall_mem_cons.mpr ⟨lw_p10, List.forall_mem_cons.mpr ⟨lw_p11, List.forall_mem_cons.mpr ⟨lw_p12, List.forall_mem_cons.mpr ⟨lw_p13, List.forall_mem_cons.mpr ⟨lw_p14, List.forall_mem_cons.mpr ⟨lw_p15, fun _ h => absurd h List.not_mem_nil⟩⟩⟩⟩⟩⟩⟩⟩⟩⟩⟩⟩⟩⟩⟩⟩
theorem lw_p16 : lw_okq (⟨"DotGossipModel", "copies", "(II)V"⟩, 8) := ⟨⟨by decide +kernel, by decide +kernel⟩, List.mem_of_getElem? (i := 497) (by decide +kernel), List.mem_of_getElem? (i := 599) (by decide +kernel), List.mem_of_getElem? (i := 600) (by decide +kernel)⟩
theorem lw_p17 : lw_okq (⟨"DotGossipModel", "isMessage", "(I)Z"⟩, 8) := ⟨⟨by decide +kernel, by decide +kernel⟩, List.mem_of_getElem? (i := 497) (by decide +kernel), List.mem_of_getElem? (i := 607) (by decide +kernel), List.mem_of_getElem? (i := 608) (by decide +kernel)⟩
theorem lw_p18 : lw_okq (⟨"DotGossipModel", "merges", "(II)I"⟩, 8) := ⟨⟨by decide +kernel, by decide +kernel⟩, List.mem_of_getElem? (i := 497) (by decide +kernel), List.mem_of_getElem? (i := 611) (by decide +kernel), List.mem_of_getElem? (i := 612) (by decide +kernel)⟩
theorem lw_p19 : lw_okq (⟨"DotGossipModel", "gone", "(I)V"⟩, 8) := ⟨⟨by decide +kernel, by decide +kernel⟩, List.mem_of_getElem? (i := 497) (by decide +kernel), List.mem_of_getElem? (i := 615) (by decide +kernel), List.mem_of_getElem? (i := 616) (by decide +kernel)⟩
theorem lw_p20 : lw_okq (⟨"DotGossipModel", "origin", "(III)I"⟩, 8) := ⟨⟨by decide +kernel, by decide +kernel⟩, List.mem_of_getElem? (i := 497) (by decide +kernel), List.mem_of_getElem? (i := 643) (by decide +kernel), List.mem_of_getElem? (i := 644) (by decide +kernel)⟩
def lw_privs_2 : List (MethodName × Nat) := [(⟨"DotGossipModel", "copies", "(II)V"⟩, 8), (⟨"DotGossipModel", "isMessage", "(I)Z"⟩, 8), (⟨"DotGossipModel", "merges", "(II)I"⟩, 8), (⟨"DotGossipModel", "gone", "(I)V"⟩, 8), (⟨"DotGossipModel", "origin", "(III)I"⟩, 8)]
theorem lw_r2 : ∀ q ∈ lw_privs_2, lw_okq q := List.forall_mem_cons.mpr ⟨lw_p16, List.forall_mem_cons.mpr ⟨lw_p17, List.forall_mem_cons.mpr ⟨lw_p18, List.forall_mem_cons.mpr ⟨lw_p19, List.forall_mem_cons.mpr ⟨lw_p20, fun _ h => absurd h List.not_mem_nil⟩⟩⟩⟩⟩
def lw_privs : List (MethodName × Nat) := lw_privs_1 ++ (lw_privs_2)
def lw_tbl : List Cond := k2_sels lw_privs ++ tables_1
theorem lw_privs_ok : ∀ q ∈ lw_privs, lw_okq q := by
  show ∀ q ∈ lw_privs_1 ++ (lw_privs_2), lw_okq q
  exact List.forall_mem_append.mpr ⟨lw_r1, lw_r2⟩

/-! ===== BEGIN words of one list among another's, by their places ===== -/
theorem goodIn_r {big : List Cond} (ws : List Cond) (ps : List Nat) (hp : ws = ps.filterMap (fun i => big[i]?)) (h : ws.all goodWord = true) : GoodIn big ws := by
  intro w hw
  have h1 := List.all_eq_true.mp h w hw
  rw [hp] at hw
  obtain ⟨i, -, hi⟩ := List.mem_filterMap.mp hw
  have hm : w ∈ big := by first | exact List.mem_of_getElem? hi | exact List.getElem?_mem hi
  exact ⟨hm, good_of_word h1⟩
theorem goodIn_app {big a b : List Cond} (ha : GoodIn big a) (hb : GoodIn big b) : GoodIn big (a ++ b) := fun w h => (List.mem_append.mp h).elim (ha w) (hb w)
theorem goodIn_ca {big a b : List Cond} {c : Cond} (ha : GoodIn big (c :: a)) (hb : GoodIn big b) : GoodIn big (c :: (a ++ b)) := fun w h => (List.mem_cons.mp h).elim (fun e => ha w (List.mem_cons.mpr (Or.inl e))) (fun h => (List.mem_append.mp h).elim (fun h => ha w (List.mem_cons.mpr (Or.inr h))) (hb w))
theorem goodIn_sub {big ws : List Cond} (hm : ∀ w ∈ ws, w ∈ big) (h : ws.all goodWord = true) : GoodIn big ws := fun w hw => ⟨hm w hw, good_of_word (List.all_eq_true.mp h w hw)⟩
/-! ===== END ===== -/

/-! ===== BEGIN exceptions that leave a method, and their catching by the caller (launches without stack traces) ===== -/
section VXA
/-! The laws vx_back, vx_callV, vx_callS, vx_callSW, vx_throw0, vx_throwS follow proofs of the library, with one case more: JvmDerived/Free/Laws.lean (Back.of_free), Shelf42/LK1.lean (callV, callS), Shelf/KitTraced.lean (throwNew0V, throwNewS). -/
/-- where a method has thrown q: the class by its name, the cell, what was written, the world -/
def vx_T (XC : String → State → State → Prop) (st : State) (q : Addr) (t : State) (mc ms : Nat) (free : Addr → Prop) : Prop :=
  ∃ (E : String) (ce : Cell) (L : List Loc), XC E st t ∧ t.heap[q]? = some ce ∧ ce.vm = .none ∧ st.vm.findClass E = some ce.cls ∧ st.WarmedH t.vm ∧ st.sameButNew ({ t with vm := st.vm } : State) L mc ms ∧ ∀ z ∈ L, free z.base
def vx_Q (Qc : Array Value → State → Outcome → State → Prop) (XC : String → State → State → Prop) (mc ms : Nat) (free : Addr → Prop) : Array Value → State → Outcome → State → Prop := fun a st o t =>
  (Qc a st o t ∧ ∃ L, FrameEnd st o t L mc ms ∧ ∀ q ∈ L, free q.base) ∨ ∃ q, o = .threw q ∧ vx_T XC st q t mc ms free
/-- a callee that returns or throws -/
def vx_Met (l : Launch) (y : MethodName) (ws : List Cond) (rm : Room) (Pc : Array Value → State → Prop) (Qc : Array Value → State → Outcome → State → Prop) (XC : String → State → State → Prop) (mc ms : Nat) (free : Addr → Prop) : Prop :=
  MetFree l y (headSpec ws rm) Pc (fun _ _ _ _ _ => True) (vx_Q Qc XC mc ms free)
def vx_Post (XC : String → State → State → Prop) (mc ms : Nat) (free : Addr → Prop) : Pt → Array Value → Addr → Pt → Prop := fun A a q B =>
  ∃ (g : JFrame) (mk : MethodId) (t : State) (L : List Loc) (E : String) (ce : Cell), B.U.heap = t.heap ∧ B.U.vm = t.vm ∧ XC E (A.U.calling g mk a) t ∧ t.heap[q]? = some ce ∧ ce.vm = .none ∧ A.U.vm.findClass E = some ce.cls ∧ B.locs = A.locs ++ L ∧ (∀ z ∈ L, free z.base) ∧ B.cells = A.cells + mc ∧ B.slots = A.slots + ms
def vx_Back (l : Launch) (R : Room) (p : Program) (e : Env) (below : List Frame) (s : State) (sargs : Array Value) (y : MethodName) (len W9 : Nat)
    (Pre : Pt → Array Value → Prop) (Post : Pt → Array Value → Option Value → Pt → Prop) (PostX : Pt → Array Value → Addr → Pt → Prop) : Prop :=
  ∀ (m : MethodId) (meth : Method) (c : Code) (A : Pt) (g : JFrame) (ig : Instr) (mk : MethodId) (a : Array Value),
    Stand p l e R s m sargs below meth c A.U A.locs A.cells A.slots → g.method = m → g.locals.size = c.maxLocals → decode c.code g.pc = .ok (ig, len) →
    2 * g.monitorRoom + (g.stack.map fun v => v.category).sum ≤ W9 → A.U.methodNamed? y = some mk → Pre A a →
    (∃ (v : Option Value) (B : Pt), Stand p l e R s m sargs below meth c B.U B.locs B.cells B.slots ∧ Post A a v B ∧
      Steps p.tables e below (doInvoke e (A.U.setTop g) [] mk a).1 (B.U.setTop { g with pc := g.pc + len, stack := v.toList ++ g.stack })) ∨
    (∃ (q : Addr) (B : Pt), Stand p l e R s m sargs below meth c B.U B.locs B.cells B.slots ∧ PostX A a q B ∧
      Steps p.tables e below (doInvoke e (A.U.setTop g) [] mk a).1 ((B.U.setTop g).pushFrame (.throwing q)))
section Payer
variable {l : Launch} {R : Room} {p : Program} {e : Env} {below : List Frame} {s : State} {sargs : Array Value} {y : MethodName} {len W9 : Nat}
theorem vx_back {ws : List Cond} {rm : Room} {Pc : Array Value → State → Prop} {Qc : Array Value → State → Outcome → State → Prop} {XC : String → State → State → Prop} {mc ms : Nat} {free : Addr → Prop} {bytes : ByteArray} {maxL : Nat} {ret : Option FieldType}
    (hM : vx_Met l y ws rm Pc Qc XC mc ms free) (hblind : FrameBlind Pc) (hrc : rm.cells = mc) (hrs : rm.slots = ms)
    (hframes : rm.frames + 1 ≤ R.frames) (hlocals : W9 + (maxL + 11) + rm.locals ≤ R.locals)
    (hws : ∀ w ∈ ws, ∀ a' U, s.WarmedH U.vm → w.before a' U = true) (hcode : Cond.code y bytes maxL ret ∈ ws) (hinit : ∀ a' U, s.WarmedH U.vm → (Cond.initialized y.cls).before a' U = true) :
    vx_Back l R p e below s sargs y len W9 (PreOf R mc ms Pc) (PostOf Qc mc ms free) (vx_Post XC mc ms free) := by
  intro m meth c A g ig mk a X hg hsize hdg hW hn hp
  have h1 : (headSpec ws rm).pre.before a A.U = true := atoms_intro fun w hw => hws w hw _ _ X.warmed
  have h2 : (Cond.code y bytes maxL ret).before a A.U = true := hws _ hcode _ _ X.warmed
  have h3 : (Cond.initialized y.cls).before a A.U = true := hinit _ _ X.warmed
  have h4 : A.cells + (headSpec ws rm).room.cells ≤ R.cells := by rw [show (headSpec ws rm).room.cells = mc from hrc]; exact hp.1
  have h5 : A.slots + (headSpec ws rm).room.slots ≤ R.slots := by rw [show (headSpec ws rm).room.slots = ms from hrs]; exact hp.2.1
  have hPc : Pc a (A.U.calling g mk a) := hblind _ _ _ _ hp.2.2
  obtain ⟨U, Ls, c0, s0⟩ := A
  dsimp only [Pt.U, Pt.locs, Pt.cells, Pt.slots] at h1 h2 h3 h4 h5 X hn hPc ⊢
  obtain ⟨methY, cY, hmY, hcY, -, hlY, -, -, -, -⟩ := Cond.code_spec hn h2
  obtain ⟨kY, hkY, -⟩ := className_of_methodNamed hn
  have hinitY : kY.init = .initialized := Cond.initialized_spec (findClass_of_methodNamed hn) hkY h3
  have h : At U g.method c below := by rw [hg]; exact X.here
  have hlocals9 : W9 + (maxL + 11) + (headSpec ws rm).room.locals ≤ R.locals := hlocals
  have happ : (headSpec ws rm).appliesLoose y e.platform (U.calling g mk a) = true :=
    Spec.appliesLoose_calling (g := g) h hdg hn hkY hinitY
      (X.room_calling (g := g) (R' := (headSpec ws rm).room) hsize hmY hcY hframes (by rw [hlY]; omega) h4 h5) h1
  obtain ⟨mid, hmid⟩ := h.above
  have hfr : (U.setTop g).frames = (.java g :: mid) ++ below := by rw [State.frames_setTop' g h.top, hmid]; rfl
  obtain ⟨o, s₂, hsteps, -, hend, hq⟩ := Steps.callFree hM p X.admits X.cas X.clock (acts := []) hfr happ hPc trivial
  have hq' : vx_Q Qc XC mc ms free a (U.calling g mk a) o s₂ := hq
  rw [State.frames_setTop' g h.top] at hend
  obtain ⟨g₀, hg0⟩ := Option.isSome_iff_exists.mp h.top
  obtain ⟨r, hr⟩ := State.topJava?_eq_some.mp hg0
  have hr' : (({ U with heap := s₂.heap, slotsUsed := s₂.slotsUsed } : State).setVm s₂.vm).frames = .java g₀ :: r := hr
  rcases hq' with ⟨hqc, L, hfe, hL⟩ | ⟨q, rfl, E, ce, L, hx, hce, hcv, hcl, hW₂, hsm, hL⟩
  · obtain ⟨⟨v, rfl⟩, hW₂, e2, q2, q3, q4, q5, q6⟩ := id hfe
    have e3 : s₂ = ({ (U.calling g mk a).setFrames s₂.frames with heap := s₂.heap, slotsUsed := s₂.slotsUsed } : State).setVm s₂.vm := by
      have : s₂ = ({ s₂ with vm := (U.calling g mk a).vm } : State).setVm s₂.vm := rfl
      rw [e2] at this
      exact this
    obtain ⟨c₂, i₂, len₂, hc₂, hd₂, hf₂⟩ := hend
    have hW' : U.WarmedH s₂.vm := hW₂
    have hcc : c₂ = c := by
      have h1 : s₂.code? g.method = U.code? g.method := by
        rw [State.code?_eq, State.code?_eq, hW'.alike.method?]
      exact Option.some.inj (hc₂.symm.trans (h1.trans h.code))
    subst hcc
    have hlen : len₂ = len := by rw [hdg] at hd₂; cases hd₂; rfl
    subst hlen
    have hs₂ : s₂ = (({ U with heap := s₂.heap, slotsUsed := s₂.slotsUsed } : State).setVm s₂.vm).setTop { g with pc := g.pc + len₂, stack := v.toList ++ g.stack } := by
      refine e3.trans ?_
      rw [hf₂, State.calling_eq h.top, State.setFrames_setFrames, State.setTop_of_frames _ hr', hr]
      rfl
    have hsame : U.sameButNew ({ U with heap := s₂.heap, slotsUsed := s₂.slotsUsed } : State) L mc ms := by
      refine ⟨?_, q2, q3, q4, q5, q6⟩
      obtain ⟨t, ht, -⟩ := State.frames_cons hr
      show ({ U with heap := s₂.heap, slotsUsed := s₂.slotsUsed } : State) = { U.setFrames U.frames with heap := s₂.heap, slotsUsed := s₂.slotsUsed }
      rw [State.setFrames_self ht]
    subst hg
    refine Or.inl ⟨v, ⟨(({ U with heap := s₂.heap, slotsUsed := s₂.slotsUsed } : State).setVm s₂.vm), Ls ++ L, c0 + mc, s0 + ms⟩,
      ⟨X.admits, X.cas, X.clock, X.frames, X.room, X.hears, X.method, X.code, (X.here.setHeapUsed s₂.heap s₂.slotsUsed).setVm hW'.alike, X.tail, State.WarmedH.trans X.warmed hW', X.limits, X.bytes, X.same.trans (hsame.setVm s.vm)⟩,
      ⟨g, mk, s₂, L, rfl, rfl, hqc, rfl, hL, rfl, rfl⟩, ?_⟩
    show Steps p.tables e below _ ((({ U with heap := s₂.heap, slotsUsed := s₂.slotsUsed } : State).setVm s₂.vm).setTop { g with pc := g.pc + len₂, stack := v.toList ++ g.stack })
    rw [← hs₂]
    exact hsteps
  · obtain ⟨e2, q2, q3, q4, q5, q6⟩ := id hsm
    have e3 : s₂ = ({ (U.calling g mk a).setFrames s₂.frames with heap := s₂.heap, slotsUsed := s₂.slotsUsed } : State).setVm s₂.vm := by
      have : s₂ = ({ s₂ with vm := (U.calling g mk a).vm } : State).setVm s₂.vm := rfl
      rw [e2] at this
      exact this
    have hf₂ : s₂.frames = .throwing q :: .java g :: U.frames.tail := hend
    have hW' : U.WarmedH s₂.vm := hW₂
    have hs₂ : s₂ = ((({ U with heap := s₂.heap, slotsUsed := s₂.slotsUsed } : State).setVm s₂.vm).setTop g).pushFrame (.throwing q) := by
      refine e3.trans ?_
      rw [hf₂, State.calling_eq h.top, State.setFrames_setFrames, State.pushFrame, State.frames_setTop _ hr', State.setTop_of_frames _ hr', State.setFrames_setFrames, hr]
      rfl
    have hsame : U.sameButNew ({ U with heap := s₂.heap, slotsUsed := s₂.slotsUsed } : State) L mc ms := by
      refine ⟨?_, q2, q3, q4, q5, q6⟩
      obtain ⟨t, ht, -⟩ := State.frames_cons hr
      show ({ U with heap := s₂.heap, slotsUsed := s₂.slotsUsed } : State) = { U.setFrames U.frames with heap := s₂.heap, slotsUsed := s₂.slotsUsed }
      rw [State.setFrames_self ht]
    subst hg
    refine Or.inr ⟨q, ⟨(({ U with heap := s₂.heap, slotsUsed := s₂.slotsUsed } : State).setVm s₂.vm), Ls ++ L, c0 + mc, s0 + ms⟩,
      ⟨X.admits, X.cas, X.clock, X.frames, X.room, X.hears, X.method, X.code, (X.here.setHeapUsed s₂.heap s₂.slotsUsed).setVm hW'.alike, X.tail, State.WarmedH.trans X.warmed hW', X.limits, X.bytes, X.same.trans (hsame.setVm s.vm)⟩,
      ⟨g, mk, s₂, L, E, ce, rfl, rfl, hx, hce, hcv, hcl, rfl, hL, rfl, rfl⟩, ?_⟩
    show Steps p.tables e below _ (((({ U with heap := s₂.heap, slotsUsed := s₂.slotsUsed } : State).setVm s₂.vm).setTop g).pushFrame (.throwing q))
    rw [← hs₂]
    exact hsteps
end Payer
section Calls
variable {p : Program} {l : Launch} {e : Env} {R : Room} {s : State} {m : MethodId} {args : Array Value} {below : List Frame} {meth : Method} {c : Code} {T : State} {locs : List Loc} {cells slots : Nat}
theorem vx_callV (X : Stand p l e R s m args below meth c T locs cells slots) (hexec : p.tables.exec = Jvm.exec) {own C : String} {index : Nat} {y : MethodName} {bytes : ByteArray} {maxL : Nat} {ret : Option FieldType}
    (hown : s.vm.findClass own = some m.cls) (hlink : (Cond.methodLink own index y).before args s = true) (hinst : (Cond.instanceMethod y).before args s = true) (hsel : (Cond.selects C y y).before args s = true)
    (hcode : (Cond.code y bytes maxL ret).before args s = true) (hy : y.cls ≠ "java/lang/invoke/MethodHandle" ∧ y.cls ≠ "java/lang/invoke/VarHandle")
    {W9 : Nat} {Pre : Pt → Array Value → Prop} {Post : Pt → Array Value → Option Value → Pt → Prop} {PostX : Pt → Array Value → Addr → Pt → Prop} (hK : vx_Back l R p e below s args y 3 W9 Pre Post PostX)
    {b : Addr} {cellB : Cell} (hcell : T.heap[b]? = some cellB) (hobj : cellB.vm.isStatics = false) (hcls : s.vm.findClass C = some cellB.cls)
    {g : JFrame} (hg : g.method = m) (hsize : g.locals.size = c.maxLocals) {argsL rest : List Value} (hlen : ∀ sig, parseMethodDescriptor y.desc = some sig → argsL.length = sig.parameters.length)
    (hstack : g.stack = argsL.reverse ++ .ref b :: rest) (hW : 2 * g.monitorRoom + (rest.map fun v => v.category).sum ≤ W9) (hdg : decode c.code g.pc = .ok (.invokevirtual index, 3))
    (hpre : ∀ vm₁, s.WarmedH vm₁ → Pre ⟨T.setVm vm₁, locs, cells, slots⟩ (Value.ref b :: argsL).toArray) :
    (∃ (v : Option Value) (vm₁ : Vm) (B : Pt), s.WarmedH vm₁ ∧ Stand p l e R s m args below meth c B.U B.locs B.cells B.slots ∧ Post ⟨T.setVm vm₁, locs, cells, slots⟩ (Value.ref b :: argsL).toArray v B ∧
      ∀ target, Steps p.tables e below (B.U.setTop { g with pc := g.pc + 3, stack := v.toList ++ rest }) target → Steps p.tables e below (T.setTop g) target) ∨
    (∃ (q : Addr) (vm₁ : Vm) (B : Pt), s.WarmedH vm₁ ∧ Stand p l e R s m args below meth c B.U B.locs B.cells B.slots ∧ PostX ⟨T.setVm vm₁, locs, cells, slots⟩ (Value.ref b :: argsL).toArray q B ∧
      Steps p.tables e below (T.setTop g) ((B.U.setTop { g with stack := rest }).pushFrame (.throwing q))) := by
  obtain ⟨mk, methM, hnamed, hmethM, hstM, habM⟩ := Cond.instanceMethod_spec hinst
  obtain ⟨methM', cM, hmethM', -, -, -, -, -, -, hsigM⟩ := Cond.code_spec hnamed hcode
  cases hmethM.symm.trans hmethM'
  obtain ⟨c2, r2, m2, q1, q2, q3, q4, kP, hkP, hkPi⟩ := Cond.selects_spec hsel
  cases hcls.symm.trans q1
  cases (State.methodFound?_of_named hnamed hy).symm.trans q2
  cases hnamed.symm.trans q3
  have hselP : selectMethod e.platform s.vm cellB.cls mk = .method mk := by rw [Launch.admits_selectMethod X.admits]; exact q4
  obtain ⟨vm₁, X₁, hstep₁⟩ := X.invokevirtual hexec hown hlink hnamed hmethM hstM hkP hkPi hy (a := b) (cell := cellB) hcell
    (fun z h => by rw [h] at hobj; cases hobj) hselP hmethM habM hkP hkPi (g := g) hg (argsL := argsL) (rest := rest) (hlen _ hsigM) hstack hdg
  rcases hK m meth c ⟨T.setVm vm₁, locs, cells, slots⟩ { g with stack := rest } (.invokevirtual index) mk (Value.ref b :: argsL).toArray X₁ hg hsize hdg hW (X₁.named hnamed) (hpre vm₁ X₁.warmed) with ⟨v, B, X', hpost, hsteps⟩ | ⟨q, B, X', hpost, hsteps⟩
  · exact Or.inl ⟨v, vm₁, B, X₁.warmed, X', hpost, fun target h => hstep₁ _ fun acts => by rw [doInvoke_state]; exact hsteps.trans h⟩
  · exact Or.inr ⟨q, vm₁, B, X₁.warmed, X', hpost, hstep₁ _ fun acts => by rw [doInvoke_state]; exact hsteps⟩
theorem vx_callS (X : Stand p l e R s m args below meth c T locs cells slots) (hexec : p.tables.exec = Jvm.exec) {own : String} {index : Nat} {y : MethodName} {bytes : ByteArray} {maxL : Nat} {ret : Option FieldType}
    (hown : s.vm.findClass own = some m.cls) (hlink : (Cond.methodLink own index y).before args s = true) (hstat : (Cond.static y).before args s = true) (hinit : (Cond.initialized y.cls).before args s = true)
    (hcode : (Cond.code y bytes maxL ret).before args s = true) (hy : y.cls ≠ "java/lang/invoke/MethodHandle" ∧ y.cls ≠ "java/lang/invoke/VarHandle")
    {W9 : Nat} {Pre : Pt → Array Value → Prop} {Post : Pt → Array Value → Option Value → Pt → Prop} {PostX : Pt → Array Value → Addr → Pt → Prop} (hK : vx_Back l R p e below s args y 3 W9 Pre Post PostX)
    {g : JFrame} (hg : g.method = m) (hsize : g.locals.size = c.maxLocals) {argsL rest : List Value} (hlen : ∀ sig, parseMethodDescriptor y.desc = some sig → argsL.length = sig.parameters.length)
    (hstack : g.stack = argsL.reverse ++ rest) (hW : 2 * g.monitorRoom + (rest.map fun v => v.category).sum ≤ W9) (hdg : decode c.code g.pc = .ok (.invokestatic index, 3))
    (hpre : ∀ vm₁, s.WarmedH vm₁ → Pre ⟨T.setVm vm₁, locs, cells, slots⟩ argsL.toArray) :
    (∃ (v : Option Value) (vm₁ : Vm) (B : Pt), s.WarmedH vm₁ ∧ Stand p l e R s m args below meth c B.U B.locs B.cells B.slots ∧ Post ⟨T.setVm vm₁, locs, cells, slots⟩ argsL.toArray v B ∧
      ∀ target, Steps p.tables e below (B.U.setTop { g with pc := g.pc + 3, stack := v.toList ++ rest }) target → Steps p.tables e below (T.setTop g) target) ∨
    (∃ (q : Addr) (vm₁ : Vm) (B : Pt), s.WarmedH vm₁ ∧ Stand p l e R s m args below meth c B.U B.locs B.cells B.slots ∧ PostX ⟨T.setVm vm₁, locs, cells, slots⟩ argsL.toArray q B ∧
      Steps p.tables e below (T.setTop g) ((B.U.setTop { g with stack := rest }).pushFrame (.throwing q))) := by
  obtain ⟨mk, hnamed⟩ := Cond.code_named hcode
  obtain ⟨methM, cM, hmethM, -, -, -, -, -, -, hsigM⟩ := Cond.code_spec hnamed hcode
  have hstatic : methM.isStatic = true := Cond.static_spec hnamed hmethM hstat
  obtain ⟨kP, hkP, -⟩ := className_of_methodNamed hnamed
  have hinitP : kP.init = .initialized := Cond.initialized_spec (findClass_of_methodNamed hnamed) hkP hinit
  obtain ⟨vm₁, X₁, hstep₁⟩ := X.invokestatic hexec hown hlink hnamed hmethM hstatic hkP hinitP hy (g := g) hg (argsL := argsL) (rest := rest) (hlen _ hsigM) hstack hdg
  rcases hK m meth c ⟨T.setVm vm₁, locs, cells, slots⟩ { g with stack := rest } (.invokestatic index) mk argsL.toArray X₁ hg hsize hdg hW (X₁.named hnamed) (hpre vm₁ X₁.warmed) with ⟨v, B, X', hpost, hsteps⟩ | ⟨q, B, X', hpost, hsteps⟩
  · exact Or.inl ⟨v, vm₁, B, X₁.warmed, X', hpost, fun target h => hstep₁ _ fun acts => by rw [doInvoke_state]; exact hsteps.trans h⟩
  · exact Or.inr ⟨q, vm₁, B, X₁.warmed, X', hpost, hstep₁ _ fun acts => by rw [doInvoke_state]; exact hsteps⟩
end Calls
theorem vx_cls {s : State} {T : State} {vm₁ : Vm} {E : String} {k : ClassId} (hW : s.WarmedH vm₁) (h : (T.setVm vm₁).vm.findClass E = some k) : s.vm.findClass E = some k := by
  have h1 : vm₁.findClass E = some k := h
  rw [hW.alike.findClass] at h1
  exact h1
/-- the method's frame g, with q thrown over it -/
def vx_W (p : Program) (l : Launch) (e : Env) (R : Room) (s : State) (m : MethodId) (args : Array Value) (below : List Frame) (meth : Method) (c : Code) (H : Heap) (locs : List Loc) (cells slots : Nat) (Q : State → Prop) (g : JFrame) (q : Addr) : Prop :=
  ∀ T : State, T.heap = H → Stand p l e R s m args below meth c T locs cells slots → ∃ t, Steps p.tables e below ((T.setTop g).pushFrame (.throwing q)) t ∧ Q t
def vx_Run (p : Program) (l : Launch) (e : Env) (R : Room) (s : State) (m : MethodId) (args : Array Value) (below : List Frame) (meth : Method) (c : Code) (H : Heap) (locs : List Loc) (cells slots mc ms : Nat) (g : JFrame) (rest : List Value) (Qa : State → Outcome → State → Prop) (XC : String → State → State → Prop) (free : Addr → Prop) : Prop :=
  ∀ T : State, T.heap = H → Stand p l e R s m args below meth c T locs cells slots →
    (∃ (v : Option Value) (st₀ t T' : State) (L : List Loc), st₀.heap = H ∧ Stand p l e R s m args below meth c T' (locs ++ L) (cells + mc) (slots + ms) ∧ (∀ q ∈ L, free q.base) ∧ T'.heap = t.heap ∧ T'.vm = t.vm ∧ Qa st₀ (.returned v) t ∧
      Goes p e below T g T' { g with pc := g.pc + 3, stack := v.toList ++ rest }) ∨
    (∃ (q : Addr) (st₀ t T' : State) (L : List Loc) (E : String) (ce : Cell), st₀.heap = H ∧ Stand p l e R s m args below meth c T' (locs ++ L) (cells + mc) (slots + ms) ∧ (∀ z ∈ L, free z.base) ∧ T'.heap = t.heap ∧ T'.vm = t.vm ∧ XC E st₀ t ∧ t.heap[q]? = some ce ∧ ce.vm = .none ∧ s.vm.findClass E = some ce.cls ∧
      Steps p.tables e below (T.setTop g) ((T'.setTop { g with stack := rest }).pushFrame (.throwing q)))
def vx_X {S : Type} (px : S → Prop) (B : String → S → State → Prop) (A : Nat → Prop) : String → State → State → Prop := fun E st t => ∃ u : S, px u ∧ B E u t ∧ va_F A st t
section Runs
variable {p : Program} {l : Launch} {e : Env} {R : Room} {s : State} {m : MethodId} {args : Array Value} {below : List Frame} {meth : Method} {c : Code} {H : Heap} {locs : List Loc} {cells slots : Nat}
variable {y : MethodName} {bytes cc : ByteArray} {maxL nL mc ms n index : Nat} {ret : Option FieldType} {ws : List Cond} {rm : Room} {Pc : Array Value → State → Prop} {Qc : Array Value → State → Outcome → State → Prop} {XC : String → State → State → Prop} {free : Addr → Prop} {Ts : List Cond} {own C : String} {b : Addr} {As rest : List Value} {g : JFrame}
theorem vx_callBack (cb : CallB R s args own index y bytes maxL ret ws rm mc ms n) (hM : vx_Met l y ws rm Pc Qc XC mc ms free) (hbl : FrameBlind Pc) : vx_Back l R p e below s args y 3 8 (PreOf R mc ms Pc) (PostOf Qc mc ms free) (vx_Post XC mc ms free) := by
  obtain ⟨hrc, hrs, hfr, hlo, hws, hcw, -, hini, -⟩ := cb
  exact vx_back (bytes := bytes) (maxL := maxL) (ret := ret) hM hbl hrc hrs hfr hlo hws hcw (fun a' U hW => word_at hW (Or.inl (by first | rfl | simp [Cond.onTables, Cond.keeps, Cond.steady])) hini)
theorem vx_runV (S : CallFix p m c cc nL s args Ts own) (hM : vx_Met l y ws rm Pc Qc XC mc ms free) (cw : CallW R s args own C index y bytes maxL ret ws rm mc ms n) (hp : PreV s H C b Pc As)
    (hg : g.method = m) (hn : As.length = n) (hsize : g.locals.size = nL) (hstack : g.stack = As.reverse ++ .ref b :: rest) (hW : 2 * g.monitorRoom + (rest.map fun v => v.category).sum ≤ 8) (hdg : decode cc g.pc = .ok (.invokevirtual index, 3)) (hf : cells + mc ≤ R.cells ∧ slots + ms ≤ R.slots) :
    vx_Run p l e R s m args below meth c H locs cells slots mc ms g rest (Qc (Value.ref b :: As).toArray) XC free := by
  have hK : vx_Back l R p e below s args y 3 8 (PreOf R mc ms Pc) (PostOf Qc mc ms free) (vx_Post XC mc ms free) := vx_callBack cw.1 hM hp.1
  obtain ⟨⟨-, -, -, -, -, -, hcode, -, hy, hlen, hl⟩, hin, hse⟩ := cw
  obtain ⟨hx, hb, hml, ho, -⟩ := S
  obtain ⟨-, ⟨cellB, hcB, hoB, hclB⟩, hPc⟩ := hp
  intro T hT X
  rcases vx_callV X hx (C := C) (bytes := bytes) (maxL := maxL) (ret := ret) ho hl hin hse hcode hy hK (by rw [hT]; exact hcB) hoB hclB hg (hsize.trans hml.symm) (argsL := As) (rest := rest) (fun sig h => hn.trans (hlen sig h)) hstack hW (by rw [hb]; exact hdg)
    (fun vm₁ hW₁ => ⟨hf.1, hf.2, hPc (T.setVm vm₁) hT hW₁⟩) with ⟨v, vm₁, ⟨U', l2, c2, s2⟩, hW₁, X', ⟨g', mk, t, L, e1, e2, hq, h1, hL, h2, h3⟩, st⟩ | ⟨q, vm₁, ⟨U', l2, c2, s2⟩, hW₁, X', ⟨g', mk, t, L, E, ce, e1, e2, hq, hce, hcv, hcl, h1, hL, h2, h3⟩, st⟩
  · dsimp only [Pt.U, Pt.locs, Pt.cells, Pt.slots] at X' e1 e2 h1 h2 h3 st
    subst h1; subst h2; subst h3
    exact Or.inl ⟨v, (T.setVm vm₁).calling g' mk (Value.ref b :: As).toArray, t, U', L, hT, X', hL, e1, e2, hq, st⟩
  · dsimp only [Pt.U, Pt.locs, Pt.cells, Pt.slots] at X' e1 e2 h1 h2 h3 st hcl
    subst h1; subst h2; subst h3
    exact Or.inr ⟨q, (T.setVm vm₁).calling g' mk (Value.ref b :: As).toArray, t, U', L, E, ce, hT, X', hL, e1, e2, hq, hce, hcv, vx_cls hW₁ hcl, st⟩
theorem vx_runS (S : CallFix p m c cc nL s args Ts own) (hM : vx_Met l y ws rm Pc Qc XC mc ms free) (cw : CallB R s args own index y bytes maxL ret ws rm mc ms n ∧ (Cond.static y).before args s = true) (hp : PreS s H Pc As)
    (hg : g.method = m) (hn : As.length = n) (hsize : g.locals.size = nL) (hstack : g.stack = As.reverse ++ rest) (hW : 2 * g.monitorRoom + (rest.map fun v => v.category).sum ≤ 8) (hdg : decode cc g.pc = .ok (.invokestatic index, 3)) (hf : cells + mc ≤ R.cells ∧ slots + ms ≤ R.slots) :
    vx_Run p l e R s m args below meth c H locs cells slots mc ms g rest (Qc As.toArray) XC free := by
  have hK : vx_Back l R p e below s args y 3 8 (PreOf R mc ms Pc) (PostOf Qc mc ms free) (vx_Post XC mc ms free) := vx_callBack cw.1 hM hp.1
  obtain ⟨⟨-, -, -, -, -, -, hcode, hini, hy, hlen, hl⟩, hstt⟩ := cw
  obtain ⟨hx, hb, hml, ho, -⟩ := S
  intro T hT X
  rcases vx_callS X hx (bytes := bytes) (maxL := maxL) (ret := ret) ho hl hstt hini hcode hy hK hg (hsize.trans hml.symm) (argsL := As) (rest := rest) (fun sig h => hn.trans (hlen sig h)) hstack hW (by rw [hb]; exact hdg)
    (fun vm₁ hW₁ => ⟨hf.1, hf.2, hp.2 (T.setVm vm₁) hT hW₁⟩) with ⟨v, vm₁, ⟨U', l2, c2, s2⟩, hW₁, X', ⟨g', mk, t, L, e1, e2, hq, h1, hL, h2, h3⟩, st⟩ | ⟨q, vm₁, ⟨U', l2, c2, s2⟩, hW₁, X', ⟨g', mk, t, L, E, ce, e1, e2, hq, hce, hcv, hcl, h1, hL, h2, h3⟩, st⟩
  · dsimp only [Pt.U, Pt.locs, Pt.cells, Pt.slots] at X' e1 e2 h1 h2 h3 st
    subst h1; subst h2; subst h3
    exact Or.inl ⟨v, (T.setVm vm₁).calling g' mk As.toArray, t, U', L, hT, X', hL, e1, e2, hq, st⟩
  · dsimp only [Pt.U, Pt.locs, Pt.cells, Pt.slots] at X' e1 e2 h1 h2 h3 st hcl
    subst h1; subst h2; subst h3
    exact Or.inr ⟨q, (T.setVm vm₁).calling g' mk As.toArray, t, U', L, E, ce, hT, X', hL, e1, e2, hq, hce, hcv, vx_cls hW₁ hcl, st⟩
end Runs
section Rows
variable {p : Program} {l : Launch} {e : Env} {R : Room} {s : State} {m : MethodId} {args : Array Value} {below : List Frame} {meth : Method} {c : Code} {H : Heap} {locs : List Loc} {cells slots : Nat} {Q : State → Prop}
variable {mc ms : Nat} {free : Addr → Prop} {A0 A1 : Nat → Prop} {H0 : Heap} {a : Array Value} {pc : Nat} {ls : Array Slot} {st0 rest : List Value}
theorem vx_keep {st₀ t T' : State} {L : List Loc} (h0 : st₀.heap = H) (e1 : T'.heap = t.heap) (hS : va_S A0 H0 H locs) (hA : ∀ q, q < H.size → A1 q → A0 q) (hf : ∀ q, free q → A0 q) (hL : ∀ q ∈ L, free q.base) (hF : va_F A1 st₀ t) :
    H.size ≤ T'.heap.size ∧ (∀ q : Nat, q < H.size → ¬ A1 q → T'.heap[q]? = H[q]?) ∧ va_S A0 H0 T'.heap (locs ++ L) := by
  obtain ⟨hz, hk⟩ := hF
  rw [h0] at hz hk
  exact ⟨by rw [e1]; exact hz, fun q h1 h2 => by rw [e1]; exact hk q h1 h2,
    ⟨Nat.le_trans hS.1 (by rw [e1]; exact hz), fun q h1 h2 => by rw [e1, hk q (Nat.lt_of_lt_of_le h1 hS.1) (fun z => h2 (hA q (Nat.lt_of_lt_of_le h1 hS.1) z))]; exact hS.2.1 q h1 h2, fun q hq => by
      rcases List.mem_append.mp hq with h | h
      · exact hS.2.2 q h
      · exact hf _ (hL q h)⟩⟩
theorem vx_calli {S SX : Type} {post : Int32 → S → Prop} {px : SX → Prop} {B : S → State → Prop} {BX : String → SX → State → Prop} {AX : Nat → Prop} (hr : vx_Run p l e R s m args below meth c H locs cells slots mc ms (F0 m pc ls st0) rest (va_Qi post B A1 a) (vx_X px BX AX) free) (hS : va_S A0 H0 H locs) (hA : ∀ q, q < H.size → A1 q → A0 q) (hf : ∀ q, free q → A0 q) (hAX : ∀ q, q < H.size → AX q → A0 q)
    (kx : ∀ (E : String) (ce : Cell) (q9 : Addr) (u : SX) (t : State) (H1 : Heap) (locs1 : List Loc), t.heap = H1 → s.vm.Alike t.vm → px u → BX E u t → H.size ≤ H1.size → (∀ q : Nat, q < H.size → ¬ AX q → H1[q]? = H[q]?) → va_S A0 H0 H1 locs1 → H1[q9]? = some ce → ce.vm = .none → s.vm.findClass E = some ce.cls → vx_W p l e R s m args below meth c H1 locs1 (cells + mc) (slots + ms) Q (F0 m pc ls rest) q9)
    (kk : ∀ (r : Int32) (u : S) (t : State) (H1 : Heap) (locs1 : List Loc), t.heap = H1 → s.vm.Alike t.vm → post r u → B u t → H.size ≤ H1.size → (∀ q : Nat, q < H.size → ¬ A1 q → H1[q]? = H[q]?) → va_S A0 H0 H1 locs1 → W p l e R s m args below meth c H1 locs1 (cells + mc) (slots + ms) Q (F0 m (pc + 3) ls (.int r :: rest))) : W p l e R s m args below meth c H locs cells slots Q (F0 m pc ls st0) := by
  intro T hT X
  rcases hr T hT X with ⟨v, st₀, t, T', L, h0, X', hL, e1, e2, ⟨⟨r, u, hv, hp, hb⟩, hF⟩, st⟩ | ⟨q, st₀, t, T', L, E, ce, h0, X', hL, e1, e2, ⟨u, hp, hb, hF⟩, hce, hcv, hcl, st⟩
  · cases hv
    obtain ⟨k1, k2, k3⟩ := vx_keep h0 e1 hS hA hf hL hF
    obtain ⟨t2, a1, b1⟩ := kk r u t T'.heap (locs ++ L) e1.symm (by rw [← e2]; exact X'.warmed.alike) hp hb k1 k2 k3 T' rfl X'
    exact ⟨t2, st t2 a1, b1⟩
  · obtain ⟨k1, k2, k3⟩ := vx_keep h0 e1 hS hAX hf hL hF
    obtain ⟨t2, a1, b1⟩ := kx E ce q u t T'.heap (locs ++ L) e1.symm (by rw [← e2]; exact X'.warmed.alike) hp hb k1 k2 k3 (by rw [e1]; exact hce) hcv hcl T' rfl X'
    exact ⟨t2, st.trans a1, b1⟩
theorem vx_calll {S SX : Type} {post : Int64 → S → Prop} {px : SX → Prop} {B : S → State → Prop} {BX : String → SX → State → Prop} {AX : Nat → Prop} (hr : vx_Run p l e R s m args below meth c H locs cells slots mc ms (F0 m pc ls st0) rest (va_Ql post B A1 a) (vx_X px BX AX) free) (hS : va_S A0 H0 H locs) (hA : ∀ q, q < H.size → A1 q → A0 q) (hf : ∀ q, free q → A0 q) (hAX : ∀ q, q < H.size → AX q → A0 q)
    (kx : ∀ (E : String) (ce : Cell) (q9 : Addr) (u : SX) (t : State) (H1 : Heap) (locs1 : List Loc), t.heap = H1 → s.vm.Alike t.vm → px u → BX E u t → H.size ≤ H1.size → (∀ q : Nat, q < H.size → ¬ AX q → H1[q]? = H[q]?) → va_S A0 H0 H1 locs1 → H1[q9]? = some ce → ce.vm = .none → s.vm.findClass E = some ce.cls → vx_W p l e R s m args below meth c H1 locs1 (cells + mc) (slots + ms) Q (F0 m pc ls rest) q9)
    (kk : ∀ (r : Int64) (u : S) (t : State) (H1 : Heap) (locs1 : List Loc), t.heap = H1 → s.vm.Alike t.vm → post r u → B u t → H.size ≤ H1.size → (∀ q : Nat, q < H.size → ¬ A1 q → H1[q]? = H[q]?) → va_S A0 H0 H1 locs1 → W p l e R s m args below meth c H1 locs1 (cells + mc) (slots + ms) Q (F0 m (pc + 3) ls (.long r :: rest))) : W p l e R s m args below meth c H locs cells slots Q (F0 m pc ls st0) := by
  intro T hT X
  rcases hr T hT X with ⟨v, st₀, t, T', L, h0, X', hL, e1, e2, ⟨⟨r, u, hv, hp, hb⟩, hF⟩, st⟩ | ⟨q, st₀, t, T', L, E, ce, h0, X', hL, e1, e2, ⟨u, hp, hb, hF⟩, hce, hcv, hcl, st⟩
  · cases hv
    obtain ⟨k1, k2, k3⟩ := vx_keep h0 e1 hS hA hf hL hF
    obtain ⟨t2, a1, b1⟩ := kk r u t T'.heap (locs ++ L) e1.symm (by rw [← e2]; exact X'.warmed.alike) hp hb k1 k2 k3 T' rfl X'
    exact ⟨t2, st t2 a1, b1⟩
  · obtain ⟨k1, k2, k3⟩ := vx_keep h0 e1 hS hAX hf hL hF
    obtain ⟨t2, a1, b1⟩ := kx E ce q u t T'.heap (locs ++ L) e1.symm (by rw [← e2]; exact X'.warmed.alike) hp hb k1 k2 k3 (by rw [e1]; exact hce) hcv hcl T' rfl X'
    exact ⟨t2, st.trans a1, b1⟩
theorem vx_callf {S SX : Type} {post : UInt32 → S → Prop} {px : SX → Prop} {B : S → State → Prop} {BX : String → SX → State → Prop} {AX : Nat → Prop} (hr : vx_Run p l e R s m args below meth c H locs cells slots mc ms (F0 m pc ls st0) rest (va_Qf post B A1 a) (vx_X px BX AX) free) (hS : va_S A0 H0 H locs) (hA : ∀ q, q < H.size → A1 q → A0 q) (hf : ∀ q, free q → A0 q) (hAX : ∀ q, q < H.size → AX q → A0 q)
    (kx : ∀ (E : String) (ce : Cell) (q9 : Addr) (u : SX) (t : State) (H1 : Heap) (locs1 : List Loc), t.heap = H1 → s.vm.Alike t.vm → px u → BX E u t → H.size ≤ H1.size → (∀ q : Nat, q < H.size → ¬ AX q → H1[q]? = H[q]?) → va_S A0 H0 H1 locs1 → H1[q9]? = some ce → ce.vm = .none → s.vm.findClass E = some ce.cls → vx_W p l e R s m args below meth c H1 locs1 (cells + mc) (slots + ms) Q (F0 m pc ls rest) q9)
    (kk : ∀ (r : UInt32) (u : S) (t : State) (H1 : Heap) (locs1 : List Loc), t.heap = H1 → s.vm.Alike t.vm → post r u → B u t → H.size ≤ H1.size → (∀ q : Nat, q < H.size → ¬ A1 q → H1[q]? = H[q]?) → va_S A0 H0 H1 locs1 → W p l e R s m args below meth c H1 locs1 (cells + mc) (slots + ms) Q (F0 m (pc + 3) ls (.float r :: rest))) : W p l e R s m args below meth c H locs cells slots Q (F0 m pc ls st0) := by
  intro T hT X
  rcases hr T hT X with ⟨v, st₀, t, T', L, h0, X', hL, e1, e2, ⟨⟨r, u, hv, hp, hb⟩, hF⟩, st⟩ | ⟨q, st₀, t, T', L, E, ce, h0, X', hL, e1, e2, ⟨u, hp, hb, hF⟩, hce, hcv, hcl, st⟩
  · cases hv
    obtain ⟨k1, k2, k3⟩ := vx_keep h0 e1 hS hA hf hL hF
    obtain ⟨t2, a1, b1⟩ := kk r u t T'.heap (locs ++ L) e1.symm (by rw [← e2]; exact X'.warmed.alike) hp hb k1 k2 k3 T' rfl X'
    exact ⟨t2, st t2 a1, b1⟩
  · obtain ⟨k1, k2, k3⟩ := vx_keep h0 e1 hS hAX hf hL hF
    obtain ⟨t2, a1, b1⟩ := kx E ce q u t T'.heap (locs ++ L) e1.symm (by rw [← e2]; exact X'.warmed.alike) hp hb k1 k2 k3 (by rw [e1]; exact hce) hcv hcl T' rfl X'
    exact ⟨t2, st.trans a1, b1⟩
theorem vx_calld {S SX : Type} {post : UInt64 → S → Prop} {px : SX → Prop} {B : S → State → Prop} {BX : String → SX → State → Prop} {AX : Nat → Prop} (hr : vx_Run p l e R s m args below meth c H locs cells slots mc ms (F0 m pc ls st0) rest (va_Qd post B A1 a) (vx_X px BX AX) free) (hS : va_S A0 H0 H locs) (hA : ∀ q, q < H.size → A1 q → A0 q) (hf : ∀ q, free q → A0 q) (hAX : ∀ q, q < H.size → AX q → A0 q)
    (kx : ∀ (E : String) (ce : Cell) (q9 : Addr) (u : SX) (t : State) (H1 : Heap) (locs1 : List Loc), t.heap = H1 → s.vm.Alike t.vm → px u → BX E u t → H.size ≤ H1.size → (∀ q : Nat, q < H.size → ¬ AX q → H1[q]? = H[q]?) → va_S A0 H0 H1 locs1 → H1[q9]? = some ce → ce.vm = .none → s.vm.findClass E = some ce.cls → vx_W p l e R s m args below meth c H1 locs1 (cells + mc) (slots + ms) Q (F0 m pc ls rest) q9)
    (kk : ∀ (r : UInt64) (u : S) (t : State) (H1 : Heap) (locs1 : List Loc), t.heap = H1 → s.vm.Alike t.vm → post r u → B u t → H.size ≤ H1.size → (∀ q : Nat, q < H.size → ¬ A1 q → H1[q]? = H[q]?) → va_S A0 H0 H1 locs1 → W p l e R s m args below meth c H1 locs1 (cells + mc) (slots + ms) Q (F0 m (pc + 3) ls (.double r :: rest))) : W p l e R s m args below meth c H locs cells slots Q (F0 m pc ls st0) := by
  intro T hT X
  rcases hr T hT X with ⟨v, st₀, t, T', L, h0, X', hL, e1, e2, ⟨⟨r, u, hv, hp, hb⟩, hF⟩, st⟩ | ⟨q, st₀, t, T', L, E, ce, h0, X', hL, e1, e2, ⟨u, hp, hb, hF⟩, hce, hcv, hcl, st⟩
  · cases hv
    obtain ⟨k1, k2, k3⟩ := vx_keep h0 e1 hS hA hf hL hF
    obtain ⟨t2, a1, b1⟩ := kk r u t T'.heap (locs ++ L) e1.symm (by rw [← e2]; exact X'.warmed.alike) hp hb k1 k2 k3 T' rfl X'
    exact ⟨t2, st t2 a1, b1⟩
  · obtain ⟨k1, k2, k3⟩ := vx_keep h0 e1 hS hAX hf hL hF
    obtain ⟨t2, a1, b1⟩ := kx E ce q u t T'.heap (locs ++ L) e1.symm (by rw [← e2]; exact X'.warmed.alike) hp hb k1 k2 k3 (by rw [e1]; exact hce) hcv hcl T' rfl X'
    exact ⟨t2, st.trans a1, b1⟩
theorem vx_callv {S SX : Type} {post : S → Prop} {px : SX → Prop} {B : S → State → Prop} {BX : String → SX → State → Prop} {AX : Nat → Prop} (hr : vx_Run p l e R s m args below meth c H locs cells slots mc ms (F0 m pc ls st0) rest (va_Qv post B A1 a) (vx_X px BX AX) free) (hS : va_S A0 H0 H locs) (hA : ∀ q, q < H.size → A1 q → A0 q) (hf : ∀ q, free q → A0 q) (hAX : ∀ q, q < H.size → AX q → A0 q)
    (kx : ∀ (E : String) (ce : Cell) (q9 : Addr) (u : SX) (t : State) (H1 : Heap) (locs1 : List Loc), t.heap = H1 → s.vm.Alike t.vm → px u → BX E u t → H.size ≤ H1.size → (∀ q : Nat, q < H.size → ¬ AX q → H1[q]? = H[q]?) → va_S A0 H0 H1 locs1 → H1[q9]? = some ce → ce.vm = .none → s.vm.findClass E = some ce.cls → vx_W p l e R s m args below meth c H1 locs1 (cells + mc) (slots + ms) Q (F0 m pc ls rest) q9)
    (kk : ∀ (u : S) (t : State) (H1 : Heap) (locs1 : List Loc), t.heap = H1 → s.vm.Alike t.vm → post u → B u t → H.size ≤ H1.size → (∀ q : Nat, q < H.size → ¬ A1 q → H1[q]? = H[q]?) → va_S A0 H0 H1 locs1 → W p l e R s m args below meth c H1 locs1 (cells + mc) (slots + ms) Q (F0 m (pc + 3) ls (rest))) : W p l e R s m args below meth c H locs cells slots Q (F0 m pc ls st0) := by
  intro T hT X
  rcases hr T hT X with ⟨v, st₀, t, T', L, h0, X', hL, e1, e2, ⟨⟨u, hv, hp, hb⟩, hF⟩, st⟩ | ⟨q, st₀, t, T', L, E, ce, h0, X', hL, e1, e2, ⟨u, hp, hb, hF⟩, hce, hcv, hcl, st⟩
  · cases hv
    obtain ⟨k1, k2, k3⟩ := vx_keep h0 e1 hS hA hf hL hF
    obtain ⟨t2, a1, b1⟩ := kk u t T'.heap (locs ++ L) e1.symm (by rw [← e2]; exact X'.warmed.alike) hp hb k1 k2 k3 T' rfl X'
    exact ⟨t2, st t2 a1, b1⟩
  · obtain ⟨k1, k2, k3⟩ := vx_keep h0 e1 hS hAX hf hL hF
    obtain ⟨t2, a1, b1⟩ := kx E ce q u t T'.heap (locs ++ L) e1.symm (by rw [← e2]; exact X'.warmed.alike) hp hb k1 k2 k3 (by rw [e1]; exact hce) hcv hcl T' rfl X'
    exact ⟨t2, st.trans a1, b1⟩
end Rows
section Ends
variable {p : Program} {l : Launch} {e : Env} {R : Room} {s : State} {m : MethodId} {args : Array Value} {below : List Frame} {meth : Method} {c : Code} {H : Heap} {locs : List Loc} {cells slots : Nat} {Q : State → Prop}
variable {mc ms : Nat} {free : Addr → Prop} {A0 A1 : Nat → Prop} {H0 : Heap} {a : Array Value} {ls : Array Slot} {st0 rest : List Value}
variable {Qc : Array Value → State → Outcome → State → Prop} {XC : String → State → State → Prop}
/-- what a body that may throw owes at its end -/
def vx_MQ (below : List Frame) (Qc : Array Value → State → Outcome → State → Prop) (XC : String → State → State → Prop) (a : Array Value) (s : State) (mc ms : Nat) (free : Addr → Prop) : State → Prop := fun t =>
  ∃ o, t.status = .running ∧ Ended t below o ∧ vx_Q Qc XC mc ms free a s o t
theorem vx_ret {g : JFrame} {mc ms : Nat} (k : W p l e R s m args below meth c H locs cells slots (MQ below Qc args s mc ms free) g) : W p l e R s m args below meth c H locs cells slots (vx_MQ below Qc XC args s mc ms free) g := by
  intro T hT X
  obtain ⟨t, a1, o, b1, b2, b3, b4⟩ := k T hT X
  exact ⟨t, a1, o, b1, b2, Or.inl ⟨b3, b4⟩⟩
/-- not caught here: it goes on to the caller -/
theorem vx_widen {g : JFrame} {q : Addr} {k n : Nat} (h1 : cells ≤ k) (h2 : slots ≤ n) (kk : vx_W p l e R s m args below meth c H locs k n Q g q) : vx_W p l e R s m args below meth c H locs cells slots Q g q := fun T hT X => kk T hT (stand_widen X h1 h2)
theorem vx_out {pc : Nat} {E : String} {ce : Cell} {q : Addr} {mc ms : Nat} (hout : ∀ x ∈ c.exceptionTable.toList, covers x pc = false) (hlocks : meth.locks = false) (hcell : H[q]? = some ce) (hv : ce.vm = .none) (hcl : s.vm.findClass E = some ce.cls)
    (hx : ∀ t : State, t.heap = H → s.vm.Alike t.vm → XC E s t) (hf : ∀ z ∈ locs, free z.base) (hc : cells ≤ mc) (hs : slots ≤ ms) :
    vx_W p l e R s m args below meth c H locs cells slots (vx_MQ below Qc XC args s mc ms free) (F0 m pc ls rest) q := by
  intro T hT X
  obtain ⟨st1, hrun, hend, hW, hsm⟩ := X.leaveThrown q (g := F0 m pc ls rest) rfl rfl rfl hout hlocks
  have hcell9 : (T.setFrames (.throwing q :: below)).heap[q]? = some ce := by
    show T.heap[q]? = some ce
    rw [hT]; exact hcell
  exact ⟨_, st1, .threw q, hrun, hend, Or.inr ⟨q, rfl, E, ce, locs, hx _ hT hW.alike, hcell9, hv, hcl, hW, hsm.mono hc hs, hf⟩⟩
theorem vx_frame {U : State} {k n : Nat} (h : s.sameButNew ({ U with vm := s.vm } : State) locs k n) : s.heap.size ≤ U.heap.size ∧ ∀ q : Nat, q < s.heap.size → (∀ z ∈ locs, z.base ≠ q) → U.heap[q]? = s.heap[q]? := by
  obtain ⟨-, h2, -, -, -, h6⟩ := h
  refine ⟨h2, fun q hq hz => ?_⟩
  obtain ⟨c9, e1, e2, e3, e4⟩ := h6 q _ (Array.getElem?_eq_getElem hq)
  have hs : c9.slots = (s.heap[q]).slots := Array.ext_getElem? fun i => e4 i fun hm => hz _ hm rfl
  have h9 : c9 = s.heap[q] := by
    rw [hs] at e2
    exact e2
  have e5 : U.heap[q]? = some c9 := e1
  rw [e5, h9, Array.getElem?_eq_getElem hq]
/-- the words of a throw but the four that speak of the heap -/
def vx_no (w : Cond) : Bool := decide (w ≠ .isRef (.static Bundle.tN "UNASSIGNED_STACK" Bundle.steD)) && decide (w ≠ .isRef (.static Bundle.tN "SUPPRESSED_SENTINEL" Bundle.listD)) && decide (w ≠ .laysStatic Bundle.tN "UNASSIGNED_STACK" Bundle.steD) && decide (w ≠ .laysStatic Bundle.tN "SUPPRESSED_SENTINEL" Bundle.listD)
def vx_at0 (own : String) (ic : Nat) (X : String) (names : List String) : List Cond := (Bundle.ownAtoms0 own ic X names).filter vx_no
def vx_atS (own : String) (ic : Nat) (X : String) (names : List String) : List Cond := (Bundle.ownAtoms own ic X names).filter vx_no
/-- a word that the tables alone decide, or a good one -/
def vx_ot (w : Cond) : Bool := w.onTables || goodWord w
theorem vx_ot_at {args a' : Array Value} {s U : State} {w : Cond} (hW : s.WarmedH U.vm) (hvm : s.vm = U.vm) (hg : vx_ot w = true) (h : w.before args s = true) : w.before a' U = true := by
  simp only [vx_ot, Bool.or_eq_true] at hg
  rcases hg with hg | hg
  · exact va_tabs hg hvm h
  · exact word_at hW (good_of_word hg) h
/-- a list's words: the good ones out of the method's own list, the others by premises of their own -/
theorem vx_hat {args : Array Value} {s : State} {L B : List Cond} (h1 : ∀ w ∈ L.filter goodWord, w.before args s = true) (h2 : ∀ w ∈ L.filter (fun w => !goodWord w), w ∈ B) (h3 : ∀ w ∈ B, w.before args s = true) : ∀ w ∈ L, w.before args s = true := by
  intro w hw
  by_cases g : goodWord w = true
  · exact h1 w (List.mem_filter.mpr ⟨hw, g⟩)
  · refine h3 w (h2 w (List.mem_filter.mpr ⟨hw, ?_⟩))
    show (!goodWord w) = true
    cases hgw : goodWord w
    · rfl
    · exact absurd hgw g
theorem vx_c {args : Array Value} {s : State} {w : Cond} {B : List Cond} (h : w.before args s = true) (t : ∀ w ∈ B, w.before args s = true) : ∀ w' ∈ w :: B, w'.before args s = true := fun w' h' => (List.mem_cons.mp h').elim (fun e => by rw [e]; exact h) (t w')
theorem vx_n {args : Array Value} {s : State} : ∀ w ∈ ([] : List Cond), w.before args s = true := fun _ h => nomatch h
theorem vx_own {args : Array Value} {s : State} {L : List Cond} (h1 : ∀ w ∈ L.filter vx_no, w.before args s = true)
    (hU : (Cond.isRef (.static Bundle.tN "UNASSIGNED_STACK" Bundle.steD)).before args s = true) (hN : (Cond.isRef (.static Bundle.tN "SUPPRESSED_SENTINEL" Bundle.listD)).before args s = true)
    (lU : (Cond.laysStatic Bundle.tN "UNASSIGNED_STACK" Bundle.steD).before args s = true) (lN : (Cond.laysStatic Bundle.tN "SUPPRESSED_SENTINEL" Bundle.listD).before args s = true) : ∀ w ∈ L, w.before args s = true := by
  intro w hw
  by_cases e1 : w = .isRef (.static Bundle.tN "UNASSIGNED_STACK" Bundle.steD)
  · rw [e1]; exact hU
  · by_cases e2 : w = .isRef (.static Bundle.tN "SUPPRESSED_SENTINEL" Bundle.listD)
    · rw [e2]; exact hN
    · by_cases e3 : w = .laysStatic Bundle.tN "UNASSIGNED_STACK" Bundle.steD
      · rw [e3]; exact lU
      · by_cases e4 : w = .laysStatic Bundle.tN "SUPPRESSED_SENTINEL" Bundle.listD
        · rw [e4]; exact lN
        · exact h1 w (List.mem_filter.mpr ⟨hw, by unfold vx_no; rw [decide_eq_true e1, decide_eq_true e2, decide_eq_true e3, decide_eq_true e4]; rfl⟩)
/-- where a static field lies, its class's statics cell in H -/
def vx_L (C n d : String) (A : Nat → Prop) (U : State) (H : Heap) : Prop := ∃ (c : ClassId) (k : Class) (i : Nat) (f : Field) (a : Nat) (cell : Cell), U.vm.findClass C = some c ∧ U.fieldFound? C n d = some (c, k, i, f) ∧ f.isStatic = true ∧ k.statics = some a ∧ H[a]? = some cell ∧ cell.vm.isStatics = true ∧ cell.cls = c ∧ f.slot < cell.slots.size ∧ k.staticTypes[f.slot]? = some f.type ∧ ¬ A a
theorem vx_L.moved {C n d : String} {A : Nat → Prop} {u U : State} {H : Heap} (hvm : u.vm.Alike U.vm) (h : vx_L C n d A u H) : vx_L C n d A U H := by
  obtain ⟨c, k, i, f, a, cell, h1, h2, h3, h4, h5, h6, h7, h8, h9, h10⟩ := h
  obtain ⟨k', hi', he⟩ := State.fieldFound?_setVm hvm h2
  exact ⟨c, k', i, f, a, cell, by rw [hvm.findClass]; exact h1, hi', h3, by rw [he]; exact h4, h5, h6, h7, h8, by rw [he]; exact h9, h10⟩
theorem vx_L.kept {C n d : String} {A : Nat → Prop} {U : State} {H H1 : Heap} (h : vx_L C n d A U H) (hq : ∀ a : Nat, a < H.size → ¬ A a → H1[a]? = H[a]?) : vx_L C n d A U H1 := by
  obtain ⟨c, k, i, f, a, cell, h1, h2, h3, h4, h5, h6, h7, h8, h9, h10⟩ := h
  exact ⟨c, k, i, f, a, cell, h1, h2, h3, h4, by rw [hq a (Array.getElem?_eq_some_iff.mp h5).1 h10]; exact h5, h6, h7, h8, h9, h10⟩
theorem vx_L.narrow {C n d : String} {A B : Nat → Prop} {U : State} {H : Heap} (h : vx_L C n d A U H) (hAB : ∀ q, B q → A q) : vx_L C n d B U H := by
  obtain ⟨c, k, i, f, a, cell, h1, h2, h3, h4, h5, h6, h7, h8, h9, h10⟩ := h
  exact ⟨c, k, i, f, a, cell, h1, h2, h3, h4, h5, h6, h7, h8, h9, fun z => h10 (hAB _ z)⟩
theorem vx_L.word {C n d : String} {A : Nat → Prop} {s : State} {args : Array Value} (h : vx_L C n d A s s.heap) : (Cond.laysStatic C n d).before args s = true := by
  obtain ⟨c, k, i, f, a, cell, h1, h2, h3, h4, h5, h6, h7, h8, h9, -⟩ := h
  show (Cond.laysStatic C n d).holds args s none s [] = true
  exact Cond.laysStatic_of h1 h2 h3 h4 h5 h6 h7 h8 h9
/-- .. and what it holds: null or some reference -/
def vx_Zq (C n d : String) (A : Nat → Prop) (U : State) (H : Heap) : Prop := va_Zq C n d A U H ∧ vx_L C n d A U H
theorem vx_Zq.moved {C n d : String} {A : Nat → Prop} {u U : State} {H : Heap} (hvm : u.vm.Alike U.vm) (h : vx_Zq C n d A u H) : vx_Zq C n d A U H := ⟨va_Zq.moved hvm h.1, vx_L.moved hvm h.2⟩
theorem vx_Zq.kept {C n d : String} {A : Nat → Prop} {U : State} {H H1 : Heap} (h : vx_Zq C n d A U H) (hq : ∀ a : Nat, a < H.size → ¬ A a → H1[a]? = H[a]?) : vx_Zq C n d A U H1 := ⟨va_Zq.kept h.1 hq, vx_L.kept h.2 hq⟩
theorem vx_Zq.narrow {C n d : String} {A B : Nat → Prop} {U : State} {H : Heap} (h : vx_Zq C n d A U H) (hAB : ∀ q, B q → A q) : vx_Zq C n d B U H := ⟨va_Zq.narrow h.1 hAB, vx_L.narrow h.2 hAB⟩
theorem vx_Zqof {args : Array Value} {s : State} {C n d : String} {A : Nat → Prop} (hl : (Cond.laysStatic C n d).before args s = true) (hini : (Cond.initialized C).before args s = true) (h : (Cond.isRef (.static C n d)).before args s = true) (hA : ∀ a : Nat, a < s.heap.size → ¬ A a) : vx_Zq C n d A s s.heap := by
  refine ⟨va_Zqof hl hini h hA, ?_⟩
  obtain ⟨c, k, i, f, a, cell, h1, h2, h3, h4, h5, h6, h7, h8, h9⟩ := Cond.laysStatic_spec hl
  exact ⟨c, k, i, f, a, cell, h1, h2, h3, h4, h5, h6, h7, h8, h9, hA a (Array.getElem?_eq_some_iff.mp h5).1⟩
theorem vx_isRef {C n d : String} {v : Value} {A : Nat → Prop} {s : State} {args : Array Value} (h : va_Z C n d v A s s.heap) (hv : v.isRef = true) : (Cond.isRef (.static C n d)).before args s = true := by
  obtain ⟨cf, kf, fi, f, a, cell, h1, h2, h3, h4, h5, h6, h7, -⟩ := h
  have he : (Term.static C n d).eval args s none [] s = some v := by
    simp [Term.eval, State.fieldNamed?, h1, h2, h4, h5, h6, h7]
  simp only [Cond.before, Cond.holds, Cond.value, he]
  cases v <;> simp_all [Value.isRef]
theorem vx_isRefq {C n d : String} {A : Nat → Prop} {s : State} {args : Array Value} (h : va_Zq C n d A s s.heap) : (Cond.isRef (.static C n d)).before args s = true := by
  rcases h with h | ⟨t, h⟩
  · exact vx_isRef h rfl
  · exact vx_isRef h rfl
/-- the same frame, seen from here: as if the method were called anew in this heap -/
theorem vx_rebase {T : State} (X : Stand p l e R s m args below meth c T locs cells slots) {R' : Room} (hf : R'.frames ≤ R.frames) (hl : R'.locals ≤ R.locals) (hc : cells + R'.cells ≤ R.cells) (hs : slots + R'.slots ≤ R.slots) :
    Stand p l e R' ((T.setVm s.vm).setFrames (.invoking m args :: below)) m args below meth c T [] 0 0 := by
  have htop : (T.setVm s.vm).topJava?.isSome := X.here.top
  have hF : ((T.setVm s.vm).setFrames (.invoking m args :: below)).frames = .invoking m args :: below := State.frames_setFrames _ (State.cur_lt_of_top htop)
  obtain ⟨g₀, hg0⟩ := Option.isSome_iff_exists.mp htop
  obtain ⟨r, hr⟩ := State.topJava?_eq_some.mp hg0
  have hl9 : e.platform.stackLimits (T.setVm s.vm).me = e.platform.stackLimits s.me := X.limits
  have hb9 : (T.setVm s.vm).me.stackBytes = s.me.stackBytes := X.bytes
  refine ⟨X.admits, X.cas, X.clock, hF, ?_, X.hears, X.method, X.code, X.here, X.tail, X.warmed, ?_, ?_, ?_⟩
  · have h := X.room
    have hU : ((T.setVm s.vm).setFrames (.invoking m args :: below)).localsInUse = s.localsInUse := by
      rw [State.localsInUse_invoking hF (meth := meth) (c := c) X.method X.code, State.localsInUse_invoking X.frames X.method X.code]
    simp only [State.hasRoom, Bool.and_eq_true, decide_eq_true_eq] at h ⊢
    obtain ⟨⟨⟨⟨h1, h2, h3, h4, h5, h6⟩, h7⟩, h8⟩, h9⟩ := h
    rw [X.frames, List.length_cons] at h2 h3
    have q1 := X.heapSize
    have q2 := X.used
    simp only [hF, hU, List.length_cons, State.stackLimits_setFrames, State.stackBytes_setFrames, hl9, hb9]
    refine ⟨⟨⟨⟨by omega, by omega, by omega, by omega, by omega, h6⟩, ?_⟩, ?_⟩, X.book⟩
    · show T.heap.size + R'.cells ≤ e.platform.maxCells
      omega
    · show T.slotsUsed + R'.slots ≤ e.platform.maxSlots
      omega
  · rw [State.stackLimits_setFrames]; rfl
  · rw [State.stackBytes_setFrames]; rfl
  · refine ⟨?_, Nat.le_refl _, Nat.le_refl _, ?_, ?_, fun a c9 h9 => ⟨c9, h9, rfl, rfl, fun _ _ => rfl⟩⟩
    · obtain ⟨t, ht, -⟩ := State.frames_cons hr
      show T.setVm s.vm = { ((T.setVm s.vm).setFrames (.invoking m args :: below)).setFrames (T.setVm s.vm).frames with heap := T.heap, slotsUsed := T.slotsUsed }
      rw [State.setFrames_setFrames, State.setFrames_self ht]
      rfl
    · show T.slotsUsed = T.slotsUsed + ((T.heap.toList.drop T.heap.size).map (·.slots.size)).sum
      rw [List.drop_eq_nil_of_le (Nat.le_of_eq Array.length_toList)]
      rfl
    · show ((T.heap.toList.drop T.heap.size).map (·.slots.size)).sum ≤ 0
      rw [List.drop_eq_nil_of_le (Nat.le_of_eq Array.length_toList)]
      exact Nat.le_refl _
/-- 'throw new E()': new; dup; invokespecial; athrow -/
theorem vx_throw0 {cc : ByteArray} {pc : Nat} (hexec : p.tables.exec = Jvm.exec) (hb : c.code = cc) (hl : l.stackTraces = false) {own cls : String} {names : List String} {ik ic mc ms : Nat} {A : Nat → Prop}
    (hown : s.vm.findClass own = some m.cls) (hcls : Bundle.fit cls = true) (hnames : ∀ n ∈ names, Bundle.fit n = true)
    (hk : (Cond.classLink own ik cls).before args s = true) (hini : (Cond.initialized cls).before args s = true) (hat : ∀ w ∈ vx_at0 own ic cls names, w.before args s = true)
    (hgood : ∀ w ∈ Cond.classLink own ik cls :: Cond.initialized cls :: vx_at0 own ic cls names, vx_ot w = true)
    (hU : vx_Zq Bundle.tN "UNASSIGNED_STACK" Bundle.steD A s s.heap) (hN : vx_Zq Bundle.tN "SUPPRESSED_SENTINEL" Bundle.listD A s s.heap) (hS : va_S A s.heap H locs) (hsize : ls.size = c.maxLocals)
    (d0 : decode cc pc = .ok (.new ik, 3)) (d3 : decode cc (pc + 3) = .ok (.dup, 1)) (d4 : decode cc (pc + 4) = .ok (.invokespecial ic, 3)) (d7 : decode cc (pc + 7) = .ok (.athrow, 1))
    (hout : ∀ x ∈ c.exceptionTable.toList, covers x (pc + 7) = false)
    (hRframes : names.length + 3 < R.frames) (hRlocals : (rest.map fun v => v.category).sum + (13 * (names.length + 1) + 42) ≤ R.locals) (hRcells : cells + 1 ≤ R.cells) (hRslots : slots + 6 ≤ R.slots) (hlocks : meth.locks = false)
    (hx : ∀ t : State, s.vm.Alike t.vm → H.size ≤ t.heap.size → (∀ q : Nat, q < H.size → t.heap[q]? = H[q]?) → XC cls s t)
    (hf : ∀ z ∈ locs, free z.base) (hc : cells + 1 ≤ mc) (hs : slots + 6 ≤ ms) :
    W p l e R s m args below meth c H locs cells slots (vx_MQ below Qc XC args s mc ms free) (F0 m pc ls rest) := by
  intro T hT X
  have htr : e.platform.stackTraces = false := (show e.platform.stackTraces = l.stackTraces by rw [X.admits.platform]).trans hl
  have Y := vx_rebase X (R' := { frames := R.frames, locals := R.locals, cells := 1, slots := 6 }) (Nat.le_refl _) (Nat.le_refl _) hRcells hRslots
  obtain ⟨s', hA⟩ : ∃ z, z = (T.setVm s.vm).setFrames (.invoking m args :: below) := ⟨_, rfl⟩
  rw [← hA] at Y
  have hvm : s'.vm = s.vm := by rw [hA]; rfl
  have hhp : s'.heap = H := by rw [hA]; exact hT
  have hW0 : s.WarmedH s'.vm := by rw [hvm]; exact State.WarmedH.refl s
  have hat' : ∀ w ∈ vx_at0 own ic cls names, w.before args s' = true := fun w hw => vx_ot_at hW0 hvm.symm (hgood w (List.mem_cons_of_mem _ (List.mem_cons_of_mem _ hw))) (hat w hw)
  have hk' : (Cond.classLink own ik cls).before args s' = true := vx_ot_at hW0 hvm.symm (hgood _ List.mem_cons_self) hk
  have hini' : (Cond.initialized cls).before args s' = true := vx_ot_at hW0 hvm.symm (hgood _ (List.mem_cons_of_mem _ List.mem_cons_self)) hini
  have hU' : vx_Zq Bundle.tN "UNASSIGNED_STACK" Bundle.steD A s' s'.heap := by rw [hhp]; exact vx_Zq.moved hW0.alike (hU.kept hS.2.1)
  have hN' : vx_Zq Bundle.tN "SUPPRESSED_SENTINEL" Bundle.listD A s' s'.heap := by rw [hhp]; exact vx_Zq.moved hW0.alike (hN.kept hS.2.1)
  have h : ∀ w ∈ Bundle.ownAtoms0 own ic cls names, w.before args s' = true := vx_own hat' (vx_isRefq hU'.1) (vx_isRefq hN'.1) hU'.2.word hN'.2.word
  have hown' : s'.vm.findClass own = some m.cls := by rw [hvm]; exact hown
  have hins : (Cond.instantiable cls 6).before args s' = true := h _ (by simp [Bundle.ownAtoms0])
  obtain ⟨vm₁, cX, kX, hfX, hkX, -, -, X₁, st1⟩ := Y.newCold hexec (own := own) (C := cls) (index := ik) (n := 6) hown' hk' hins hini'
    (g := F0 m pc ls rest) rfl (by rw [hb]; exact d0) (Nat.le_refl _) (Nat.le_refl _)
  generalize hT1 : (T.setVm vm₁).pushCell { cls := cX, slots := kX.instanceTypes.map defaultValue, vm := .none } = T1 at X₁ st1
  have hcat : (Value.ref T.heap.size).category = 1 := rfl
  have hcellA : T1.heap[T.heap.size]? = some (freshCell cX kX) := by rw [← hT1]; exact State.heap_pushCell_size _ _
  have d3' : decode c.code (pc + 3) = .ok (.dup, 1) := by rw [hb]; exact d3
  obtain ⟨U, hsteps, hrun, hend, hW, hsame, ce, hce, hO⟩ := X₁.ctorThrow0 hexec htr (own := own) (cls := cls) (names := names) (ic := ic) hown' hcls hnames h (fun x hx => nomatch hx) hfX hkX hcellA (by rw [hhp, hT]; exact Nat.le_refl _)
    (g := { method := m, pc := pc + 4, locals := ls, stack := .ref T.heap.size :: .ref T.heap.size :: rest, locked := none }) rfl hsize rfl rfl (rest := rest) rfl
    (by rw [hb]; exact d4) (by rw [hb]; exact d7) hout hRframes (by simp only [List.map_cons, List.sum_cons, hcat]; omega) hlocks
  obtain ⟨f1, f2⟩ := vx_frame hsame
  rw [hhp] at f1 f2
  have hWs : s.WarmedH U.vm := State.WarmedH.trans hW0 hW
  have hcl : s.vm.findClass cls = some ce.cls := by
    have h9 := hO.cls
    rw [hvm] at h9
    exact h9
  have hall : s.sameButNew ({ U with vm := s.vm } : State) locs mc ms := by
    subst hA
    obtain ⟨e1, e2⟩ := hsame
    rw [State.setFrames_setFrames] at e1
    have h2 : (T.setVm s.vm).sameButNew ({ U with vm := s.vm } : State) [] (0 + 1) (0 + 6) := ⟨e1, e2⟩
    have h3 := X.same.trans h2
    rw [List.append_nil] at h3
    exact h3.mono hc hs
  refine ⟨U, ?_, .threw T.heap.size, hrun, hend, Or.inr ⟨T.heap.size, rfl, cls, ce, locs, hx U hWs.alike f1 (fun q hq => f2 q hq (fun z hz => nomatch hz)), hce, hO.vm, hcl, hWs, hall, hf⟩⟩
  refine st1 _ ?_
  show Steps p.tables e below (T1.setTop { method := m, pc := pc + 3, locals := ls, stack := .ref T.heap.size :: rest, locked := none }) _
  jvm_step X₁.here [X₁.here.top, hexec, d3', Value.category]
  exact hsteps
/-- 'throw new E("text")': new; dup; ldc; invokespecial; athrow -/
theorem vx_throwS {cc : ByteArray} {pc : Nat} (hexec : p.tables.exec = Jvm.exec) (hb : c.code = cc) (hl : l.stackTraces = false) {own cls text : String} {names : List String} {ik is ic mc ms sa : Nat} {A : Nat → Prop}
    (hown : s.vm.findClass own = some m.cls) (hcls : Bundle.fit cls = true) (hnames : ∀ n ∈ names, Bundle.fit n = true)
    (hk : (Cond.classLink own ik cls).before args s = true) (hini : (Cond.initialized cls).before args s = true) (hstr : vk_R own is text sa s) (hat : ∀ w ∈ vx_atS own ic cls names, w.before args s = true)
    (hgood : ∀ w ∈ Cond.classLink own ik cls :: Cond.initialized cls :: vx_atS own ic cls names, vx_ot w = true)
    (hU : vx_Zq Bundle.tN "UNASSIGNED_STACK" Bundle.steD A s s.heap) (hN : vx_Zq Bundle.tN "SUPPRESSED_SENTINEL" Bundle.listD A s s.heap) (hS : va_S A s.heap H locs) (hsize : ls.size = c.maxLocals)
    (d0 : decode cc pc = .ok (.new ik, 3)) (d3 : decode cc (pc + 3) = .ok (.dup, 1)) (d4 : decode cc (pc + 4) = .ok (.ldc is, 2)) (d6 : decode cc (pc + 6) = .ok (.invokespecial ic, 3)) (d9 : decode cc (pc + 9) = .ok (.athrow, 1))
    (hout : ∀ x ∈ c.exceptionTable.toList, covers x (pc + 9) = false)
    (hRframes : names.length + 3 < R.frames) (hRlocals : (rest.map fun v => v.category).sum + (13 * (names.length + 1) + 43) ≤ R.locals) (hRcells : cells + 1 ≤ R.cells) (hRslots : slots + 6 ≤ R.slots) (hlocks : meth.locks = false)
    (hx : ∀ t : State, s.vm.Alike t.vm → H.size ≤ t.heap.size → (∀ q : Nat, q < H.size → t.heap[q]? = H[q]?) → XC cls s t)
    (hf : ∀ z ∈ locs, free z.base) (hc : cells + 1 ≤ mc) (hs : slots + 6 ≤ ms) :
    W p l e R s m args below meth c H locs cells slots (vx_MQ below Qc XC args s mc ms free) (F0 m pc ls rest) := by
  intro T hT X
  have htr : e.platform.stackTraces = false := (show e.platform.stackTraces = l.stackTraces by rw [X.admits.platform]).trans hl
  have Y := vx_rebase X (R' := { frames := R.frames, locals := R.locals, cells := 1, slots := 6 }) (Nat.le_refl _) (Nat.le_refl _) hRcells hRslots
  obtain ⟨s', hA⟩ : ∃ z, z = (T.setVm s.vm).setFrames (.invoking m args :: below) := ⟨_, rfl⟩
  rw [← hA] at Y
  have hvm : s'.vm = s.vm := by rw [hA]; rfl
  have hhp : s'.heap = H := by rw [hA]; exact hT
  have hW0 : s.WarmedH s'.vm := by rw [hvm]; exact State.WarmedH.refl s
  have hat' : ∀ w ∈ vx_atS own ic cls names, w.before args s' = true := fun w hw => vx_ot_at hW0 hvm.symm (hgood w (List.mem_cons_of_mem _ (List.mem_cons_of_mem _ hw))) (hat w hw)
  have hk' : (Cond.classLink own ik cls).before args s' = true := vx_ot_at hW0 hvm.symm (hgood _ List.mem_cons_self) hk
  have hini' : (Cond.initialized cls).before args s' = true := vx_ot_at hW0 hvm.symm (hgood _ (List.mem_cons_of_mem _ List.mem_cons_self)) hini
  have hU' : vx_Zq Bundle.tN "UNASSIGNED_STACK" Bundle.steD A s' s'.heap := by rw [hhp]; exact vx_Zq.moved hW0.alike (hU.kept hS.2.1)
  have hN' : vx_Zq Bundle.tN "SUPPRESSED_SENTINEL" Bundle.listD A s' s'.heap := by rw [hhp]; exact vx_Zq.moved hW0.alike (hN.kept hS.2.1)
  have h : ∀ w ∈ Bundle.ownAtoms own ic cls names, w.before args s' = true := vx_own hat' (vx_isRefq hU'.1) (vx_isRefq hN'.1) hU'.2.word hN'.2.word
  have hown' : s'.vm.findClass own = some m.cls := by rw [hvm]; exact hown
  have hins : (Cond.instantiable cls 6).before args s' = true := h _ (by simp [Bundle.ownAtoms])
  obtain ⟨vm₁, cX, kX, hfX, hkX, -, -, X₁, st1⟩ := Y.newCold hexec (own := own) (C := cls) (index := ik) (n := 6) hown' hk' hins hini'
    (g := F0 m pc ls rest) rfl (by rw [hb]; exact d0) (Nat.le_refl _) (Nat.le_refl _)
  generalize hT1 : (T.setVm vm₁).pushCell { cls := cX, slots := kX.instanceTypes.map defaultValue, vm := .none } = T1 at X₁ st1
  have hcat : (Value.ref T.heap.size).category = 1 := rfl
  have hcellA : T1.heap[T.heap.size]? = some (freshCell cX kX) := by rw [← hT1]; exact State.heap_pushCell_size _ _
  have d3' : decode c.code (pc + 3) = .ok (.dup, 1) := by rw [hb]; exact d3
  have d4' : decode c.code (pc + 4) = .ok (.ldc is, 2) := by rw [hb]; exact d4
  have hstr' : vk_R own is text sa s' := vk_R.warm hW0 hstr
  obtain ⟨U, hsteps, hrun, hend, hW, hsame, ce, hce, hO⟩ := X₁.ctorThrowS hexec htr (own := own) (cls := cls) (names := names) (ic := ic) hown' hcls hnames h (fun x hx => nomatch hx) hfX hkX hcellA (by rw [hhp, hT]; exact Nat.le_refl _) (msg := .ref sa) rfl
    (g := { method := m, pc := pc + 6, locals := ls, stack := .ref sa :: .ref T.heap.size :: .ref T.heap.size :: rest, locked := none }) rfl hsize rfl rfl (rest := rest) rfl
    (by rw [hb]; exact d6) (by rw [hb]; exact d9) hout hRframes (by simp only [List.map_cons, List.sum_cons, hcat]; omega) hlocks
  obtain ⟨f1, f2⟩ := vx_frame hsame
  rw [hhp] at f1 f2
  have hWs : s.WarmedH U.vm := State.WarmedH.trans hW0 hW
  have hcl : s.vm.findClass cls = some ce.cls := by
    have h9 := hO.cls
    rw [hvm] at h9
    exact h9
  have hall : s.sameButNew ({ U with vm := s.vm } : State) locs mc ms := by
    subst hA
    obtain ⟨e1, e2⟩ := hsame
    rw [State.setFrames_setFrames] at e1
    have h2 : (T.setVm s.vm).sameButNew ({ U with vm := s.vm } : State) [] (0 + 1) (0 + 6) := ⟨e1, e2⟩
    have h3 := X.same.trans h2
    rw [List.append_nil] at h3
    exact h3.mono hc hs
  refine ⟨U, ?_, .threw T.heap.size, hrun, hend, Or.inr ⟨T.heap.size, rfl, cls, ce, locs, hx U hWs.alike f1 (fun q hq => f2 q hq (fun z hz => nomatch hz)), hce, hO.vm, hcl, hWs, hall, hf⟩⟩
  refine st1 _ ?_
  show Steps p.tables e below (T1.setTop { method := m, pc := pc + 3, locals := ls, stack := .ref T.heap.size :: rest, locked := none }) _
  jvm_step X₁.here [X₁.here.top, hexec, d3', Value.category]
  exact X₁.ldcString hexec (own := own) (text := text) (index := is) (a := sa) hown' hstr'.1 hstr'.2
    (g := { method := m, pc := pc + 4, locals := ls, stack := .ref T.heap.size :: .ref T.heap.size :: rest, locked := none }) rfl d4' _ hsteps
/-- 'throw new E("text")', the text by a wide index -/
theorem vx_throwSW {cc : ByteArray} {pc : Nat} (hexec : p.tables.exec = Jvm.exec) (hb : c.code = cc) (hl : l.stackTraces = false) {own cls text : String} {names : List String} {ik is ic mc ms sa : Nat} {A : Nat → Prop}
    (hown : s.vm.findClass own = some m.cls) (hcls : Bundle.fit cls = true) (hnames : ∀ n ∈ names, Bundle.fit n = true)
    (hk : (Cond.classLink own ik cls).before args s = true) (hini : (Cond.initialized cls).before args s = true) (hstr : vk_R own is text sa s) (hat : ∀ w ∈ vx_atS own ic cls names, w.before args s = true)
    (hgood : ∀ w ∈ Cond.classLink own ik cls :: Cond.initialized cls :: vx_atS own ic cls names, vx_ot w = true)
    (hU : vx_Zq Bundle.tN "UNASSIGNED_STACK" Bundle.steD A s s.heap) (hN : vx_Zq Bundle.tN "SUPPRESSED_SENTINEL" Bundle.listD A s s.heap) (hS : va_S A s.heap H locs) (hsize : ls.size = c.maxLocals)
    (d0 : decode cc pc = .ok (.new ik, 3)) (d3 : decode cc (pc + 3) = .ok (.dup, 1)) (d4 : decode cc (pc + 4) = .ok (.ldc_w is, 3)) (d7 : decode cc (pc + 7) = .ok (.invokespecial ic, 3)) (d10 : decode cc (pc + 10) = .ok (.athrow, 1))
    (hout : ∀ x ∈ c.exceptionTable.toList, covers x (pc + 10) = false)
    (hRframes : names.length + 3 < R.frames) (hRlocals : (rest.map fun v => v.category).sum + (13 * (names.length + 1) + 43) ≤ R.locals) (hRcells : cells + 1 ≤ R.cells) (hRslots : slots + 6 ≤ R.slots) (hlocks : meth.locks = false)
    (hx : ∀ t : State, s.vm.Alike t.vm → H.size ≤ t.heap.size → (∀ q : Nat, q < H.size → t.heap[q]? = H[q]?) → XC cls s t)
    (hf : ∀ z ∈ locs, free z.base) (hc : cells + 1 ≤ mc) (hs : slots + 6 ≤ ms) :
    W p l e R s m args below meth c H locs cells slots (vx_MQ below Qc XC args s mc ms free) (F0 m pc ls rest) := by
  intro T hT X
  have htr : e.platform.stackTraces = false := (show e.platform.stackTraces = l.stackTraces by rw [X.admits.platform]).trans hl
  have Y := vx_rebase X (R' := { frames := R.frames, locals := R.locals, cells := 1, slots := 6 }) (Nat.le_refl _) (Nat.le_refl _) hRcells hRslots
  obtain ⟨s', hA⟩ : ∃ z, z = (T.setVm s.vm).setFrames (.invoking m args :: below) := ⟨_, rfl⟩
  rw [← hA] at Y
  have hvm : s'.vm = s.vm := by rw [hA]; rfl
  have hhp : s'.heap = H := by rw [hA]; exact hT
  have hW0 : s.WarmedH s'.vm := by rw [hvm]; exact State.WarmedH.refl s
  have hat' : ∀ w ∈ vx_atS own ic cls names, w.before args s' = true := fun w hw => vx_ot_at hW0 hvm.symm (hgood w (List.mem_cons_of_mem _ (List.mem_cons_of_mem _ hw))) (hat w hw)
  have hk' : (Cond.classLink own ik cls).before args s' = true := vx_ot_at hW0 hvm.symm (hgood _ List.mem_cons_self) hk
  have hini' : (Cond.initialized cls).before args s' = true := vx_ot_at hW0 hvm.symm (hgood _ (List.mem_cons_of_mem _ List.mem_cons_self)) hini
  have hU' : vx_Zq Bundle.tN "UNASSIGNED_STACK" Bundle.steD A s' s'.heap := by rw [hhp]; exact vx_Zq.moved hW0.alike (hU.kept hS.2.1)
  have hN' : vx_Zq Bundle.tN "SUPPRESSED_SENTINEL" Bundle.listD A s' s'.heap := by rw [hhp]; exact vx_Zq.moved hW0.alike (hN.kept hS.2.1)
  have h : ∀ w ∈ Bundle.ownAtoms own ic cls names, w.before args s' = true := vx_own hat' (vx_isRefq hU'.1) (vx_isRefq hN'.1) hU'.2.word hN'.2.word
  have hown' : s'.vm.findClass own = some m.cls := by rw [hvm]; exact hown
  have hins : (Cond.instantiable cls 6).before args s' = true := h _ (by simp [Bundle.ownAtoms])
  obtain ⟨vm₁, cX, kX, hfX, hkX, -, -, X₁, st1⟩ := Y.newCold hexec (own := own) (C := cls) (index := ik) (n := 6) hown' hk' hins hini'
    (g := F0 m pc ls rest) rfl (by rw [hb]; exact d0) (Nat.le_refl _) (Nat.le_refl _)
  generalize hT1 : (T.setVm vm₁).pushCell { cls := cX, slots := kX.instanceTypes.map defaultValue, vm := .none } = T1 at X₁ st1
  have hcat : (Value.ref T.heap.size).category = 1 := rfl
  have hcellA : T1.heap[T.heap.size]? = some (freshCell cX kX) := by rw [← hT1]; exact State.heap_pushCell_size _ _
  have d3' : decode c.code (pc + 3) = .ok (.dup, 1) := by rw [hb]; exact d3
  have d4' : decode c.code (pc + 4) = .ok (.ldc_w is, 3) := by rw [hb]; exact d4
  have hstr' : vk_R own is text sa s' := vk_R.warm hW0 hstr
  obtain ⟨U, hsteps, hrun, hend, hW, hsame, ce, hce, hO⟩ := X₁.ctorThrowS hexec htr (own := own) (cls := cls) (names := names) (ic := ic) hown' hcls hnames h (fun x hx => nomatch hx) hfX hkX hcellA (by rw [hhp, hT]; exact Nat.le_refl _) (msg := .ref sa) rfl
    (g := { method := m, pc := pc + 7, locals := ls, stack := .ref sa :: .ref T.heap.size :: .ref T.heap.size :: rest, locked := none }) rfl hsize rfl rfl (rest := rest) rfl
    (by rw [hb]; exact d7) (by rw [hb]; exact d10) hout hRframes (by simp only [List.map_cons, List.sum_cons, hcat]; omega) hlocks
  obtain ⟨f1, f2⟩ := vx_frame hsame
  rw [hhp] at f1 f2
  have hWs : s.WarmedH U.vm := State.WarmedH.trans hW0 hW
  have hcl : s.vm.findClass cls = some ce.cls := by
    have h9 := hO.cls
    rw [hvm] at h9
    exact h9
  have hall : s.sameButNew ({ U with vm := s.vm } : State) locs mc ms := by
    subst hA
    obtain ⟨e1, e2⟩ := hsame
    rw [State.setFrames_setFrames] at e1
    have h2 : (T.setVm s.vm).sameButNew ({ U with vm := s.vm } : State) [] (0 + 1) (0 + 6) := ⟨e1, e2⟩
    have h3 := X.same.trans h2
    rw [List.append_nil] at h3
    exact h3.mono hc hs
  refine ⟨U, ?_, .threw T.heap.size, hrun, hend, Or.inr ⟨T.heap.size, rfl, cls, ce, locs, hx U hWs.alike f1 (fun q hq => f2 q hq (fun z hz => nomatch hz)), hce, hO.vm, hcl, hWs, hall, hf⟩⟩
  refine st1 _ ?_
  show Steps p.tables e below (T1.setTop { method := m, pc := pc + 3, locals := ls, stack := .ref T.heap.size :: rest, locked := none }) _
  jvm_step X₁.here [X₁.here.top, hexec, d3', Value.category]
  exact X₁.ldcStringW hexec (own := own) (text := text) (index := is) (a := sa) hown' hstr'.1 hstr'.2
    (g := { method := m, pc := pc + 4, locals := ls, stack := .ref T.heap.size :: .ref T.heap.size :: rest, locked := none }) rfl d4' _ hsteps
end Ends
section Bodies
variable {l : Launch}
theorem vx_ofW {y : MethodName} {ws ws' : List Cond} {rm : Room} {Pc : Array Value → State → Prop} {Qc : Array Value → State → Outcome → State → Prop} {XC : String → State → State → Prop} {mc ms : Nat} {free : Addr → Prop} {cc : ByteArray} {maxL : Nat} {ret : Option FieldType}
    (hy : plainName y.cls = true) (hw : ws = Cond.code y cc maxL ret :: ws')
    (body : ∀ p e s m args below meth c s₁, BodyLoose p l y (headSpec ws rm) cc maxL ret e s m args below meth c s₁ → c.maxLocals = maxL → (∀ x ∈ c.exceptionTable.toList, False) → Pc args s →
      W p l e (headSpec ws rm).room s m args below meth c s.heap [] 0 0 (vx_MQ below Qc XC args s mc ms free) (entryFrame m args maxL)) : vx_Met l y ws rm Pc Qc XC mc ms free := by
  refine MetFree.of_bodyS (code := cc) (maxLocals := maxL) (ret := ret) hy ?_ ?_
  · intro args s m h hn
    obtain ⟨meth, c, h1, h2, h3, h4, h5, h6, -, -⟩ := Cond.code_spec hn (atoms_spec (ws := ws) h _ (by rw [hw]; exact List.mem_cons_self))
    exact ⟨meth, c, h1, h2, h3, h4, h5, h6⟩
  · intro p e s m args below meth c s₁ B hml hP _
    have hh0 : s₁.heap = s.heap := by rw [B.state]; rfl
    have ht : ∀ x ∈ c.exceptionTable.toList, False := by
      obtain ⟨meth9, c9, h1, h2, -, -, -, -, h7, -⟩ := Cond.code_spec B.named (atoms_spec (ws := ws) B.pre _ (by rw [hw]; exact List.mem_cons_self))
      cases Option.some.inj (h1.symm.trans B.method)
      cases Option.some.inj (h2.symm.trans (Stand.of_body B).code)
      intro x hx
      rw [Array.isEmpty_iff.mp h7] at hx
      cases hx
    obtain ⟨t, a1, o, b1, b2, b3⟩ := body p e s m args below meth c s₁ B hml ht hP s₁ hh0 (Stand.of_body B)
    exact ⟨t, o, a1, b1, b2, b3⟩
/-- the table of a body with handlers -/
theorem vx_table {p : Program} {x y : MethodName} {S : Spec} {cc bytes : ByteArray} {maxL maxL' : Nat} {ret ret' : Option FieldType} {e : Env} {s s₁ : State} {m : MethodId} {args : Array Value} {below : List Frame} {meth : Method} {c : Code} {hh : List (Nat × Nat × Nat × Nat)}
    (B : BodyLoose p l y S cc maxL ret e s m args below meth c s₁) (h : (Cond.codeWith y bytes maxL' ret' hh).before args s = true) : c.exceptionTable.toList = tableOf hh := by
  obtain ⟨m9, meth9, c9, hn9, h1, h2, -, -, h6, -⟩ := Cond.codeWith_spec h
  cases Option.some.inj (hn9.symm.trans B.named)
  cases Option.some.inj (h1.symm.trans B.method)
  cases Option.some.inj (h2.symm.trans (Stand.of_body B).code)
  rw [← h6, table_eq]
end Bodies
end VXA
/-! ===== END ===== -/
/-! ===== BEGIN a static call of a method with an exception table ===== -/
section VXS
variable {p : Program} {l : Launch} {e : Env} {R : Room} {s : State} {m : MethodId} {args : Array Value} {below : List Frame} {meth : Method} {c : Code} {T : State} {H : Heap} {locs : List Loc} {cells slots : Nat}
abbrev vx_CSW (R : Room) (s : State) (args : Array Value) (own : String) (index : Nat) (y : MethodName) (bytes : ByteArray) (maxL : Nat) (ret : Option FieldType) (hh : List (Nat × Nat × Nat × Nat)) (ws : List Cond) (rm : Room) (mc ms n : Nat) : Prop :=
  (rm.cells = mc ∧ rm.slots = ms ∧ rm.frames + 1 ≤ R.frames ∧ 8 + (maxL + 11) + rm.locals ≤ R.locals ∧ (∀ w ∈ ws, ∀ (a' : Array Value) (U : State), s.WarmedH U.vm → w.before a' U = true) ∧ Cond.codeWith y bytes maxL ret hh ∈ ws) ∧
  (Cond.codeWith y bytes maxL ret hh).before args s = true ∧ (Cond.initialized y.cls).before args s = true ∧ (y.cls ≠ "java/lang/invoke/MethodHandle" ∧ y.cls ≠ "java/lang/invoke/VarHandle") ∧
  (∀ sig, parseMethodDescriptor y.desc = some sig → n = sig.parameters.length) ∧ (Cond.methodLink own index y).before args s = true ∧ (Cond.static y).before args s = true
theorem vx_cwSW {own : String} {index maxL mc ms : Nat} {y : MethodName} {bytes : ByteArray} {ret : Option FieldType} {hh : List (Nat × Nat × Nat × Nat)} {Ts ws ws' : List Cond} {rm : Room} (n : Nat) (ht : ∀ w ∈ Ts, w.before args s = true) (hT : GoodIn Ts (va_wsS own index y ws)) (hw : ws = Cond.codeWith y bytes maxL ret hh :: ws') (hrc : rm.cells = mc) (hrs : rm.slots = ms)
    (hd : y.cls ≠ "java/lang/invoke/MethodHandle" ∧ y.cls ≠ "java/lang/invoke/VarHandle" ∧ (parseMethodDescriptor y.desc).map (fun d => d.parameters.length) = some n) (hR : rm.frames + 1 ≤ R.frames ∧ 8 + (maxL + 11) + rm.locals ≤ R.locals) :
    vx_CSW R s args own index y bytes maxL ret hh ws rm mc ms n := by
  have ok : ∀ w ∈ va_wsS own index y ws, w.before args s = true := fun w h => ht w (hT w h).1
  have hG : GoodIn Ts ws := fun w h => hT w (by unfold va_wsS; exact List.mem_append_right _ h)
  have hc : Cond.codeWith y bytes maxL ret hh ∈ ws := by rw [hw]; exact List.mem_cons_self
  refine ⟨⟨hrc, hrs, hR.1, hR.2, pay_in ht hG, hc⟩, ht _ (hG _ hc).1, ok _ (by simp [va_wsS]), ⟨hd.1, hd.2.1⟩, fun sig h => ?_, ok _ (by simp [va_wsS]), ok _ (by simp [va_wsS])⟩
  have h2 := hd.2.2
  rw [h] at h2
  exact (Option.some.inj h2).symm
theorem vx_callSW (X : Stand p l e R s m args below meth c T locs cells slots) (hexec : p.tables.exec = Jvm.exec) {own : String} {index : Nat} {y : MethodName} {bytes : ByteArray} {maxL : Nat} {ret : Option FieldType} {hh : List (Nat × Nat × Nat × Nat)}
    (hown : s.vm.findClass own = some m.cls) (hlink : (Cond.methodLink own index y).before args s = true) (hstat : (Cond.static y).before args s = true) (hinit : (Cond.initialized y.cls).before args s = true)
    (hcode : (Cond.codeWith y bytes maxL ret hh).before args s = true) (hy : y.cls ≠ "java/lang/invoke/MethodHandle" ∧ y.cls ≠ "java/lang/invoke/VarHandle")
    {W9 : Nat} {Pre : Pt → Array Value → Prop} {Post : Pt → Array Value → Option Value → Pt → Prop} (hK : Back l R p e below s args y 3 W9 Pre Post)
    {g : JFrame} (hg : g.method = m) (hsize : g.locals.size = c.maxLocals) {argsL rest : List Value} (hlen : ∀ sig, parseMethodDescriptor y.desc = some sig → argsL.length = sig.parameters.length)
    (hstack : g.stack = argsL.reverse ++ rest) (hW : 2 * g.monitorRoom + (rest.map fun v => v.category).sum ≤ W9) (hdg : decode c.code g.pc = .ok (.invokestatic index, 3))
    (hpre : ∀ vm₁, s.WarmedH vm₁ → Pre ⟨T.setVm vm₁, locs, cells, slots⟩ argsL.toArray) :
    ∃ (v : Option Value) (vm₁ : Vm) (B : Pt), s.WarmedH vm₁ ∧ Stand p l e R s m args below meth c B.U B.locs B.cells B.slots ∧ Post ⟨T.setVm vm₁, locs, cells, slots⟩ argsL.toArray v B ∧
      ∀ target, Steps p.tables e below (B.U.setTop { g with pc := g.pc + 3, stack := v.toList ++ rest }) target → Steps p.tables e below (T.setTop g) target := by
  obtain ⟨mk, methM, cM, hnamed, hmethM, -, -, -, -, -, -, hsigM⟩ := Cond.codeWith_spec hcode
  have hstatic : methM.isStatic = true := Cond.static_spec hnamed hmethM hstat
  obtain ⟨kP, hkP, -⟩ := className_of_methodNamed hnamed
  have hinitP : kP.init = .initialized := Cond.initialized_spec (findClass_of_methodNamed hnamed) hkP hinit
  obtain ⟨vm₁, X₁, hstep₁⟩ := X.invokestatic hexec hown hlink hnamed hmethM hstatic hkP hinitP hy (g := g) hg (argsL := argsL) (rest := rest) (hlen _ hsigM) hstack hdg
  obtain ⟨v, B, X', hpost, hsteps⟩ := hK m meth c ⟨T.setVm vm₁, locs, cells, slots⟩ { g with stack := rest } (.invokestatic index) mk argsL.toArray X₁ hg hsize hdg hW (X₁.named hnamed) (hpre vm₁ X₁.warmed)
  exact ⟨v, vm₁, B, X₁.warmed, X', hpost, fun target h => hstep₁ _ fun acts => by rw [doInvoke_state]; exact hsteps.trans h⟩
theorem vx_runSW {y : MethodName} {bytes cc : ByteArray} {maxL nL mc ms n index : Nat} {ret : Option FieldType} {hh : List (Nat × Nat × Nat × Nat)} {ws : List Cond} {rm : Room} {Pc : Array Value → State → Prop} {Qc : Array Value → State → Outcome → State → Prop} {free : Addr → Prop} {Ts : List Cond} {own : String} {As rest : List Value} {g : JFrame}
    (S : CallFix p m c cc nL s args Ts own) (hM : Met l y ws rm Pc Qc mc ms free) (cw : vx_CSW R s args own index y bytes maxL ret hh ws rm mc ms n) (hp : PreS s H Pc As)
    (hg : g.method = m) (hn : As.length = n) (hsize : g.locals.size = nL) (hstack : g.stack = As.reverse ++ rest) (hW : 2 * g.monitorRoom + (rest.map fun v => v.category).sum ≤ 8) (hdg : decode cc g.pc = .ok (.invokestatic index, 3)) (hf : cells + mc ≤ R.cells ∧ slots + ms ≤ R.slots) :
    va_Run p l e R s m args below meth c H locs cells slots mc ms g rest (Qc As.toArray) (free) := by
  obtain ⟨⟨hrc, hrs, hfr, hlo, hws, hcw⟩, hcode, hini, hy, hlen, hl, hstt⟩ := cw
  have hK : Back l R p e below s args y 3 8 (PreOf R mc ms Pc) (PostOf Qc mc ms free) := va_backW (hh := hh) (bytes := bytes) (maxL := maxL) (ret := ret) hM hp.1 hrc hrs hfr hlo hws hcw (fun a' U hW => word_at hW (Or.inl (by first | rfl | simp [Cond.onTables, Cond.keeps, Cond.steady])) hini)
  obtain ⟨hx, hb, hml, ho, -⟩ := S
  intro T hT X
  obtain ⟨v, vm₁, ⟨U', l2, c2, s2⟩, hW₁, X', ⟨g', mk, t, L, e1, e2, hq, h1, hL, h2, h3⟩, st⟩ := vx_callSW X hx (hh := hh) (bytes := bytes) (maxL := maxL) (ret := ret) ho hl hstt hini hcode hy hK hg (hsize.trans hml.symm) (argsL := As) (rest := rest) (fun sig h => hn.trans (hlen sig h)) hstack hW (by rw [hb]; exact hdg)
    (fun vm₁ hW₁ => ⟨hf.1, hf.2, hp.2 (T.setVm vm₁) hT hW₁⟩)
  dsimp only [Pt.U, Pt.locs, Pt.cells, Pt.slots] at X' e1 e2 h1 h2 h3 st
  subst h1; subst h2; subst h3
  exact ⟨v, (T.setVm vm₁).calling g' mk As.toArray, t, U', L, hT, X', hL, e1, e2, hq, st⟩
/-- a thing of a world lies in the heap -/
theorem vx_lt {D : va_G} {cl : List vw_C} {ws : va_W} {H1 : Heap} (h : va_P D cl ws H1) {k : Nat} {q : Nat × va_E} (hk : ws[k]? = some q) : q.1 < H1.size := (h k q hk).lt
end VXS
/-! ===== END ===== -/
/-! ===== BEGIN methods with a table of their own: called by a name, returning or throwing ===== -/
section VXH
/-! vx_backW, vx_callVX, vx_callSX, vx_callVW, vx_runVW, vx_runVX, vx_runSX, vx_ofWH follow the same proofs as their sisters above (Free/Laws.lean, Shelf42/LK1.lean); vx_outP calls Shelf42/NT130.lean (outThrough). -/
section
variable {l : Launch} {R : Room} {p : Program} {e : Env} {below : List Frame} {s : State} {sargs : Array Value} {y : MethodName} {len W9 : Nat}
theorem vx_backW {ws : List Cond} {rm : Room} {Pc : Array Value → State → Prop} {Qc : Array Value → State → Outcome → State → Prop} {XC : String → State → State → Prop} {mc ms : Nat} {free : Addr → Prop} {bytes : ByteArray} {maxL : Nat} {ret : Option FieldType} {hh : List (Nat × Nat × Nat × Nat)}
    (hM : vx_Met l y ws rm Pc Qc XC mc ms free) (hblind : FrameBlind Pc) (hrc : rm.cells = mc) (hrs : rm.slots = ms)
    (hframes : rm.frames + 1 ≤ R.frames) (hlocals : W9 + (maxL + 11) + rm.locals ≤ R.locals)
    (hws : ∀ w ∈ ws, ∀ a' U, s.WarmedH U.vm → w.before a' U = true) (hcode : Cond.codeWith y bytes maxL ret hh ∈ ws) (hinit : ∀ a' U, s.WarmedH U.vm → (Cond.initialized y.cls).before a' U = true) :
    vx_Back l R p e below s sargs y len W9 (PreOf R mc ms Pc) (PostOf Qc mc ms free) (vx_Post XC mc ms free) := by
  intro m meth c A g ig mk a X hg hsize hdg hW hn hp
  have h1 : (headSpec ws rm).pre.before a A.U = true := atoms_intro fun w hw => hws w hw _ _ X.warmed
  have h2 : (Cond.codeWith y bytes maxL ret hh).before a A.U = true := hws _ hcode _ _ X.warmed
  have h3 : (Cond.initialized y.cls).before a A.U = true := hinit _ _ X.warmed
  have h4 : A.cells + (headSpec ws rm).room.cells ≤ R.cells := by rw [show (headSpec ws rm).room.cells = mc from hrc]; exact hp.1
  have h5 : A.slots + (headSpec ws rm).room.slots ≤ R.slots := by rw [show (headSpec ws rm).room.slots = ms from hrs]; exact hp.2.1
  have hPc : Pc a (A.U.calling g mk a) := hblind _ _ _ _ hp.2.2
  obtain ⟨U, Ls, c0, s0⟩ := A
  dsimp only [Pt.U, Pt.locs, Pt.cells, Pt.slots] at h1 h2 h3 h4 h5 X hn hPc ⊢
  obtain ⟨m9, methY, cY, hn9, hmY, hcY, -, hlY, -⟩ := Cond.codeWith_spec h2
  cases Option.some.inj (hn9.symm.trans hn)
  obtain ⟨kY, hkY, -⟩ := className_of_methodNamed hn
  have hinitY : kY.init = .initialized := Cond.initialized_spec (findClass_of_methodNamed hn) hkY h3
  have h : At U g.method c below := by rw [hg]; exact X.here
  have hlocals9 : W9 + (maxL + 11) + (headSpec ws rm).room.locals ≤ R.locals := hlocals
  have happ : (headSpec ws rm).appliesLoose y e.platform (U.calling g mk a) = true :=
    Spec.appliesLoose_calling (g := g) h hdg hn hkY hinitY
      (X.room_calling (g := g) (R' := (headSpec ws rm).room) hsize hmY hcY hframes (by rw [hlY]; omega) h4 h5) h1
  obtain ⟨mid, hmid⟩ := h.above
  have hfr : (U.setTop g).frames = (.java g :: mid) ++ below := by rw [State.frames_setTop' g h.top, hmid]; rfl
  obtain ⟨o, s₂, hsteps, -, hend, hq⟩ := Steps.callFree hM p X.admits X.cas X.clock (acts := []) hfr happ hPc trivial
  have hq' : vx_Q Qc XC mc ms free a (U.calling g mk a) o s₂ := hq
  rw [State.frames_setTop' g h.top] at hend
  obtain ⟨g₀, hg0⟩ := Option.isSome_iff_exists.mp h.top
  obtain ⟨r, hr⟩ := State.topJava?_eq_some.mp hg0
  have hr' : (({ U with heap := s₂.heap, slotsUsed := s₂.slotsUsed } : State).setVm s₂.vm).frames = .java g₀ :: r := hr
  rcases hq' with ⟨hqc, L, hfe, hL⟩ | ⟨q, rfl, E, ce, L, hx, hce, hcv, hcl, hW₂, hsm, hL⟩
  · obtain ⟨⟨v, rfl⟩, hW₂, e2, q2, q3, q4, q5, q6⟩ := id hfe
    have e3 : s₂ = ({ (U.calling g mk a).setFrames s₂.frames with heap := s₂.heap, slotsUsed := s₂.slotsUsed } : State).setVm s₂.vm := by
      have : s₂ = ({ s₂ with vm := (U.calling g mk a).vm } : State).setVm s₂.vm := rfl
      rw [e2] at this
      exact this
    obtain ⟨c₂, i₂, len₂, hc₂, hd₂, hf₂⟩ := hend
    have hW' : U.WarmedH s₂.vm := hW₂
    have hcc : c₂ = c := by
      have h1 : s₂.code? g.method = U.code? g.method := by
        rw [State.code?_eq, State.code?_eq, hW'.alike.method?]
      exact Option.some.inj (hc₂.symm.trans (h1.trans h.code))
    subst hcc
    have hlen : len₂ = len := by rw [hdg] at hd₂; cases hd₂; rfl
    subst hlen
    have hs₂ : s₂ = (({ U with heap := s₂.heap, slotsUsed := s₂.slotsUsed } : State).setVm s₂.vm).setTop { g with pc := g.pc + len₂, stack := v.toList ++ g.stack } := by
      refine e3.trans ?_
      rw [hf₂, State.calling_eq h.top, State.setFrames_setFrames, State.setTop_of_frames _ hr', hr]
      rfl
    have hsame : U.sameButNew ({ U with heap := s₂.heap, slotsUsed := s₂.slotsUsed } : State) L mc ms := by
      refine ⟨?_, q2, q3, q4, q5, q6⟩
      obtain ⟨t, ht, -⟩ := State.frames_cons hr
      show ({ U with heap := s₂.heap, slotsUsed := s₂.slotsUsed } : State) = { U.setFrames U.frames with heap := s₂.heap, slotsUsed := s₂.slotsUsed }
      rw [State.setFrames_self ht]
    subst hg
    refine Or.inl ⟨v, ⟨(({ U with heap := s₂.heap, slotsUsed := s₂.slotsUsed } : State).setVm s₂.vm), Ls ++ L, c0 + mc, s0 + ms⟩,
      ⟨X.admits, X.cas, X.clock, X.frames, X.room, X.hears, X.method, X.code, (X.here.setHeapUsed s₂.heap s₂.slotsUsed).setVm hW'.alike, X.tail, State.WarmedH.trans X.warmed hW', X.limits, X.bytes, X.same.trans (hsame.setVm s.vm)⟩,
      ⟨g, mk, s₂, L, rfl, rfl, hqc, rfl, hL, rfl, rfl⟩, ?_⟩
    show Steps p.tables e below _ ((({ U with heap := s₂.heap, slotsUsed := s₂.slotsUsed } : State).setVm s₂.vm).setTop { g with pc := g.pc + len₂, stack := v.toList ++ g.stack })
    rw [← hs₂]
    exact hsteps
  · obtain ⟨e2, q2, q3, q4, q5, q6⟩ := id hsm
    have e3 : s₂ = ({ (U.calling g mk a).setFrames s₂.frames with heap := s₂.heap, slotsUsed := s₂.slotsUsed } : State).setVm s₂.vm := by
      have : s₂ = ({ s₂ with vm := (U.calling g mk a).vm } : State).setVm s₂.vm := rfl
      rw [e2] at this
      exact this
    have hf₂ : s₂.frames = .throwing q :: .java g :: U.frames.tail := hend
    have hW' : U.WarmedH s₂.vm := hW₂
    have hs₂ : s₂ = ((({ U with heap := s₂.heap, slotsUsed := s₂.slotsUsed } : State).setVm s₂.vm).setTop g).pushFrame (.throwing q) := by
      refine e3.trans ?_
      rw [hf₂, State.calling_eq h.top, State.setFrames_setFrames, State.pushFrame, State.frames_setTop _ hr', State.setTop_of_frames _ hr', State.setFrames_setFrames, hr]
      rfl
    have hsame : U.sameButNew ({ U with heap := s₂.heap, slotsUsed := s₂.slotsUsed } : State) L mc ms := by
      refine ⟨?_, q2, q3, q4, q5, q6⟩
      obtain ⟨t, ht, -⟩ := State.frames_cons hr
      show ({ U with heap := s₂.heap, slotsUsed := s₂.slotsUsed } : State) = { U.setFrames U.frames with heap := s₂.heap, slotsUsed := s₂.slotsUsed }
      rw [State.setFrames_self ht]
    subst hg
    refine Or.inr ⟨q, ⟨(({ U with heap := s₂.heap, slotsUsed := s₂.slotsUsed } : State).setVm s₂.vm), Ls ++ L, c0 + mc, s0 + ms⟩,
      ⟨X.admits, X.cas, X.clock, X.frames, X.room, X.hears, X.method, X.code, (X.here.setHeapUsed s₂.heap s₂.slotsUsed).setVm hW'.alike, X.tail, State.WarmedH.trans X.warmed hW', X.limits, X.bytes, X.same.trans (hsame.setVm s.vm)⟩,
      ⟨g, mk, s₂, L, E, ce, rfl, rfl, hx, hce, hcv, hcl, rfl, hL, rfl, rfl⟩, ?_⟩
    show Steps p.tables e below _ (((({ U with heap := s₂.heap, slotsUsed := s₂.slotsUsed } : State).setVm s₂.vm).setTop g).pushFrame (.throwing q))
    rw [← hs₂]
    exact hsteps
end
variable {p : Program} {l : Launch} {e : Env} {R : Room} {s : State} {m : MethodId} {args : Array Value} {below : List Frame} {meth : Method} {c : Code} {T : State} {H : Heap} {locs : List Loc} {cells slots : Nat}
theorem vx_callVX (X : Stand p l e R s m args below meth c T locs cells slots) (hexec : p.tables.exec = Jvm.exec) {own C : String} {index : Nat} {y : MethodName} {bytes : ByteArray} {maxL : Nat} {ret : Option FieldType} {hh : List (Nat × Nat × Nat × Nat)}
    (hown : s.vm.findClass own = some m.cls) (hlink : (Cond.methodLink own index y).before args s = true) (hinst : (Cond.instanceMethod y).before args s = true) (hsel : (Cond.selects C y y).before args s = true)
    (hcode : (Cond.codeWith y bytes maxL ret hh).before args s = true) (hy : y.cls ≠ "java/lang/invoke/MethodHandle" ∧ y.cls ≠ "java/lang/invoke/VarHandle")
    {W9 : Nat} {Pre : Pt → Array Value → Prop} {Post : Pt → Array Value → Option Value → Pt → Prop} {PostX : Pt → Array Value → Addr → Pt → Prop} (hK : vx_Back l R p e below s args y 3 W9 Pre Post PostX)
    {b : Addr} {cellB : Cell} (hcell : T.heap[b]? = some cellB) (hobj : cellB.vm.isStatics = false) (hcls : s.vm.findClass C = some cellB.cls)
    {g : JFrame} (hg : g.method = m) (hsize : g.locals.size = c.maxLocals) {argsL rest : List Value} (hlen : ∀ sig, parseMethodDescriptor y.desc = some sig → argsL.length = sig.parameters.length)
    (hstack : g.stack = argsL.reverse ++ .ref b :: rest) (hW : 2 * g.monitorRoom + (rest.map fun v => v.category).sum ≤ W9) (hdg : decode c.code g.pc = .ok (.invokevirtual index, 3))
    (hpre : ∀ vm₁, s.WarmedH vm₁ → Pre ⟨T.setVm vm₁, locs, cells, slots⟩ (Value.ref b :: argsL).toArray) :
    (∃ (v : Option Value) (vm₁ : Vm) (B : Pt), s.WarmedH vm₁ ∧ Stand p l e R s m args below meth c B.U B.locs B.cells B.slots ∧ Post ⟨T.setVm vm₁, locs, cells, slots⟩ (Value.ref b :: argsL).toArray v B ∧
      ∀ target, Steps p.tables e below (B.U.setTop { g with pc := g.pc + 3, stack := v.toList ++ rest }) target → Steps p.tables e below (T.setTop g) target) ∨
    (∃ (q : Addr) (vm₁ : Vm) (B : Pt), s.WarmedH vm₁ ∧ Stand p l e R s m args below meth c B.U B.locs B.cells B.slots ∧ PostX ⟨T.setVm vm₁, locs, cells, slots⟩ (Value.ref b :: argsL).toArray q B ∧
      Steps p.tables e below (T.setTop g) ((B.U.setTop { g with stack := rest }).pushFrame (.throwing q))) := by
  obtain ⟨mk, methM, hnamed, hmethM, hstM, habM⟩ := Cond.instanceMethod_spec hinst
  obtain ⟨m8, methM', cM, hn8, hmethM', -, -, -, -, -, -, hsigM⟩ := Cond.codeWith_spec hcode
  cases Option.some.inj (hn8.symm.trans hnamed)
  cases hmethM.symm.trans hmethM'
  obtain ⟨c2, r2, m2, q1, q2, q3, q4, kP, hkP, hkPi⟩ := Cond.selects_spec hsel
  cases hcls.symm.trans q1
  cases (State.methodFound?_of_named hnamed hy).symm.trans q2
  cases hnamed.symm.trans q3
  have hselP : selectMethod e.platform s.vm cellB.cls mk = .method mk := by rw [Launch.admits_selectMethod X.admits]; exact q4
  obtain ⟨vm₁, X₁, hstep₁⟩ := X.invokevirtual hexec hown hlink hnamed hmethM hstM hkP hkPi hy (a := b) (cell := cellB) hcell
    (fun z h => by rw [h] at hobj; cases hobj) hselP hmethM habM hkP hkPi (g := g) hg (argsL := argsL) (rest := rest) (hlen _ hsigM) hstack hdg
  rcases hK m meth c ⟨T.setVm vm₁, locs, cells, slots⟩ { g with stack := rest } (.invokevirtual index) mk (Value.ref b :: argsL).toArray X₁ hg hsize hdg hW (X₁.named hnamed) (hpre vm₁ X₁.warmed) with ⟨v, B, X', hpost, hsteps⟩ | ⟨q, B, X', hpost, hsteps⟩
  · exact Or.inl ⟨v, vm₁, B, X₁.warmed, X', hpost, fun target h => hstep₁ _ fun acts => by rw [doInvoke_state]; exact hsteps.trans h⟩
  · exact Or.inr ⟨q, vm₁, B, X₁.warmed, X', hpost, hstep₁ _ fun acts => by rw [doInvoke_state]; exact hsteps⟩
theorem vx_callSX (X : Stand p l e R s m args below meth c T locs cells slots) (hexec : p.tables.exec = Jvm.exec) {own : String} {index : Nat} {y : MethodName} {bytes : ByteArray} {maxL : Nat} {ret : Option FieldType} {hh : List (Nat × Nat × Nat × Nat)}
    (hown : s.vm.findClass own = some m.cls) (hlink : (Cond.methodLink own index y).before args s = true) (hstat : (Cond.static y).before args s = true) (hinit : (Cond.initialized y.cls).before args s = true)
    (hcode : (Cond.codeWith y bytes maxL ret hh).before args s = true) (hy : y.cls ≠ "java/lang/invoke/MethodHandle" ∧ y.cls ≠ "java/lang/invoke/VarHandle")
    {W9 : Nat} {Pre : Pt → Array Value → Prop} {Post : Pt → Array Value → Option Value → Pt → Prop} {PostX : Pt → Array Value → Addr → Pt → Prop} (hK : vx_Back l R p e below s args y 3 W9 Pre Post PostX)
    {g : JFrame} (hg : g.method = m) (hsize : g.locals.size = c.maxLocals) {argsL rest : List Value} (hlen : ∀ sig, parseMethodDescriptor y.desc = some sig → argsL.length = sig.parameters.length)
    (hstack : g.stack = argsL.reverse ++ rest) (hW : 2 * g.monitorRoom + (rest.map fun v => v.category).sum ≤ W9) (hdg : decode c.code g.pc = .ok (.invokestatic index, 3))
    (hpre : ∀ vm₁, s.WarmedH vm₁ → Pre ⟨T.setVm vm₁, locs, cells, slots⟩ argsL.toArray) :
    (∃ (v : Option Value) (vm₁ : Vm) (B : Pt), s.WarmedH vm₁ ∧ Stand p l e R s m args below meth c B.U B.locs B.cells B.slots ∧ Post ⟨T.setVm vm₁, locs, cells, slots⟩ argsL.toArray v B ∧
      ∀ target, Steps p.tables e below (B.U.setTop { g with pc := g.pc + 3, stack := v.toList ++ rest }) target → Steps p.tables e below (T.setTop g) target) ∨
    (∃ (q : Addr) (vm₁ : Vm) (B : Pt), s.WarmedH vm₁ ∧ Stand p l e R s m args below meth c B.U B.locs B.cells B.slots ∧ PostX ⟨T.setVm vm₁, locs, cells, slots⟩ argsL.toArray q B ∧
      Steps p.tables e below (T.setTop g) ((B.U.setTop { g with stack := rest }).pushFrame (.throwing q))) := by
  obtain ⟨mk, methM, cM, hnamed, hmethM, -, -, -, -, -, -, hsigM⟩ := Cond.codeWith_spec hcode
  have hstatic : methM.isStatic = true := Cond.static_spec hnamed hmethM hstat
  obtain ⟨kP, hkP, -⟩ := className_of_methodNamed hnamed
  have hinitP : kP.init = .initialized := Cond.initialized_spec (findClass_of_methodNamed hnamed) hkP hinit
  obtain ⟨vm₁, X₁, hstep₁⟩ := X.invokestatic hexec hown hlink hnamed hmethM hstatic hkP hinitP hy (g := g) hg (argsL := argsL) (rest := rest) (hlen _ hsigM) hstack hdg
  rcases hK m meth c ⟨T.setVm vm₁, locs, cells, slots⟩ { g with stack := rest } (.invokestatic index) mk argsL.toArray X₁ hg hsize hdg hW (X₁.named hnamed) (hpre vm₁ X₁.warmed) with ⟨v, B, X', hpost, hsteps⟩ | ⟨q, B, X', hpost, hsteps⟩
  · exact Or.inl ⟨v, vm₁, B, X₁.warmed, X', hpost, fun target h => hstep₁ _ fun acts => by rw [doInvoke_state]; exact hsteps.trans h⟩
  · exact Or.inr ⟨q, vm₁, B, X₁.warmed, X', hpost, hstep₁ _ fun acts => by rw [doInvoke_state]; exact hsteps⟩
theorem vx_callVW (X : Stand p l e R s m args below meth c T locs cells slots) (hexec : p.tables.exec = Jvm.exec) {own C : String} {index : Nat} {y : MethodName} {bytes : ByteArray} {maxL : Nat} {ret : Option FieldType} {hh : List (Nat × Nat × Nat × Nat)}
    (hown : s.vm.findClass own = some m.cls) (hlink : (Cond.methodLink own index y).before args s = true) (hinst : (Cond.instanceMethod y).before args s = true) (hsel : (Cond.selects C y y).before args s = true)
    (hcode : (Cond.codeWith y bytes maxL ret hh).before args s = true) (hy : y.cls ≠ "java/lang/invoke/MethodHandle" ∧ y.cls ≠ "java/lang/invoke/VarHandle")
    {W9 : Nat} {Pre : Pt → Array Value → Prop} {Post : Pt → Array Value → Option Value → Pt → Prop} (hK : Back l R p e below s args y 3 W9 Pre Post)
    {b : Addr} {cellB : Cell} (hcell : T.heap[b]? = some cellB) (hobj : cellB.vm.isStatics = false) (hcls : s.vm.findClass C = some cellB.cls)
    {g : JFrame} (hg : g.method = m) (hsize : g.locals.size = c.maxLocals) {argsL rest : List Value} (hlen : ∀ sig, parseMethodDescriptor y.desc = some sig → argsL.length = sig.parameters.length)
    (hstack : g.stack = argsL.reverse ++ .ref b :: rest) (hW : 2 * g.monitorRoom + (rest.map fun v => v.category).sum ≤ W9) (hdg : decode c.code g.pc = .ok (.invokevirtual index, 3))
    (hpre : ∀ vm₁, s.WarmedH vm₁ → Pre ⟨T.setVm vm₁, locs, cells, slots⟩ (Value.ref b :: argsL).toArray) :
    ∃ (v : Option Value) (vm₁ : Vm) (B : Pt), s.WarmedH vm₁ ∧ Stand p l e R s m args below meth c B.U B.locs B.cells B.slots ∧ Post ⟨T.setVm vm₁, locs, cells, slots⟩ (Value.ref b :: argsL).toArray v B ∧
      ∀ target, Steps p.tables e below (B.U.setTop { g with pc := g.pc + 3, stack := v.toList ++ rest }) target → Steps p.tables e below (T.setTop g) target := by
  obtain ⟨mk, methM, hnamed, hmethM, hstM, habM⟩ := Cond.instanceMethod_spec hinst
  obtain ⟨m8, methM', cM, hn8, hmethM', -, -, -, -, -, -, hsigM⟩ := Cond.codeWith_spec hcode
  cases Option.some.inj (hn8.symm.trans hnamed)
  cases hmethM.symm.trans hmethM'
  obtain ⟨c2, r2, m2, q1, q2, q3, q4, kP, hkP, hkPi⟩ := Cond.selects_spec hsel
  cases hcls.symm.trans q1
  cases (State.methodFound?_of_named hnamed hy).symm.trans q2
  cases hnamed.symm.trans q3
  have hselP : selectMethod e.platform s.vm cellB.cls mk = .method mk := by rw [Launch.admits_selectMethod X.admits]; exact q4
  obtain ⟨vm₁, X₁, hstep₁⟩ := X.invokevirtual hexec hown hlink hnamed hmethM hstM hkP hkPi hy (a := b) (cell := cellB) hcell
    (fun z h => by rw [h] at hobj; cases hobj) hselP hmethM habM hkP hkPi (g := g) hg (argsL := argsL) (rest := rest) (hlen _ hsigM) hstack hdg
  obtain ⟨v, B, X', hpost, hsteps⟩ := hK m meth c ⟨T.setVm vm₁, locs, cells, slots⟩ { g with stack := rest } (.invokevirtual index) mk (Value.ref b :: argsL).toArray X₁ hg hsize hdg hW (X₁.named hnamed) (hpre vm₁ X₁.warmed)
  exact ⟨v, vm₁, B, X₁.warmed, X', hpost, fun target h => hstep₁ _ fun acts => by rw [doInvoke_state]; exact hsteps.trans h⟩
abbrev vx_CVW (R : Room) (s : State) (args : Array Value) (own C : String) (index : Nat) (y : MethodName) (bytes : ByteArray) (maxL : Nat) (ret : Option FieldType) (hh : List (Nat × Nat × Nat × Nat)) (ws : List Cond) (rm : Room) (mc ms n : Nat) : Prop :=
  (rm.cells = mc ∧ rm.slots = ms ∧ rm.frames + 1 ≤ R.frames ∧ 8 + (maxL + 11) + rm.locals ≤ R.locals ∧ (∀ w ∈ ws, ∀ (a' : Array Value) (U : State), s.WarmedH U.vm → w.before a' U = true) ∧ Cond.codeWith y bytes maxL ret hh ∈ ws) ∧
  (Cond.codeWith y bytes maxL ret hh).before args s = true ∧ (Cond.initialized y.cls).before args s = true ∧ (y.cls ≠ "java/lang/invoke/MethodHandle" ∧ y.cls ≠ "java/lang/invoke/VarHandle") ∧
  (∀ sig, parseMethodDescriptor y.desc = some sig → n = sig.parameters.length) ∧ (Cond.methodLink own index y).before args s = true ∧ (Cond.instanceMethod y).before args s = true ∧ (Cond.selects C y y).before args s = true
theorem vx_cwVW {own C : String} {index maxL mc ms : Nat} {y : MethodName} {bytes : ByteArray} {ret : Option FieldType} {hh : List (Nat × Nat × Nat × Nat)} {Ts ws ws' : List Cond} {rm : Room} (n : Nat) (ht : ∀ w ∈ Ts, w.before args s = true) (hT : GoodIn Ts (wsV own index C y ws)) (hw : ws = Cond.codeWith y bytes maxL ret hh :: ws') (hrc : rm.cells = mc) (hrs : rm.slots = ms)
    (hd : y.cls = C ∧ y.cls ≠ "java/lang/invoke/MethodHandle" ∧ y.cls ≠ "java/lang/invoke/VarHandle" ∧ (parseMethodDescriptor y.desc).map (fun d => d.parameters.length) = some n) (hR : rm.frames + 1 ≤ R.frames ∧ 8 + (maxL + 11) + rm.locals ≤ R.locals) :
    vx_CVW R s args own C index y bytes maxL ret hh ws rm mc ms n := by
  obtain ⟨hC, hd⟩ := hd
  subst hC
  have ok : ∀ w ∈ wsV own index y.cls y ws, w.before args s = true := fun w h => ht w (hT w h).1
  have hG : GoodIn Ts ws := fun w h => hT w (by unfold wsV; exact List.mem_append_right _ h)
  have hc : Cond.codeWith y bytes maxL ret hh ∈ ws := by rw [hw]; exact List.mem_cons_self
  refine ⟨⟨hrc, hrs, hR.1, hR.2, pay_in ht hG, hc⟩, ht _ (hG _ hc).1, ok _ (by simp [wsV]), ⟨hd.1, hd.2.1⟩, fun sig h => ?_, ok _ (by simp [wsV]), ok _ (by simp [wsV]), ok _ (by simp [wsV])⟩
  have h2 := hd.2.2
  rw [h] at h2
  exact (Option.some.inj h2).symm
theorem vx_runVW {y : MethodName} {bytes cc : ByteArray} {maxL nL mc ms n index : Nat} {ret : Option FieldType} {hh : List (Nat × Nat × Nat × Nat)} {ws : List Cond} {rm : Room} {Pc : Array Value → State → Prop} {Qc : Array Value → State → Outcome → State → Prop} {free : Addr → Prop} {Ts : List Cond} {own C : String} {b : Addr} {As rest : List Value} {g : JFrame}
    (S : CallFix p m c cc nL s args Ts own) (hM : Met l y ws rm Pc Qc mc ms free) (cw : vx_CVW R s args own C index y bytes maxL ret hh ws rm mc ms n) (hp : PreV s H C b Pc As)
    (hg : g.method = m) (hn : As.length = n) (hsize : g.locals.size = nL) (hstack : g.stack = As.reverse ++ .ref b :: rest) (hW : 2 * g.monitorRoom + (rest.map fun v => v.category).sum ≤ 8) (hdg : decode cc g.pc = .ok (.invokevirtual index, 3)) (hf : cells + mc ≤ R.cells ∧ slots + ms ≤ R.slots) :
    va_Run p l e R s m args below meth c H locs cells slots mc ms g rest (Qc (Value.ref b :: As).toArray) free := by
  obtain ⟨⟨hrc, hrs, hfr, hlo, hws, hcw⟩, hcode, hini, hy, hlen, hl, hin, hse⟩ := cw
  have hK : Back l R p e below s args y 3 8 (PreOf R mc ms Pc) (PostOf Qc mc ms free) := va_backW (hh := hh) (bytes := bytes) (maxL := maxL) (ret := ret) hM hp.1 hrc hrs hfr hlo hws hcw (fun a' U hW => word_at hW (Or.inl (by first | rfl | simp [Cond.onTables, Cond.keeps, Cond.steady])) hini)
  obtain ⟨hx, hb, hml, ho, -⟩ := S
  obtain ⟨-, ⟨cellB, hcB, hoB, hclB⟩, hPc⟩ := hp
  intro T hT X
  obtain ⟨v, vm₁, ⟨U', l2, c2, s2⟩, hW₁, X', ⟨g', mk, t, L, e1, e2, hq, h1, hL, h2, h3⟩, st⟩ := vx_callVW X hx (C := C) (hh := hh) (bytes := bytes) (maxL := maxL) (ret := ret) ho hl hin hse hcode hy hK (by rw [hT]; exact hcB) hoB hclB hg (hsize.trans hml.symm) (argsL := As) (rest := rest) (fun sig h => hn.trans (hlen sig h)) hstack hW (by rw [hb]; exact hdg)
    (fun vm₁ hW₁ => ⟨hf.1, hf.2, hPc (T.setVm vm₁) hT hW₁⟩)
  dsimp only [Pt.U, Pt.locs, Pt.cells, Pt.slots] at X' e1 e2 h1 h2 h3 st
  subst h1; subst h2; subst h3
  exact ⟨v, (T.setVm vm₁).calling g' mk (Value.ref b :: As).toArray, t, U', L, hT, X', hL, e1, e2, hq, st⟩
section
variable {y : MethodName} {bytes cc : ByteArray} {maxL nL mc ms n index : Nat} {ret : Option FieldType} {ws : List Cond} {rm : Room} {Pc : Array Value → State → Prop} {Qc : Array Value → State → Outcome → State → Prop} {XC : String → State → State → Prop} {free : Addr → Prop} {Ts : List Cond} {own C : String} {b : Addr} {As rest : List Value} {g : JFrame}
theorem vx_runVX {hh : List (Nat × Nat × Nat × Nat)} (S : CallFix p m c cc nL s args Ts own) (hM : vx_Met l y ws rm Pc Qc XC mc ms free) (cw : vx_CVW R s args own C index y bytes maxL ret hh ws rm mc ms n) (hp : PreV s H C b Pc As)
    (hg : g.method = m) (hn : As.length = n) (hsize : g.locals.size = nL) (hstack : g.stack = As.reverse ++ .ref b :: rest) (hW : 2 * g.monitorRoom + (rest.map fun v => v.category).sum ≤ 8) (hdg : decode cc g.pc = .ok (.invokevirtual index, 3)) (hf : cells + mc ≤ R.cells ∧ slots + ms ≤ R.slots) :
    vx_Run p l e R s m args below meth c H locs cells slots mc ms g rest (Qc (Value.ref b :: As).toArray) XC free := by
  obtain ⟨⟨hrc, hrs, hfr, hlo, hws, hcw⟩, hcode, hini, hy, hlen, hl, hin, hse⟩ := cw
  have hK : vx_Back l R p e below s args y 3 8 (PreOf R mc ms Pc) (PostOf Qc mc ms free) (vx_Post XC mc ms free) := vx_backW (hh := hh) (bytes := bytes) (maxL := maxL) (ret := ret) hM hp.1 hrc hrs hfr hlo hws hcw (fun a' U hW => word_at hW (Or.inl (by first | rfl | simp [Cond.onTables, Cond.keeps, Cond.steady])) hini)
  obtain ⟨hx, hb, hml, ho, -⟩ := S
  obtain ⟨-, ⟨cellB, hcB, hoB, hclB⟩, hPc⟩ := hp
  intro T hT X
  rcases vx_callVX X hx (C := C) (hh := hh) (bytes := bytes) (maxL := maxL) (ret := ret) ho hl hin hse hcode hy hK (by rw [hT]; exact hcB) hoB hclB hg (hsize.trans hml.symm) (argsL := As) (rest := rest) (fun sig h => hn.trans (hlen sig h)) hstack hW (by rw [hb]; exact hdg)
    (fun vm₁ hW₁ => ⟨hf.1, hf.2, hPc (T.setVm vm₁) hT hW₁⟩) with ⟨v, vm₁, ⟨U', l2, c2, s2⟩, hW₁, X', ⟨g', mk, t, L, e1, e2, hq, h1, hL, h2, h3⟩, st⟩ | ⟨q, vm₁, ⟨U', l2, c2, s2⟩, hW₁, X', ⟨g', mk, t, L, E, ce, e1, e2, hq, hce, hcv, hcl, h1, hL, h2, h3⟩, st⟩
  · dsimp only [Pt.U, Pt.locs, Pt.cells, Pt.slots] at X' e1 e2 h1 h2 h3 st
    subst h1; subst h2; subst h3
    exact Or.inl ⟨v, (T.setVm vm₁).calling g' mk (Value.ref b :: As).toArray, t, U', L, hT, X', hL, e1, e2, hq, st⟩
  · dsimp only [Pt.U, Pt.locs, Pt.cells, Pt.slots] at X' e1 e2 h1 h2 h3 st hcl
    subst h1; subst h2; subst h3
    exact Or.inr ⟨q, (T.setVm vm₁).calling g' mk (Value.ref b :: As).toArray, t, U', L, E, ce, hT, X', hL, e1, e2, hq, hce, hcv, vx_cls hW₁ hcl, st⟩
theorem vx_runSX {hh : List (Nat × Nat × Nat × Nat)} (S : CallFix p m c cc nL s args Ts own) (hM : vx_Met l y ws rm Pc Qc XC mc ms free) (cw : vx_CSW R s args own index y bytes maxL ret hh ws rm mc ms n) (hp : PreS s H Pc As)
    (hg : g.method = m) (hn : As.length = n) (hsize : g.locals.size = nL) (hstack : g.stack = As.reverse ++ rest) (hW : 2 * g.monitorRoom + (rest.map fun v => v.category).sum ≤ 8) (hdg : decode cc g.pc = .ok (.invokestatic index, 3)) (hf : cells + mc ≤ R.cells ∧ slots + ms ≤ R.slots) :
    vx_Run p l e R s m args below meth c H locs cells slots mc ms g rest (Qc As.toArray) XC free := by
  obtain ⟨⟨hrc, hrs, hfr, hlo, hws, hcw⟩, hcode, hini, hy, hlen, hl, hstt⟩ := cw
  have hK : vx_Back l R p e below s args y 3 8 (PreOf R mc ms Pc) (PostOf Qc mc ms free) (vx_Post XC mc ms free) := vx_backW (hh := hh) (bytes := bytes) (maxL := maxL) (ret := ret) hM hp.1 hrc hrs hfr hlo hws hcw (fun a' U hW => word_at hW (Or.inl (by first | rfl | simp [Cond.onTables, Cond.keeps, Cond.steady])) hini)
  obtain ⟨hx, hb, hml, ho, -⟩ := S
  intro T hT X
  rcases vx_callSX X hx (hh := hh) (bytes := bytes) (maxL := maxL) (ret := ret) ho hl hstt hini hcode hy hK hg (hsize.trans hml.symm) (argsL := As) (rest := rest) (fun sig h => hn.trans (hlen sig h)) hstack hW (by rw [hb]; exact hdg)
    (fun vm₁ hW₁ => ⟨hf.1, hf.2, hp.2 (T.setVm vm₁) hT hW₁⟩) with ⟨v, vm₁, ⟨U', l2, c2, s2⟩, hW₁, X', ⟨g', mk, t, L, e1, e2, hq, h1, hL, h2, h3⟩, st⟩ | ⟨q, vm₁, ⟨U', l2, c2, s2⟩, hW₁, X', ⟨g', mk, t, L, E, ce, e1, e2, hq, hce, hcv, hcl, h1, hL, h2, h3⟩, st⟩
  · dsimp only [Pt.U, Pt.locs, Pt.cells, Pt.slots] at X' e1 e2 h1 h2 h3 st
    subst h1; subst h2; subst h3
    exact Or.inl ⟨v, (T.setVm vm₁).calling g' mk As.toArray, t, U', L, hT, X', hL, e1, e2, hq, st⟩
  · dsimp only [Pt.U, Pt.locs, Pt.cells, Pt.slots] at X' e1 e2 h1 h2 h3 st hcl
    subst h1; subst h2; subst h3
    exact Or.inr ⟨q, (T.setVm vm₁).calling g' mk As.toArray, t, U', L, E, ce, hT, X', hL, e1, e2, hq, hce, hcv, vx_cls hW₁ hcl, st⟩
end
end VXH
theorem vx_ofWH {l : Launch} {y : MethodName} {ws ws' : List Cond} {rm : Room} {Pc : Array Value → State → Prop} {Qc : Array Value → State → Outcome → State → Prop} {XC : String → State → State → Prop} {mc ms : Nat} {free : Addr → Prop} {cc : ByteArray} {maxL : Nat} {ret : Option FieldType} {hh : List (Nat × Nat × Nat × Nat)}
    (hy : plainName y.cls = true) (hw : ws = Cond.codeWith y cc maxL ret hh :: ws')
    (body : ∀ p e s m args below meth c s₁, BodyLoose p l y (headSpec ws rm) cc maxL ret e s m args below meth c s₁ → c.maxLocals = maxL → Pc args s →
      W p l e (headSpec ws rm).room s m args below meth c s.heap [] 0 0 (vx_MQ below Qc XC args s mc ms free) (entryFrame m args maxL)) : vx_Met l y ws rm Pc Qc XC mc ms free := by
  refine MetFree.of_bodyS (code := cc) (maxLocals := maxL) (ret := ret) hy ?_ ?_
  · intro args s m h hn
    obtain ⟨m9, meth, c, hn9, h1, h2, h3, h4, -, h5, h6, -⟩ := Cond.codeWith_spec (atoms_spec (ws := ws) h _ (by rw [hw]; exact List.mem_cons_self))
    cases hn.symm.trans hn9
    exact ⟨meth, c, h1, h2, h3, h4, h5, h6⟩
  · intro p e s m args below meth c s₁ B hml hP _
    have hh0 : s₁.heap = s.heap := by rw [B.state]; rfl
    obtain ⟨t, a1, o, b1, b2, b3⟩ := body p e s m args below meth c s₁ B hml hP s₁ hh0 (Stand.of_body B)
    exact ⟨t, o, a1, b1, b2, b3⟩
/-! ===== END ===== -/
end
section
/-! ===== BEGIN printed: names, fields, word lists, decode rows ===== -/
def RX0 : String := "DotGossip$Holding"
def TX0 : u_T := fun k => match k with
  | 0 => ("DotGossip$Holding", "seen", "[I", true)
  | 1 => ("DotGossip$Holding", "numbers", "[I", true)
  | 2 => ("DotGossip$Holding", "written", "[I", true)
  | 3 => ("DotGossip$Holding", "added", "[J", true)
  | _ => ("DotGossip$Holding", "taken", "[J", true)
def tyX0 : Nat → FieldType := fun k => match k with
  | 0 => .array .int
  | 1 => .array .int
  | 2 => .array .int
  | 3 => .array .long
  | _ => .array .long
abbrev wsX00 : List Cond := u_ws RX0 TX0 5
abbrev cX0_init : ByteArray := prog_2_method_1_code
def yX0_init : MethodName := ⟨RX0, "<init>", "()V"⟩
abbrev cX0_wipe : ByteArray := prog_2_method_2_code
def yX0_wipe : MethodName := ⟨RX0, "wipe", "()V"⟩
abbrev cX0_snapshot : ByteArray := prog_2_method_3_code
def yX0_snapshot : MethodName := ⟨RX0, "snapshot", "()LDotGossip$Holding;"⟩
abbrev cX0_makeDot : ByteArray := prog_2_method_4_code
def yX0_makeDot : MethodName := ⟨RX0, "makeDot", "(II)I"⟩
abbrev cX0_forget : ByteArray := prog_2_method_5_code
def yX0_forget : MethodName := ⟨RX0, "forget", "(I)I"⟩
abbrev cX0_dotsAt : ByteArray := prog_2_method_6_code
def yX0_dotsAt : MethodName := ⟨RX0, "dotsAt", "(I)I"⟩
abbrev cX0_makerOf : ByteArray := prog_2_method_7_code
def yX0_makerOf : MethodName := ⟨RX0, "makerOf", "(II)I"⟩
abbrev cX0_numberBy : ByteArray := prog_2_method_8_code
def yX0_numberBy : MethodName := ⟨RX0, "numberBy", "(II)I"⟩
abbrev cX0_worth : ByteArray := prog_2_method_9_code
def yX0_worth : MethodName := ⟨RX0, "worth", "(I)I"⟩
abbrev cX0_merge : ByteArray := prog_2_method_10_code
def yX0_merge : MethodName := ⟨RX0, "merge", "(LDotGossip$Holding;)I"⟩
abbrev cX0_mergeDot : ByteArray := prog_2_method_11_code
def yX0_mergeDot : MethodName := ⟨RX0, "mergeDot", "(LDotGossip$Holding;II)Z"⟩
abbrev cX0_matches : ByteArray := prog_2_method_12_code
def yX0_matches : MethodName := ⟨RX0, "matches", "(LDotGossip$Holding;)Z"⟩
abbrev cX0_equalInts : ByteArray := prog_2_method_13_code
def yX0_equalInts : MethodName := ⟨RX0, "equalInts", "([I[I)Z"⟩
abbrev cX0_equalLongs : ByteArray := prog_2_method_14_code
def yX0_equalLongs : MethodName := ⟨RX0, "equalLongs", "([J[J)Z"⟩
def RX1 : String := "DotGossip$Message"
def TX1 : u_T := fun k => match k with
  | 0 => ("DotGossip$Message", "from", "I", true)
  | 1 => ("DotGossip$Message", "to", "I", false)
  | _ => ("DotGossip$Message", "sent", "LDotGossip$Holding;", true)
def tyX1 : Nat → FieldType := fun k => match k with
  | 0 => .int
  | 1 => .int
  | _ => .object "DotGossip$Holding"
abbrev wsX10 : List Cond := u_ws RX1 TX1 3
abbrev cX1_init : ByteArray := prog_3_method_1_code
def yX1_init : MethodName := ⟨RX1, "<init>", "(IILDotGossip$Holding;)V"⟩
def RX2 : String := "DotGossip"
def TX2 : u_T := fun k => match k with
  | 0 => ("DotGossip", "holdings", "[LDotGossip$Holding;", true)
  | 1 => ("DotGossip", "wire", "Ljava/util/ArrayList;", true)
  | _ => ("DotGossip", "replicaCount", "I", false)
def tyX2 : Nat → FieldType := fun k => match k with
  | 0 => .array (.object "DotGossip$Holding")
  | 1 => .object "java/util/ArrayList"
  | _ => .int
abbrev wsX20 : List Cond := u_ws RX2 TX2 3
abbrev cX2_init : ByteArray := prog_1_method_1_code
def yX2_init : MethodName := ⟨RX2, "<init>", "()V"⟩
abbrev cX2_open : ByteArray := prog_1_method_2_code
def yX2_open : MethodName := ⟨RX2, site_155.name, "(I)V"⟩
abbrev cX2_add : ByteArray := prog_1_method_3_code
def yX2_add : MethodName := ⟨RX2, "add", "(III)I"⟩
abbrev cX2_remove : ByteArray := prog_1_method_4_code
def yX2_remove : MethodName := ⟨RX2, "remove", "(III)I"⟩
abbrev cX2_clear : ByteArray := prog_1_method_5_code
def yX2_clear : MethodName := ⟨RX2, "clear", "(II)I"⟩
abbrev cX2_write : ByteArray := prog_1_method_6_code
def yX2_write : MethodName := ⟨RX2, "write", "(III)I"⟩
abbrev cX2_count : ByteArray := prog_1_method_7_code
def yX2_count : MethodName := ⟨RX2, "count", "(III)I"⟩
abbrev cX2_gossip : ByteArray := prog_1_method_8_code
def yX2_gossip : MethodName := ⟨RX2, "gossip", "(II)I"⟩
abbrev cX2_deliver : ByteArray := prog_1_method_9_code
def yX2_deliver : MethodName := ⟨RX2, "deliver", "(I)I"⟩
abbrev cX2_drop : ByteArray := prog_1_method_10_code
def yX2_drop : MethodName := ⟨RX2, "drop", "(I)I"⟩
abbrev cX2_copy : ByteArray := prog_1_method_11_code
def yX2_copy : MethodName := ⟨RX2, "copy", "(I)Z"⟩
abbrev cX2_turn : ByteArray := prog_1_method_12_code
def yX2_turn : MethodName := ⟨RX2, "turn", "(II)V"⟩
abbrev cX2_contains : ByteArray := prog_1_method_13_code
def yX2_contains : MethodName := ⟨RX2, "contains", "(III)Z"⟩
abbrev cX2_size : ByteArray := prog_1_method_14_code
def yX2_size : MethodName := ⟨RX2, "size", "(II)I"⟩
abbrev cX2_dot : ByteArray := prog_1_method_15_code
def yX2_dot : MethodName := ⟨RX2, "dot", "(IIIII)I"⟩
abbrev cX2_value : ByteArray := prog_1_method_16_code
def yX2_value : MethodName := ⟨RX2, "value", "(IIII)I"⟩
abbrev cX2_values : ByteArray := prog_1_method_17_code
def yX2_values : MethodName := ⟨RX2, "values", "(II)I"⟩
abbrev cX2_total : ByteArray := prog_1_method_18_code
def yX2_total : MethodName := ⟨RX2, "total", "(II)I"⟩
abbrev cX2_vector : ByteArray := prog_1_method_19_code
def yX2_vector : MethodName := ⟨RX2, "vector", "(II)I"⟩
abbrev cX2_same : ByteArray := prog_1_method_20_code
def yX2_same : MethodName := ⟨RX2, "same", "(II)Z"⟩
abbrev cX2_message : ByteArray := prog_1_method_21_code
def yX2_message : MethodName := ⟨RX2, "message", "(II)I"⟩
abbrev cX2_placeOfElement : ByteArray := prog_1_method_22_code
def yX2_placeOfElement : MethodName := ⟨RX2, "placeOfElement", "(II)I"⟩
abbrev cX2_requireElement : ByteArray := prog_1_method_23_code
def yX2_requireElement : MethodName := ⟨RX2, "requireElement", "(III)V"⟩
abbrev cX2_requireReplica : ByteArray := prog_1_method_24_code
def yX2_requireReplica : MethodName := ⟨RX2, "requireReplica", "(I)V"⟩
abbrev cX2_requireIndex : ByteArray := prog_1_method_25_code
def yX2_requireIndex : MethodName := ⟨RX2, "requireIndex", "(II)V"⟩
abbrev cX2_require : ByteArray := prog_1_method_26_code
def yX2_require : MethodName := ⟨RX2, "require", "(Z)V"⟩
def RX3 : String := "DotGossipModel"
def TX3 : u_T := fun k => match k with
  | 0 => ("DotGossipModel", "code", "I", false)
  | 1 => ("DotGossipModel", "replicas", "I", false)
  | 2 => ("DotGossipModel", "messages", "I", false)
  | 3 => ("DotGossipModel", "table", "[I", true)
  | 4 => ("DotGossipModel", "values", "[I", true)
  | 5 => ("DotGossipModel", "sums", "[J", true)
  | 6 => ("DotGossipModel", "from", "[I", true)
  | _ => ("DotGossipModel", "to", "[I", true)
def tyX3 : Nat → FieldType := fun k => match k with
  | 0 => .int
  | 1 => .int
  | 2 => .int
  | 3 => .array .int
  | 4 => .array .int
  | 5 => .array .long
  | 6 => .array .int
  | _ => .array .int
abbrev wsX30 : List Cond := u_ws RX3 TX3 8
abbrev cX3_init : ByteArray := prog_5_method_1_code
def yX3_init : MethodName := ⟨RX3, "<init>", "()V"⟩
abbrev cX3_thrown : ByteArray := prog_5_method_2_code
def yX3_thrown : MethodName := ⟨RX3, "thrown", "()I"⟩
abbrev cX3_refuses : ByteArray := prog_5_method_3_code
def yX3_refuses : MethodName := ⟨RX3, "refuses", "(I)Z"⟩
abbrev cX3_isReplica : ByteArray := prog_5_method_4_code
def yX3_isReplica : MethodName := ⟨RX3, "isReplica", "(I)Z"⟩
abbrev cX3_isElement : ByteArray := prog_5_method_5_code
def yX3_isElement : MethodName := ⟨RX3, "isElement", "(III)Z"⟩
abbrev cX3_isRegister : ByteArray := prog_5_method_6_code
def yX3_isRegister : MethodName := ⟨RX3, "isRegister", "(II)Z"⟩
abbrev cX3_dots : ByteArray := prog_5_method_7_code
def yX3_dots : MethodName := ⟨RX3, "dots", "(II)I"⟩
abbrev cX3_vectorAt : ByteArray := prog_5_method_8_code
def yX3_vectorAt : MethodName := ⟨RX3, "vectorAt", "(II)I"⟩
abbrev cX3_open : ByteArray := prog_5_method_9_code
def yX3_open : MethodName := ⟨RX3, site_155.name, "(I)V"⟩
abbrev cX3_many : ByteArray := prog_5_method_10_code
def yX3_many : MethodName := ⟨RX3, "many", "(II)I"⟩
abbrev cX3_empties : ByteArray := prog_5_method_11_code
def yX3_empties : MethodName := ⟨RX3, "empties", "(II)V"⟩
abbrev cX3_news : ByteArray := prog_5_method_12_code
def yX3_news : MethodName := ⟨RX3, "news", "(II)I"⟩
abbrev cX3_add : ByteArray := prog_5_method_13_code
def yX3_add : MethodName := ⟨RX3, "add", "(III)I"⟩
abbrev cX3_remove : ByteArray := prog_5_method_14_code
def yX3_remove : MethodName := ⟨RX3, "remove", "(III)I"⟩
abbrev cX3_clear : ByteArray := prog_5_method_15_code
def yX3_clear : MethodName := ⟨RX3, "clear", "(II)I"⟩
abbrev cX3_write : ByteArray := prog_5_method_16_code
def yX3_write : MethodName := ⟨RX3, "write", "(III)I"⟩
abbrev cX3_count : ByteArray := prog_5_method_17_code
def yX3_count : MethodName := ⟨RX3, "count", "(III)I"⟩
abbrev cX3_sum : ByteArray := prog_5_method_18_code
def yX3_sum : MethodName := ⟨RX3, "sum", "(II)I"⟩
abbrev cX3_copies : ByteArray := prog_5_method_19_code
def yX3_copies : MethodName := ⟨RX3, "copies", "(II)V"⟩
abbrev cX3_gossip : ByteArray := prog_5_method_20_code
def yX3_gossip : MethodName := ⟨RX3, "gossip", "(II)I"⟩
abbrev cX3_isMessage : ByteArray := prog_5_method_21_code
def yX3_isMessage : MethodName := ⟨RX3, "isMessage", "(I)Z"⟩
abbrev cX3_gone : ByteArray := prog_5_method_22_code
def yX3_gone : MethodName := ⟨RX3, "gone", "(I)V"⟩
abbrev cX3_merges : ByteArray := prog_5_method_23_code
def yX3_merges : MethodName := ⟨RX3, "merges", "(II)I"⟩
abbrev cX3_deliver : ByteArray := prog_5_method_24_code
def yX3_deliver : MethodName := ⟨RX3, "deliver", "(I)I"⟩
abbrev cX3_drop : ByteArray := prog_5_method_25_code
def yX3_drop : MethodName := ⟨RX3, "drop", "(I)I"⟩
abbrev cX3_copy : ByteArray := prog_5_method_26_code
def yX3_copy : MethodName := ⟨RX3, "copy", "(I)Z"⟩
abbrev cX3_turn : ByteArray := prog_5_method_27_code
def yX3_turn : MethodName := ⟨RX3, "turn", "(II)V"⟩
abbrev cX3_contains : ByteArray := prog_5_method_28_code
def yX3_contains : MethodName := ⟨RX3, "contains", "(III)Z"⟩
abbrev cX3_size : ByteArray := prog_5_method_29_code
def yX3_size : MethodName := ⟨RX3, "size", "(II)I"⟩
abbrev cX3_origin : ByteArray := prog_5_method_30_code
def yX3_origin : MethodName := ⟨RX3, "origin", "(III)I"⟩
abbrev cX3_dot : ByteArray := prog_5_method_31_code
def yX3_dot : MethodName := ⟨RX3, "dot", "(IIIII)I"⟩
abbrev cX3_value : ByteArray := prog_5_method_32_code
def yX3_value : MethodName := ⟨RX3, "value", "(IIII)I"⟩
abbrev cX3_values : ByteArray := prog_5_method_33_code
def yX3_values : MethodName := ⟨RX3, "values", "(II)I"⟩
abbrev cX3_total : ByteArray := prog_5_method_34_code
def yX3_total : MethodName := ⟨RX3, "total", "(II)I"⟩
abbrev cX3_vector : ByteArray := prog_5_method_35_code
def yX3_vector : MethodName := ⟨RX3, "vector", "(II)I"⟩
abbrev cX3_same : ByteArray := prog_5_method_36_code
def yX3_same : MethodName := ⟨RX3, "same", "(II)Z"⟩
abbrev cX3_message : ByteArray := prog_5_method_37_code
def yX3_message : MethodName := ⟨RX3, "message", "(II)I"⟩
def RJx145de : String := "java/io/Serializable"
def TJx145de : u_T := fun k => match k with
  | _ => ("", "", "", false)
def tyJx145de : Nat → FieldType := fun k => match k with
  | _ => .int
abbrev wsJx145de0 : List Cond := u_ws RJx145de TJx145de 0
def RJx8e188 : String := "java/lang/Cloneable"
def TJx8e188 : u_T := fun k => match k with
  | _ => ("", "", "", false)
def tyJx8e188 : Nat → FieldType := fun k => match k with
  | _ => .int
abbrev wsJx8e1880 : List Cond := u_ws RJx8e188 TJx8e188 0
def RJxab1ab : String := "java/lang/Iterable"
def TJxab1ab : u_T := fun k => match k with
  | _ => ("", "", "", false)
def tyJxab1ab : Nat → FieldType := fun k => match k with
  | _ => .int
abbrev wsJxab1ab0 : List Cond := u_ws RJxab1ab TJxab1ab 0
def RJ9 : String := "java/lang/Math"
def TJ9 : u_T := fun k => match k with
  | _ => ("", "", "", false)
def tyJ9 : Nat → FieldType := fun k => match k with
  | _ => .int
abbrev wsJ90 : List Cond := u_ws RJ9 TJ9 0
abbrev cJ9_max_7cf53 : ByteArray := prog_12_method_65_code
def yJ9_max_7cf53 : MethodName := ⟨RJ9, "max", "(II)I"⟩
abbrev cJ9_max_f86c9 : ByteArray := prog_12_method_66_code
def yJ9_max_f86c9 : MethodName := ⟨RJ9, "max", "(JJ)J"⟩
abbrev cJ9_min_7cf53 : ByteArray := prog_12_method_69_code
def yJ9_min_7cf53 : MethodName := ⟨RJ9, "min", "(II)I"⟩
def RJ10 : String := "java/lang/System"
def TJ10 : u_T := fun k => match k with
  | _ => ("", "", "", false)
def tyJ10 : Nat → FieldType := fun k => match k with
  | _ => .int
abbrev wsJ100 : List Cond := u_ws RJ10 TJ10 0
def RJxa1e45 : String := "java/util/AbstractCollection"
def TJxa1e45 : u_T := fun k => match k with
  | _ => ("", "", "", false)
def tyJxa1e45 : Nat → FieldType := fun k => match k with
  | _ => .int
abbrev wsJxa1e450 : List Cond := u_ws RJxa1e45 TJxa1e45 0
abbrev cJxa1e45_init_da8c8 : ByteArray := prog_16_method_1_code
def yJxa1e45_init_da8c8 : MethodName := ⟨RJxa1e45, "<init>", "()V"⟩
def RJxc12de : String := "java/util/AbstractList"
def TJxc12de : u_T := fun k => match k with
  | _ => ("", "", "", false)
def tyJxc12de : Nat → FieldType := fun k => match k with
  | _ => .int
abbrev wsJxc12de0 : List Cond := u_ws RJxc12de TJxc12de 0
abbrev cJxc12de_init_da8c8 : ByteArray := prog_17_method_1_code
def yJxc12de_init_da8c8 : MethodName := ⟨RJxc12de, "<init>", "()V"⟩
def RJx4a65c : String := "java/util/ArrayList"
def TJx4a65c : u_T := fun k => match k with
  | 0 => ("java/util/AbstractList", "modCount", "I", false)
  | 1 => ("java/util/ArrayList", "elementData", "[Ljava/lang/Object;", false)
  | _ => ("java/util/ArrayList", "size", "I", false)
def tyJx4a65c : Nat → FieldType := fun k => match k with
  | 0 => .int
  | 1 => .array (.object "java/lang/Object")
  | _ => .int
abbrev wsJx4a65c0 : List Cond := u_ws RJx4a65c TJx4a65c 3
abbrev cJx4a65c_init_da8c8 : ByteArray := prog_18_method_2_code
def yJx4a65c_init_da8c8 : MethodName := ⟨RJx4a65c, "<init>", "()V"⟩
abbrev cJx4a65c_grow_92f84 : ByteArray := prog_18_method_6_code
def yJx4a65c_grow_92f84 : MethodName := ⟨RJx4a65c, "grow", "(I)[Ljava/lang/Object;"⟩
abbrev cJx4a65c_grow_d5877 : ByteArray := prog_18_method_7_code
def yJx4a65c_grow_d5877 : MethodName := ⟨RJx4a65c, "grow", "()[Ljava/lang/Object;"⟩
abbrev cJx4a65c_size_8abf5 : ByteArray := prog_18_method_8_code
def yJx4a65c_size_8abf5 : MethodName := ⟨RJx4a65c, "size", "()I"⟩
abbrev cJx4a65c_elementData_915e3 : ByteArray := prog_18_method_18_code
def yJx4a65c_elementData_915e3 : MethodName := ⟨RJx4a65c, "elementData", "(I)Ljava/lang/Object;"⟩
abbrev cJx4a65c_get_915e3 : ByteArray := prog_18_method_20_code
def yJx4a65c_get_915e3 : MethodName := ⟨RJx4a65c, "get", "(I)Ljava/lang/Object;"⟩
abbrev cJx4a65c_add_72be8 : ByteArray := prog_18_method_24_code
def yJx4a65c_add_72be8 : MethodName := ⟨RJx4a65c, "add", "(Ljava/lang/Object;[Ljava/lang/Object;I)V"⟩
abbrev cJx4a65c_add_9ea2d : ByteArray := prog_18_method_25_code
def yJx4a65c_add_9ea2d : MethodName := ⟨RJx4a65c, "add", "(Ljava/lang/Object;)Z"⟩
abbrev cJx4a65c_remove_915e3 : ByteArray := prog_18_method_29_code
def yJx4a65c_remove_915e3 : MethodName := ⟨RJx4a65c, "remove", "(I)Ljava/lang/Object;"⟩
abbrev cJx4a65c_fastRemove_b59b0 : ByteArray := prog_18_method_39_code
def yJx4a65c_fastRemove_b59b0 : MethodName := ⟨RJx4a65c, "fastRemove", "([Ljava/lang/Object;I)V"⟩
abbrev cJx4a65c_clear_da8c8 : ByteArray := prog_18_method_40_code
def yJx4a65c_clear_da8c8 : MethodName := ⟨RJx4a65c, "clear", "()V"⟩
def RJ7 : String := "java/util/Arrays"
def TJ7 : u_T := fun k => match k with
  | _ => ("", "", "", false)
def tyJ7 : Nat → FieldType := fun k => match k with
  | _ => .int
abbrev wsJ70 : List Cond := u_ws RJ7 TJ7 0
abbrev cJ7_fill_d0a16 : ByteArray := prog_19_method_101_code
def yJ7_fill_d0a16 : MethodName := ⟨RJ7, "fill", "([JJ)V"⟩
abbrev cJ7_fill_53178 : ByteArray := prog_19_method_103_code
def yJ7_fill_53178 : MethodName := ⟨RJ7, "fill", "([II)V"⟩
abbrev cJ7_copyOf_1904c : ByteArray := prog_19_method_119_code
def yJ7_copyOf_1904c : MethodName := ⟨RJ7, "copyOf", "([Ljava/lang/Object;I)[Ljava/lang/Object;"⟩
abbrev cJ7_copyOf_6403c : ByteArray := prog_19_method_120_code
def yJ7_copyOf_6403c : MethodName := ⟨RJ7, "copyOf", "([Ljava/lang/Object;ILjava/lang/Class;)[Ljava/lang/Object;"⟩
def RJx5ef63 : String := "java/util/Collection"
def TJx5ef63 : u_T := fun k => match k with
  | _ => ("", "", "", false)
def tyJx5ef63 : Nat → FieldType := fun k => match k with
  | _ => .int
abbrev wsJx5ef630 : List Cond := u_ws RJx5ef63 TJx5ef63 0
def RJxbd725 : String := "java/util/List"
def TJxbd725 : u_T := fun k => match k with
  | _ => ("", "", "", false)
def tyJxbd725 : Nat → FieldType := fun k => match k with
  | _ => .int
abbrev wsJxbd7250 : List Cond := u_ws RJxbd725 TJxbd725 0
def RJ15 : String := "java/util/Objects"
def TJ15 : u_T := fun k => match k with
  | _ => ("", "", "", false)
def tyJ15 : Nat → FieldType := fun k => match k with
  | _ => .int
abbrev wsJ150 : List Cond := u_ws RJ15 TJ15 0
abbrev cJ15_checkIndex_7cf53 : ByteArray := prog_22_method_17_code
def yJ15_checkIndex_7cf53 : MethodName := ⟨RJ15, "checkIndex", "(II)I"⟩
def RJxf0a74 : String := "java/util/RandomAccess"
def TJxf0a74 : u_T := fun k => match k with
  | _ => ("", "", "", false)
def tyJxf0a74 : Nat → FieldType := fun k => match k with
  | _ => .int
abbrev wsJxf0a740 : List Cond := u_ws RJxf0a74 TJxf0a74 0
def RJxa66e6 : String := "java/util/SequencedCollection"
def TJxa66e6 : u_T := fun k => match k with
  | _ => ("", "", "", false)
def tyJxa66e6 : Nat → FieldType := fun k => match k with
  | _ => .int
abbrev wsJxa66e60 : List Cond := u_ws RJxa66e6 TJxa66e6 0
def RJ8 : String := "jdk/internal/util/ArraysSupport"
def TJ8 : u_T := fun k => match k with
  | _ => ("", "", "", false)
def tyJ8 : Nat → FieldType := fun k => match k with
  | _ => .int
abbrev wsJ80 : List Cond := u_ws RJ8 TJ8 0
abbrev cJ8_newLength_cabcc : ByteArray := prog_25_method_27_code
def yJ8_newLength_cabcc : MethodName := ⟨RJ8, "newLength", "(III)I"⟩
abbrev cJ8_hugeLength_7cf53 : ByteArray := prog_25_method_28_code
def yJ8_hugeLength_7cf53 : MethodName := ⟨RJ8, "hugeLength", "(II)I"⟩
def RJ3 : String := "jdk/internal/util/Preconditions"
def TJ3 : u_T := fun k => match k with
  | _ => ("", "", "", false)
def tyJ3 : Nat → FieldType := fun k => match k with
  | _ => .int
abbrev wsJ30 : List Cond := u_ws RJ3 TJ3 0
abbrev cJ3_checkIndex_8e157 : ByteArray := prog_26_method_11_code
def yJ3_checkIndex_8e157 : MethodName := ⟨RJ3, "checkIndex", "(IILjava/util/function/BiFunction;)I"⟩
def RL : String := "DotGossipLaw"
abbrev cL_open : ByteArray := method_3_code
def yL_open : MethodName := ⟨RL, site_155.name, "(LDotGossip;I)I"⟩
abbrev cL_add : ByteArray := method_4_code
def yL_add : MethodName := ⟨RL, "add", "(LDotGossip;III[J)I"⟩
abbrev cL_remove : ByteArray := method_5_code
def yL_remove : MethodName := ⟨RL, "remove", "(LDotGossip;III[J)I"⟩
abbrev cL_clear : ByteArray := method_6_code
def yL_clear : MethodName := ⟨RL, "clear", "(LDotGossip;II[J)I"⟩
abbrev cL_write : ByteArray := method_7_code
def yL_write : MethodName := ⟨RL, "write", "(LDotGossip;III[J)I"⟩
abbrev cL_count : ByteArray := method_8_code
def yL_count : MethodName := ⟨RL, "count", "(LDotGossip;III[J)I"⟩
abbrev cL_gossip : ByteArray := method_9_code
def yL_gossip : MethodName := ⟨RL, "gossip", "(LDotGossip;II[J)I"⟩
abbrev cL_deliver : ByteArray := method_10_code
def yL_deliver : MethodName := ⟨RL, "deliver", "(LDotGossip;I[J)I"⟩
abbrev cL_drop : ByteArray := method_11_code
def yL_drop : MethodName := ⟨RL, "drop", "(LDotGossip;I[J)I"⟩
abbrev cL_copy : ByteArray := method_12_code
def yL_copy : MethodName := ⟨RL, "copy", "(LDotGossip;I[J)I"⟩
abbrev cL_turn : ByteArray := method_13_code
def yL_turn : MethodName := ⟨RL, "turn", "(LDotGossip;II)I"⟩
abbrev cL_contains : ByteArray := method_14_code
def yL_contains : MethodName := ⟨RL, "contains", "(LDotGossip;III[J)I"⟩
abbrev cL_size : ByteArray := method_15_code
def yL_size : MethodName := ⟨RL, "size", "(LDotGossip;II[J)I"⟩
abbrev cL_dot : ByteArray := method_16_code
def yL_dot : MethodName := ⟨RL, "dot", "(LDotGossip;IIIII[J)I"⟩
abbrev cL_value : ByteArray := method_17_code
def yL_value : MethodName := ⟨RL, "value", "(LDotGossip;IIII[J)I"⟩
abbrev cL_values : ByteArray := method_18_code
def yL_values : MethodName := ⟨RL, "values", "(LDotGossip;II[J)I"⟩
abbrev cL_total : ByteArray := method_19_code
def yL_total : MethodName := ⟨RL, "total", "(LDotGossip;II[J)I"⟩
abbrev cL_vector : ByteArray := method_20_code
def yL_vector : MethodName := ⟨RL, "vector", "(LDotGossip;II[J)I"⟩
abbrev cL_same : ByteArray := method_21_code
def yL_same : MethodName := ⟨RL, "same", "(LDotGossip;II[J)I"⟩
abbrev cL_message : ByteArray := method_22_code
def yL_message : MethodName := ⟨RL, "message", "(LDotGossip;II[J)I"⟩
abbrev cL_law : ByteArray := code
def yL_law : MethodName := ⟨RL, "law", "([I)Z"⟩
def wsX0_init : List Cond := .code yX0_init cX0_init 1 none :: ([.methodLink RX0 3 objectInit, .instanceMethod objectInit, .code objectInit ⟨#[0xb1]⟩ 1 none, .arrayClass .int, .fieldLink RX0 9 "DotGossip$Holding" "seen" "[I", .fieldLink RX0 15 "DotGossip$Holding" "numbers" "[I", .fieldLink RX0 18 "DotGossip$Holding" "written" "[I", .arrayClass .long, .fieldLink RX0 21 "DotGossip$Holding" "added" "[J", .fieldLink RX0 25 "DotGossip$Holding" "taken" "[J"] ++ wsX00)
def wsJ7_fill_53178 : List Cond := .code yJ7_fill_53178 cJ7_fill_53178 4 none :: ([])
def wsJ7_fill_d0a16 : List Cond := .code yJ7_fill_d0a16 cJ7_fill_d0a16 5 none :: ([])
def wsX0_wipe : List Cond := .code yX0_wipe cX0_wipe 1 none :: ([.fieldLink RX0 9 "DotGossip$Holding" "seen" "[I", .fieldLink RX0 15 "DotGossip$Holding" "numbers" "[I", .fieldLink RX0 18 "DotGossip$Holding" "written" "[I", .fieldLink RX0 21 "DotGossip$Holding" "added" "[J", .fieldLink RX0 25 "DotGossip$Holding" "taken" "[J", .methodLink RX0 28 yJ7_fill_53178, .static yJ7_fill_53178, .initialized RJ7, .code yJ7_fill_53178 cJ7_fill_53178 4 none, .methodLink RX0 34 yJ7_fill_d0a16, .static yJ7_fill_d0a16, .code yJ7_fill_d0a16 cJ7_fill_d0a16 5 none] ++ wsX00)
def wsX0_snapshot : List Cond := .code yX0_snapshot cX0_snapshot 2 (some (.object "DotGossip$Holding")) :: ([.classLink RX0 10 RX0, .instantiable RX0 5, .initialized RX0, .fieldLink RX0 9 "DotGossip$Holding" "seen" "[I", .methodLink RX0 38 arraycopyName, .native arraycopyName, .static arraycopyName, .initialized "java/lang/System", .fieldLink RX0 15 "DotGossip$Holding" "numbers" "[I", .fieldLink RX0 18 "DotGossip$Holding" "written" "[I", .fieldLink RX0 21 "DotGossip$Holding" "added" "[J", .fieldLink RX0 25 "DotGossip$Holding" "taken" "[J", .methodLink RX0 37 yX0_init, .instanceMethod yX0_init, .code yX0_init cX0_init 1 none, .methodLink RX0 3 objectInit, .instanceMethod objectInit, .code objectInit ⟨#[0xb1]⟩ 1 none, .arrayClass .int, .arrayClass .long] ++ wsX00)
def wsX0_makeDot : List Cond := .code yX0_makeDot cX0_makeDot 3 (some .int) :: ([.fieldLink RX0 9 "DotGossip$Holding" "seen" "[I", .fieldLink RX0 15 "DotGossip$Holding" "numbers" "[I"] ++ wsX00)
def wsX0_dotsAt : List Cond := .code yX0_dotsAt cX0_dotsAt 4 (some .int) :: ([.fieldLink RX0 15 "DotGossip$Holding" "numbers" "[I"] ++ wsX00)
def wsX0_forget : List Cond := .code yX0_forget cX0_forget 4 (some .int) :: ([.fieldLink RX0 15 "DotGossip$Holding" "numbers" "[I", .methodLink RX0 44 yX0_dotsAt, .instanceMethod yX0_dotsAt, .selects RX0 yX0_dotsAt yX0_dotsAt, .initialized RX0, .code yX0_dotsAt cX0_dotsAt 4 (some .int)] ++ wsX00)
def wsX0_makerOf : List Cond := .code yX0_makerOf cX0_makerOf 5 (some .int) :: ([.fieldLink RX0 15 "DotGossip$Holding" "numbers" "[I"] ++ wsX00)
def wsX0_numberBy : List Cond := .code yX0_numberBy cX0_numberBy 3 (some .int) :: ([.fieldLink RX0 15 "DotGossip$Holding" "numbers" "[I"] ++ wsX00)
def wsX0_worth : List Cond := .code yX0_worth cX0_worth 6 (some .int) :: ([.fieldLink RX0 21 "DotGossip$Holding" "added" "[J", .fieldLink RX0 25 "DotGossip$Holding" "taken" "[J"] ++ wsX00)
def wsX0_mergeDot : List Cond := .code yX0_mergeDot cX0_mergeDot 7 (some .boolean) :: ([.fieldLink RX0 15 "DotGossip$Holding" "numbers" "[I", .fieldLink RX0 9 "DotGossip$Holding" "seen" "[I", .fieldLink RX0 18 "DotGossip$Holding" "written" "[I"] ++ wsX00)
def wsX0_merge : List Cond := .code yX0_merge cX0_merge 5 (some .int) :: ([.fieldLink RX0 9 "DotGossip$Holding" "seen" "[I", .methodLink RX0 52 Lib.Math.max.name, .static Lib.Math.max.name, .initialized "java/lang/Math", .code Lib.Math.max.name Lib.Math.max.code 2 (some .int), .fieldLink RX0 21 "DotGossip$Holding" "added" "[J", .methodLink RX0 58 Lib.MathLoose.max_long.x, .static Lib.MathLoose.max_long.x, .code Lib.MathLoose.max_long.x Lib.MathLoose.max_long.code 4 (some .long), .fieldLink RX0 25 "DotGossip$Holding" "taken" "[J", .methodLink RX0 48 yX0_mergeDot, .instanceMethod yX0_mergeDot, .selects RX0 yX0_mergeDot yX0_mergeDot, .initialized RX0, .code yX0_mergeDot cX0_mergeDot 7 (some .boolean), .fieldLink RX0 15 "DotGossip$Holding" "numbers" "[I", .fieldLink RX0 18 "DotGossip$Holding" "written" "[I"] ++ wsX00)
def wsX0_equalInts : List Cond := .code yX0_equalInts cX0_equalInts 3 (some .boolean) :: ([])
def wsX0_equalLongs : List Cond := .code yX0_equalLongs cX0_equalLongs 3 (some .boolean) :: ([])
def wsX0_matches : List Cond := .code yX0_matches cX0_matches 2 (some .boolean) :: ([.fieldLink RX0 9 "DotGossip$Holding" "seen" "[I", .fieldLink RX0 15 "DotGossip$Holding" "numbers" "[I", .fieldLink RX0 21 "DotGossip$Holding" "added" "[J", .fieldLink RX0 25 "DotGossip$Holding" "taken" "[J", .methodLink RX0 61 yX0_equalInts, .static yX0_equalInts, .initialized RX0, .code yX0_equalInts cX0_equalInts 3 (some .boolean), .methodLink RX0 65 yX0_equalLongs, .static yX0_equalLongs, .code yX0_equalLongs cX0_equalLongs 3 (some .boolean)] ++ wsX00)
def wsX1_init : List Cond := .code yX1_init cX1_init 4 none :: ([.methodLink RX1 1 objectInit, .instanceMethod objectInit, .code objectInit ⟨#[0xb1]⟩ 1 none, .fieldLink RX1 7 "DotGossip$Message" "from" "I", .fieldLink RX1 13 "DotGossip$Message" "to" "I", .fieldLink RX1 16 "DotGossip$Message" "sent" "LDotGossip$Holding;"] ++ wsX10)
def wsJxa1e45_init_da8c8 : List Cond := .code yJxa1e45_init_da8c8 cJxa1e45_init_da8c8 1 none :: ([.methodLink RJxa1e45 1 objectInit, .instanceMethod objectInit, .code objectInit ⟨#[0xb1]⟩ 1 none])
def wsJxc12de_init_da8c8 : List Cond := .code yJxc12de_init_da8c8 cJxc12de_init_da8c8 1 none :: ([.fieldLink RJxc12de 7 "java/util/AbstractList" "modCount" "I", .methodLink RJxc12de 1 yJxa1e45_init_da8c8, .instanceMethod yJxa1e45_init_da8c8, .initialized RJxa1e45, .code yJxa1e45_init_da8c8 cJxa1e45_init_da8c8 1 none, .methodLink RJxa1e45 1 objectInit, .instanceMethod objectInit, .code objectInit ⟨#[0xb1]⟩ 1 none] ++ wsJx4a65c0)
def wsJx4a65c_init_da8c8 : List Cond := .code yJx4a65c_init_da8c8 cJx4a65c_init_da8c8 1 none :: ([.fieldLink RJx4a65c 39 "java/util/ArrayList" "DEFAULTCAPACITY_EMPTY_ELEMENTDATA" "[Ljava/lang/Object;", .fieldLink RJx4a65c 9 "java/util/ArrayList" "elementData" "[Ljava/lang/Object;", .methodLink RJx4a65c 1 yJxc12de_init_da8c8, .instanceMethod yJxc12de_init_da8c8, .initialized RJxc12de, .code yJxc12de_init_da8c8 cJxc12de_init_da8c8 1 none, .fieldLink RJxc12de 7 "java/util/AbstractList" "modCount" "I", .methodLink RJxc12de 1 yJxa1e45_init_da8c8, .instanceMethod yJxa1e45_init_da8c8, .initialized RJxa1e45, .code yJxa1e45_init_da8c8 cJxa1e45_init_da8c8 1 none, .methodLink RJxa1e45 1 objectInit, .instanceMethod objectInit, .code objectInit ⟨#[0xb1]⟩ 1 none] ++ wsJx4a65c0)
def wsX2_init_r1 : List Cond := [Cond.methodLink RX2 3 objectInit, Cond.instanceMethod objectInit, Cond.code objectInit ⟨#[0xb1]⟩ 1 none, Cond.classLink RX2 9 RX0, Cond.fieldLink RX2 11 "DotGossip" "holdings" "[LDotGossip$Holding;", Cond.instantiable RX0 5, Cond.initialized RX0, Cond.classLink RX2 16 RJx4a65c, Cond.instantiable RJx4a65c 3, Cond.initialized RJx4a65c, Cond.fieldLink RX2 19 "DotGossip" "wire" "Ljava/util/ArrayList;", Cond.fieldLink RX2 23 "DotGossip" "replicaCount" "I", Cond.methodLink RX2 15 yX0_init, Cond.instanceMethod yX0_init, Cond.code yX0_init cX0_init 1 none, Cond.methodLink RX0 3 objectInit, Cond.arrayClass .int, Cond.fieldLink RX0 9 "DotGossip$Holding" "seen" "[I", Cond.fieldLink RX0 15 "DotGossip$Holding" "numbers" "[I", Cond.fieldLink RX0 18 "DotGossip$Holding" "written" "[I", Cond.arrayClass .long, Cond.fieldLink RX0 21 "DotGossip$Holding" "added" "[J", Cond.fieldLink RX0 25 "DotGossip$Holding" "taken" "[J", Cond.methodLink RX2 18 yJx4a65c_init_da8c8]
def wsX2_init_r2 : List Cond := [Cond.instanceMethod yJx4a65c_init_da8c8, Cond.code yJx4a65c_init_da8c8 cJx4a65c_init_da8c8 1 none, Cond.fieldLink RJx4a65c 39 "java/util/ArrayList" "DEFAULTCAPACITY_EMPTY_ELEMENTDATA" "[Ljava/lang/Object;", Cond.fieldLink RJx4a65c 9 "java/util/ArrayList" "elementData" "[Ljava/lang/Object;", Cond.methodLink RJx4a65c 1 yJxc12de_init_da8c8, Cond.instanceMethod yJxc12de_init_da8c8, Cond.initialized RJxc12de, Cond.code yJxc12de_init_da8c8 cJxc12de_init_da8c8 1 none, Cond.fieldLink RJxc12de 7 "java/util/AbstractList" "modCount" "I", Cond.methodLink RJxc12de 1 yJxa1e45_init_da8c8, Cond.instanceMethod yJxa1e45_init_da8c8, Cond.initialized RJxa1e45, Cond.code yJxa1e45_init_da8c8 cJxa1e45_init_da8c8 1 none, Cond.methodLink RJxa1e45 1 objectInit]
def wsX2_init : List Cond := .code yX2_init cX2_init 2 none :: ((wsX2_init_r1 ++ wsX2_init_r2) ++ wsX20 ++ wsX00 ++ wsJx4a65c0)
def wsX2_require : List Cond := .code yX2_require cX2_require 1 none :: ([.classLink RX2 131 "java/lang/IllegalArgumentException", .initialized "java/lang/IllegalArgumentException"] ++ (vx_at0 RX2 133 "java/lang/IllegalArgumentException" ["java/lang/RuntimeException", "java/lang/Exception"]).filter goodWord)
def wsJx4a65c_clear_da8c8 : List Cond := .code yJx4a65c_clear_da8c8 cJx4a65c_clear_da8c8 4 none :: ([.fieldLink RJx4a65c 63 "java/util/ArrayList" "modCount" "I", .sameField "java/util/ArrayList" "java/util/AbstractList" "modCount" "I", .fieldLink RJx4a65c 9 "java/util/ArrayList" "elementData" "[Ljava/lang/Object;", .fieldLink RJx4a65c 48 "java/util/ArrayList" "size" "I"] ++ wsJx4a65c0)
def wsX2_open_r1 : List Cond := [Cond.fieldLink RX2 11 "DotGossip" "holdings" "[LDotGossip$Holding;", Cond.fieldLink RX2 19 "DotGossip" "wire" "Ljava/util/ArrayList;", Cond.fieldLink RX2 23 "DotGossip" "replicaCount" "I", Cond.methodLink RX2 27 yX2_require, Cond.static yX2_require, Cond.initialized RX2, Cond.code yX2_require cX2_require 1 none, Cond.classLink RX2 131 "java/lang/IllegalArgumentException", Cond.initialized "java/lang/IllegalArgumentException", Cond.methodLink RX2 31 yX0_wipe, Cond.instanceMethod yX0_wipe, Cond.selects RX0 yX0_wipe yX0_wipe, Cond.initialized RX0, Cond.code yX0_wipe cX0_wipe 1 none, Cond.fieldLink RX0 9 "DotGossip$Holding" "seen" "[I", Cond.fieldLink RX0 15 "DotGossip$Holding" "numbers" "[I", Cond.fieldLink RX0 18 "DotGossip$Holding" "written" "[I", Cond.fieldLink RX0 21 "DotGossip$Holding" "added" "[J", Cond.fieldLink RX0 25 "DotGossip$Holding" "taken" "[J", Cond.methodLink RX0 28 yJ7_fill_53178, Cond.static yJ7_fill_53178, Cond.initialized RJ7, Cond.code yJ7_fill_53178 cJ7_fill_53178 4 none, Cond.methodLink RX0 34 yJ7_fill_d0a16]
def wsX2_open_r2 : List Cond := [Cond.static yJ7_fill_d0a16, Cond.code yJ7_fill_d0a16 cJ7_fill_d0a16 5 none, Cond.methodLink RX2 34 yJx4a65c_clear_da8c8, Cond.instanceMethod yJx4a65c_clear_da8c8, Cond.selects RJx4a65c yJx4a65c_clear_da8c8 yJx4a65c_clear_da8c8, Cond.initialized RJx4a65c, Cond.code yJx4a65c_clear_da8c8 cJx4a65c_clear_da8c8 4 none, Cond.fieldLink RJx4a65c 63 "java/util/ArrayList" "modCount" "I", Cond.sameField "java/util/ArrayList" "java/util/AbstractList" "modCount" "I", Cond.fieldLink RJx4a65c 9 "java/util/ArrayList" "elementData" "[Ljava/lang/Object;", Cond.fieldLink RJx4a65c 48 "java/util/ArrayList" "size" "I"]
def wsX2_open : List Cond := .code yX2_open cX2_open 3 none :: ((wsX2_open_r1 ++ wsX2_open_r2) ++ wsX20 ++ wsX00 ++ wsJx4a65c0 ++ (vx_at0 RX2 133 "java/lang/IllegalArgumentException" ["java/lang/RuntimeException", "java/lang/Exception"]).filter goodWord)
def wsX2_requireIndex : List Cond := .code yX2_requireIndex cX2_requireIndex 2 none :: ([.methodLink RX2 27 yX2_require, .static yX2_require, .initialized RX2, .code yX2_require cX2_require 1 none, .classLink RX2 131 "java/lang/IllegalArgumentException", .initialized "java/lang/IllegalArgumentException"] ++ (vx_at0 RX2 133 "java/lang/IllegalArgumentException" ["java/lang/RuntimeException", "java/lang/Exception"]).filter goodWord)
def wsX2_requireReplica : List Cond := .code yX2_requireReplica cX2_requireReplica 2 none :: ([.fieldLink RX2 23 "DotGossip" "replicaCount" "I", .methodLink RX2 56 yX2_requireIndex, .static yX2_requireIndex, .initialized RX2, .code yX2_requireIndex cX2_requireIndex 2 none, .methodLink RX2 27 yX2_require, .static yX2_require, .code yX2_require cX2_require 1 none, .classLink RX2 131 "java/lang/IllegalArgumentException", .initialized "java/lang/IllegalArgumentException"] ++ wsX20 ++ (vx_at0 RX2 133 "java/lang/IllegalArgumentException" ["java/lang/RuntimeException", "java/lang/Exception"]).filter goodWord)
def wsX2_requireElement : List Cond := .code yX2_requireElement cX2_requireElement 4 none :: ([.methodLink RX2 52 yX2_requireReplica, .instanceMethod yX2_requireReplica, .selects RX2 yX2_requireReplica yX2_requireReplica, .initialized RX2, .code yX2_requireReplica cX2_requireReplica 2 none, .fieldLink RX2 23 "DotGossip" "replicaCount" "I", .methodLink RX2 56 yX2_requireIndex, .static yX2_requireIndex, .code yX2_requireIndex cX2_requireIndex 2 none, .methodLink RX2 27 yX2_require, .static yX2_require, .code yX2_require cX2_require 1 none, .classLink RX2 131 "java/lang/IllegalArgumentException", .initialized "java/lang/IllegalArgumentException"] ++ wsX20 ++ (vx_at0 RX2 133 "java/lang/IllegalArgumentException" ["java/lang/RuntimeException", "java/lang/Exception"]).filter goodWord)
def wsX2_placeOfElement : List Cond := .code yX2_placeOfElement cX2_placeOfElement 2 (some .int) :: ([])
def wsX2_add_r1 : List Cond := [Cond.fieldLink RX2 11 "DotGossip" "holdings" "[LDotGossip$Holding;", Cond.methodLink RX2 37 yX2_requireElement, Cond.instanceMethod yX2_requireElement, Cond.selects RX2 yX2_requireElement yX2_requireElement, Cond.initialized RX2, Cond.code yX2_requireElement cX2_requireElement 4 none, Cond.methodLink RX2 52 yX2_requireReplica, Cond.instanceMethod yX2_requireReplica, Cond.selects RX2 yX2_requireReplica yX2_requireReplica, Cond.code yX2_requireReplica cX2_requireReplica 2 none, Cond.fieldLink RX2 23 "DotGossip" "replicaCount" "I", Cond.methodLink RX2 56 yX2_requireIndex, Cond.static yX2_requireIndex, Cond.code yX2_requireIndex cX2_requireIndex 2 none, Cond.methodLink RX2 27 yX2_require, Cond.static yX2_require, Cond.code yX2_require cX2_require 1 none, Cond.classLink RX2 131 "java/lang/IllegalArgumentException", Cond.initialized "java/lang/IllegalArgumentException", Cond.methodLink RX2 41 yX2_placeOfElement, Cond.static yX2_placeOfElement, Cond.code yX2_placeOfElement cX2_placeOfElement 2 (some .int), Cond.methodLink RX2 45 yX0_forget, Cond.instanceMethod yX0_forget]
def wsX2_add_r2 : List Cond := [Cond.selects RX0 yX0_forget yX0_forget, Cond.initialized RX0, Cond.code yX0_forget cX0_forget 4 (some .int), Cond.fieldLink RX0 15 "DotGossip$Holding" "numbers" "[I", Cond.methodLink RX0 44 yX0_dotsAt, Cond.instanceMethod yX0_dotsAt, Cond.selects RX0 yX0_dotsAt yX0_dotsAt, Cond.code yX0_dotsAt cX0_dotsAt 4 (some .int), Cond.methodLink RX2 49 yX0_makeDot, Cond.instanceMethod yX0_makeDot, Cond.selects RX0 yX0_makeDot yX0_makeDot, Cond.code yX0_makeDot cX0_makeDot 3 (some .int), Cond.fieldLink RX0 9 "DotGossip$Holding" "seen" "[I"]
def wsX2_add : List Cond := .code yX2_add cX2_add 6 (some .int) :: ((wsX2_add_r1 ++ wsX2_add_r2) ++ wsX20 ++ wsX00 ++ (vx_at0 RX2 133 "java/lang/IllegalArgumentException" ["java/lang/RuntimeException", "java/lang/Exception"]).filter goodWord)
def wsX2_remove_r1 : List Cond := [Cond.fieldLink RX2 11 "DotGossip" "holdings" "[LDotGossip$Holding;", Cond.methodLink RX2 37 yX2_requireElement, Cond.instanceMethod yX2_requireElement, Cond.selects RX2 yX2_requireElement yX2_requireElement, Cond.initialized RX2, Cond.code yX2_requireElement cX2_requireElement 4 none, Cond.methodLink RX2 52 yX2_requireReplica, Cond.instanceMethod yX2_requireReplica, Cond.selects RX2 yX2_requireReplica yX2_requireReplica, Cond.code yX2_requireReplica cX2_requireReplica 2 none, Cond.fieldLink RX2 23 "DotGossip" "replicaCount" "I", Cond.methodLink RX2 56 yX2_requireIndex, Cond.static yX2_requireIndex, Cond.code yX2_requireIndex cX2_requireIndex 2 none, Cond.methodLink RX2 27 yX2_require, Cond.static yX2_require, Cond.code yX2_require cX2_require 1 none, Cond.classLink RX2 131 "java/lang/IllegalArgumentException", Cond.initialized "java/lang/IllegalArgumentException", Cond.methodLink RX2 41 yX2_placeOfElement, Cond.static yX2_placeOfElement, Cond.code yX2_placeOfElement cX2_placeOfElement 2 (some .int), Cond.methodLink RX2 45 yX0_forget, Cond.instanceMethod yX0_forget]
def wsX2_remove_r2 : List Cond := [Cond.selects RX0 yX0_forget yX0_forget, Cond.initialized RX0, Cond.code yX0_forget cX0_forget 4 (some .int), Cond.fieldLink RX0 15 "DotGossip$Holding" "numbers" "[I", Cond.methodLink RX0 44 yX0_dotsAt, Cond.instanceMethod yX0_dotsAt, Cond.selects RX0 yX0_dotsAt yX0_dotsAt, Cond.code yX0_dotsAt cX0_dotsAt 4 (some .int)]
def wsX2_remove : List Cond := .code yX2_remove cX2_remove 4 (some .int) :: ((wsX2_remove_r1 ++ wsX2_remove_r2) ++ wsX20 ++ wsX00 ++ (vx_at0 RX2 133 "java/lang/IllegalArgumentException" ["java/lang/RuntimeException", "java/lang/Exception"]).filter goodWord)
def wsX2_clear_r1 : List Cond := [Cond.fieldLink RX2 11 "DotGossip" "holdings" "[LDotGossip$Holding;", Cond.methodLink RX2 52 yX2_requireReplica, Cond.instanceMethod yX2_requireReplica, Cond.selects RX2 yX2_requireReplica yX2_requireReplica, Cond.initialized RX2, Cond.code yX2_requireReplica cX2_requireReplica 2 none, Cond.fieldLink RX2 23 "DotGossip" "replicaCount" "I", Cond.methodLink RX2 56 yX2_requireIndex, Cond.static yX2_requireIndex, Cond.code yX2_requireIndex cX2_requireIndex 2 none, Cond.methodLink RX2 27 yX2_require, Cond.static yX2_require, Cond.code yX2_require cX2_require 1 none, Cond.classLink RX2 131 "java/lang/IllegalArgumentException", Cond.initialized "java/lang/IllegalArgumentException", Cond.methodLink RX2 41 yX2_placeOfElement, Cond.static yX2_placeOfElement, Cond.code yX2_placeOfElement cX2_placeOfElement 2 (some .int), Cond.methodLink RX2 45 yX0_forget, Cond.instanceMethod yX0_forget, Cond.selects RX0 yX0_forget yX0_forget, Cond.initialized RX0, Cond.code yX0_forget cX0_forget 4 (some .int), Cond.fieldLink RX0 15 "DotGossip$Holding" "numbers" "[I"]
def wsX2_clear_r2 : List Cond := [Cond.methodLink RX0 44 yX0_dotsAt, Cond.instanceMethod yX0_dotsAt, Cond.selects RX0 yX0_dotsAt yX0_dotsAt, Cond.code yX0_dotsAt cX0_dotsAt 4 (some .int)]
def wsX2_clear : List Cond := .code yX2_clear cX2_clear 5 (some .int) :: ((wsX2_clear_r1 ++ wsX2_clear_r2) ++ wsX20 ++ wsX00 ++ (vx_at0 RX2 133 "java/lang/IllegalArgumentException" ["java/lang/RuntimeException", "java/lang/Exception"]).filter goodWord)
def wsX2_write_r1 : List Cond := [Cond.fieldLink RX2 11 "DotGossip" "holdings" "[LDotGossip$Holding;", Cond.fieldLink RX2 60 "DotGossip$Holding" "written" "[I", Cond.methodLink RX2 52 yX2_requireReplica, Cond.instanceMethod yX2_requireReplica, Cond.selects RX2 yX2_requireReplica yX2_requireReplica, Cond.initialized RX2, Cond.code yX2_requireReplica cX2_requireReplica 2 none, Cond.fieldLink RX2 23 "DotGossip" "replicaCount" "I", Cond.methodLink RX2 56 yX2_requireIndex, Cond.static yX2_requireIndex, Cond.code yX2_requireIndex cX2_requireIndex 2 none, Cond.methodLink RX2 27 yX2_require, Cond.static yX2_require, Cond.code yX2_require cX2_require 1 none, Cond.classLink RX2 131 "java/lang/IllegalArgumentException", Cond.initialized "java/lang/IllegalArgumentException", Cond.methodLink RX2 45 yX0_forget, Cond.instanceMethod yX0_forget, Cond.selects RX0 yX0_forget yX0_forget, Cond.initialized RX0, Cond.code yX0_forget cX0_forget 4 (some .int), Cond.fieldLink RX0 15 "DotGossip$Holding" "numbers" "[I", Cond.methodLink RX0 44 yX0_dotsAt, Cond.instanceMethod yX0_dotsAt]
def wsX2_write_r2 : List Cond := [Cond.selects RX0 yX0_dotsAt yX0_dotsAt, Cond.code yX0_dotsAt cX0_dotsAt 4 (some .int), Cond.methodLink RX2 49 yX0_makeDot, Cond.instanceMethod yX0_makeDot, Cond.selects RX0 yX0_makeDot yX0_makeDot, Cond.code yX0_makeDot cX0_makeDot 3 (some .int), Cond.fieldLink RX0 9 "DotGossip$Holding" "seen" "[I"]
def wsX2_write : List Cond := .code yX2_write cX2_write 7 (some .int) :: ((wsX2_write_r1 ++ wsX2_write_r2) ++ wsX20 ++ wsX00 ++ (vx_at0 RX2 133 "java/lang/IllegalArgumentException" ["java/lang/RuntimeException", "java/lang/Exception"]).filter goodWord)
def wsX2_count : List Cond := .code yX2_count cX2_count 6 (some .int) :: ([.fieldLink RX2 11 "DotGossip" "holdings" "[LDotGossip$Holding;", .fieldLink RX2 64 "DotGossip$Holding" "added" "[J", .fieldLink RX2 68 "DotGossip$Holding" "taken" "[J", .methodLink RX2 52 yX2_requireReplica, .instanceMethod yX2_requireReplica, .selects RX2 yX2_requireReplica yX2_requireReplica, .initialized RX2, .code yX2_requireReplica cX2_requireReplica 2 none, .fieldLink RX2 23 "DotGossip" "replicaCount" "I", .methodLink RX2 56 yX2_requireIndex, .static yX2_requireIndex, .code yX2_requireIndex cX2_requireIndex 2 none, .methodLink RX2 27 yX2_require, .static yX2_require, .code yX2_require cX2_require 1 none, .classLink RX2 131 "java/lang/IllegalArgumentException", .initialized "java/lang/IllegalArgumentException", .methodLink RX2 71 yX0_worth, .instanceMethod yX0_worth, .selects RX0 yX0_worth yX0_worth, .initialized RX0, .code yX0_worth cX0_worth 6 (some .int), .fieldLink RX0 21 "DotGossip$Holding" "added" "[J", .fieldLink RX0 25 "DotGossip$Holding" "taken" "[J"] ++ wsX20 ++ wsX00 ++ (vx_at0 RX2 133 "java/lang/IllegalArgumentException" ["java/lang/RuntimeException", "java/lang/Exception"]).filter goodWord)
def wsJx4a65c_size_8abf5 : List Cond := .code yJx4a65c_size_8abf5 cJx4a65c_size_8abf5 1 (some .int) :: ([.fieldLink RJx4a65c 48 "java/util/ArrayList" "size" "I"] ++ wsJx4a65c0)
def wsJ8_hugeLength_7cf53 : List Cond := .code yJ8_hugeLength_7cf53 cJ8_hugeLength_7cf53 3 (some .int) :: ([.constant RJ8 200 (2147483639)])
def wsJ8_newLength_cabcc : List Cond := .code yJ8_newLength_cabcc cJ8_newLength_cabcc 4 (some .int) :: ([.methodLink RJ8 194 Lib.Math.max.name, .static Lib.Math.max.name, .initialized "java/lang/Math", .code Lib.Math.max.name Lib.Math.max.code 2 (some .int), .constant RJ8 200 (2147483639), .methodLink RJ8 201 yJ8_hugeLength_7cf53, .static yJ8_hugeLength_7cf53, .initialized RJ8, .code yJ8_hugeLength_7cf53 cJ8_hugeLength_7cf53 3 (some .int)])
def wsJ7_copyOf_6403c : List Cond := .code yJ7_copyOf_6403c cJ7_copyOf_6403c 4 (some (.array (.object "java/lang/Object"))) :: ([.classLink RJ7 110 "[Ljava/lang/Object;", .classLink RJ7 2 "java/lang/Object", .methodLink RJ7 304 Lib.Math.min.name, .static Lib.Math.min.name, .initialized "java/lang/Math", .code Lib.Math.min.name Lib.Math.min.code 2 (some .int), .methodLink RJ7 150 arraycopyName, .native arraycopyName, .static arraycopyName, .initialized "java/lang/System"])
def wsJ7_copyOf_1904c : List Cond := .code yJ7_copyOf_1904c cJ7_copyOf_1904c 2 (some (.array (.object "java/lang/Object"))) :: ([.methodLink RJ7 86 ⟨"java/lang/Object", "getClass", "()Ljava/lang/Class;"⟩, .selects "[Ljava/lang/Object;" ⟨"java/lang/Object", "getClass", "()Ljava/lang/Class;"⟩ ⟨"java/lang/Object", "getClass", "()Ljava/lang/Class;"⟩, .instanceMethod ⟨"java/lang/Object", "getClass", "()Ljava/lang/Class;"⟩, .native ⟨"java/lang/Object", "getClass", "()Ljava/lang/Class;"⟩, .methodLink RJ7 300 yJ7_copyOf_6403c, .static yJ7_copyOf_6403c, .initialized RJ7, .code yJ7_copyOf_6403c cJ7_copyOf_6403c 4 (some (.array (.object "java/lang/Object"))), .classLink RJ7 110 "[Ljava/lang/Object;", .classLink RJ7 2 "java/lang/Object", .methodLink RJ7 304 Lib.Math.min.name, .static Lib.Math.min.name, .initialized "java/lang/Math", .code Lib.Math.min.name Lib.Math.min.code 2 (some .int), .methodLink RJ7 150 arraycopyName, .native arraycopyName, .static arraycopyName, .initialized "java/lang/System"])
def wsJx4a65c_grow_92f84_r1 : List Cond := [Cond.fieldLink RJx4a65c 9 "java/util/ArrayList" "elementData" "[Ljava/lang/Object;", Cond.fieldLink RJx4a65c 39 "java/util/ArrayList" "DEFAULTCAPACITY_EMPTY_ELEMENTDATA" "[Ljava/lang/Object;", Cond.methodLink RJx4a65c 79 Lib.Math.max.name, Cond.static Lib.Math.max.name, Cond.initialized "java/lang/Math", Cond.code Lib.Math.max.name Lib.Math.max.code 2 (some .int), Cond.classLink RJx4a65c 7 "java/lang/Object", Cond.methodLink RJx4a65c 73 yJ8_newLength_cabcc, Cond.static yJ8_newLength_cabcc, Cond.initialized RJ8, Cond.code yJ8_newLength_cabcc cJ8_newLength_cabcc 4 (some .int), Cond.methodLink RJ8 194 Lib.Math.max.name, Cond.constant RJ8 200 (2147483639), Cond.methodLink RJ8 201 yJ8_hugeLength_7cf53, Cond.static yJ8_hugeLength_7cf53, Cond.code yJ8_hugeLength_7cf53 cJ8_hugeLength_7cf53 3 (some .int), Cond.methodLink RJx4a65c 66 yJ7_copyOf_1904c, Cond.static yJ7_copyOf_1904c, Cond.initialized RJ7, Cond.code yJ7_copyOf_1904c cJ7_copyOf_1904c 2 (some (.array (.object "java/lang/Object"))), Cond.methodLink RJ7 86 ⟨"java/lang/Object", "getClass", "()Ljava/lang/Class;"⟩, Cond.selects "[Ljava/lang/Object;" ⟨"java/lang/Object", "getClass", "()Ljava/lang/Class;"⟩ ⟨"java/lang/Object", "getClass", "()Ljava/lang/Class;"⟩, Cond.instanceMethod ⟨"java/lang/Object", "getClass", "()Ljava/lang/Class;"⟩, Cond.native ⟨"java/lang/Object", "getClass", "()Ljava/lang/Class;"⟩]
def wsJx4a65c_grow_92f84_r2 : List Cond := [Cond.methodLink RJ7 300 yJ7_copyOf_6403c, Cond.static yJ7_copyOf_6403c, Cond.code yJ7_copyOf_6403c cJ7_copyOf_6403c 4 (some (.array (.object "java/lang/Object"))), Cond.classLink RJ7 110 "[Ljava/lang/Object;", Cond.classLink RJ7 2 "java/lang/Object", Cond.methodLink RJ7 304 Lib.Math.min.name, Cond.static Lib.Math.min.name, Cond.code Lib.Math.min.name Lib.Math.min.code 2 (some .int), Cond.methodLink RJ7 150 arraycopyName, Cond.native arraycopyName, Cond.static arraycopyName, Cond.initialized "java/lang/System"]
def wsJx4a65c_grow_92f84 : List Cond := .code yJx4a65c_grow_92f84 cJx4a65c_grow_92f84 4 (some (.array (.object "java/lang/Object"))) :: ((wsJx4a65c_grow_92f84_r1 ++ wsJx4a65c_grow_92f84_r2) ++ wsJx4a65c0)
def wsJx4a65c_grow_d5877_r1 : List Cond := [Cond.fieldLink RJx4a65c 48 "java/util/ArrayList" "size" "I", Cond.methodLink RJx4a65c 69 yJx4a65c_grow_92f84, Cond.instanceMethod yJx4a65c_grow_92f84, Cond.selects RJx4a65c yJx4a65c_grow_92f84 yJx4a65c_grow_92f84, Cond.initialized RJx4a65c, Cond.code yJx4a65c_grow_92f84 cJx4a65c_grow_92f84 4 (some (.array (.object "java/lang/Object"))), Cond.fieldLink RJx4a65c 9 "java/util/ArrayList" "elementData" "[Ljava/lang/Object;", Cond.fieldLink RJx4a65c 39 "java/util/ArrayList" "DEFAULTCAPACITY_EMPTY_ELEMENTDATA" "[Ljava/lang/Object;", Cond.methodLink RJx4a65c 79 Lib.Math.max.name, Cond.static Lib.Math.max.name, Cond.initialized "java/lang/Math", Cond.code Lib.Math.max.name Lib.Math.max.code 2 (some .int), Cond.classLink RJx4a65c 7 "java/lang/Object", Cond.methodLink RJx4a65c 73 yJ8_newLength_cabcc, Cond.static yJ8_newLength_cabcc, Cond.initialized RJ8, Cond.code yJ8_newLength_cabcc cJ8_newLength_cabcc 4 (some .int), Cond.methodLink RJ8 194 Lib.Math.max.name, Cond.constant RJ8 200 (2147483639), Cond.methodLink RJ8 201 yJ8_hugeLength_7cf53, Cond.static yJ8_hugeLength_7cf53, Cond.code yJ8_hugeLength_7cf53 cJ8_hugeLength_7cf53 3 (some .int), Cond.methodLink RJx4a65c 66 yJ7_copyOf_1904c, Cond.static yJ7_copyOf_1904c]
def wsJx4a65c_grow_d5877_r2 : List Cond := [Cond.initialized RJ7, Cond.code yJ7_copyOf_1904c cJ7_copyOf_1904c 2 (some (.array (.object "java/lang/Object"))), Cond.methodLink RJ7 86 ⟨"java/lang/Object", "getClass", "()Ljava/lang/Class;"⟩, Cond.selects "[Ljava/lang/Object;" ⟨"java/lang/Object", "getClass", "()Ljava/lang/Class;"⟩ ⟨"java/lang/Object", "getClass", "()Ljava/lang/Class;"⟩, Cond.instanceMethod ⟨"java/lang/Object", "getClass", "()Ljava/lang/Class;"⟩, Cond.native ⟨"java/lang/Object", "getClass", "()Ljava/lang/Class;"⟩, Cond.methodLink RJ7 300 yJ7_copyOf_6403c, Cond.static yJ7_copyOf_6403c, Cond.code yJ7_copyOf_6403c cJ7_copyOf_6403c 4 (some (.array (.object "java/lang/Object"))), Cond.classLink RJ7 110 "[Ljava/lang/Object;", Cond.classLink RJ7 2 "java/lang/Object", Cond.methodLink RJ7 304 Lib.Math.min.name, Cond.static Lib.Math.min.name, Cond.code Lib.Math.min.name Lib.Math.min.code 2 (some .int), Cond.methodLink RJ7 150 arraycopyName, Cond.native arraycopyName, Cond.static arraycopyName, Cond.initialized "java/lang/System"]
def wsJx4a65c_grow_d5877 : List Cond := .code yJx4a65c_grow_d5877 cJx4a65c_grow_d5877 1 (some (.array (.object "java/lang/Object"))) :: ((wsJx4a65c_grow_d5877_r1 ++ wsJx4a65c_grow_d5877_r2) ++ wsJx4a65c0)
def wsJx4a65c_add_72be8_r1 : List Cond := [Cond.fieldLink RJx4a65c 48 "java/util/ArrayList" "size" "I", Cond.methodLink RJx4a65c 129 yJx4a65c_grow_d5877, Cond.instanceMethod yJx4a65c_grow_d5877, Cond.selects RJx4a65c yJx4a65c_grow_d5877 yJx4a65c_grow_d5877, Cond.initialized RJx4a65c, Cond.code yJx4a65c_grow_d5877 cJx4a65c_grow_d5877 1 (some (.array (.object "java/lang/Object"))), Cond.methodLink RJx4a65c 69 yJx4a65c_grow_92f84, Cond.instanceMethod yJx4a65c_grow_92f84, Cond.selects RJx4a65c yJx4a65c_grow_92f84 yJx4a65c_grow_92f84, Cond.code yJx4a65c_grow_92f84 cJx4a65c_grow_92f84 4 (some (.array (.object "java/lang/Object"))), Cond.fieldLink RJx4a65c 9 "java/util/ArrayList" "elementData" "[Ljava/lang/Object;", Cond.fieldLink RJx4a65c 39 "java/util/ArrayList" "DEFAULTCAPACITY_EMPTY_ELEMENTDATA" "[Ljava/lang/Object;", Cond.methodLink RJx4a65c 79 Lib.Math.max.name, Cond.static Lib.Math.max.name, Cond.initialized "java/lang/Math", Cond.code Lib.Math.max.name Lib.Math.max.code 2 (some .int), Cond.classLink RJx4a65c 7 "java/lang/Object", Cond.methodLink RJx4a65c 73 yJ8_newLength_cabcc, Cond.static yJ8_newLength_cabcc, Cond.initialized RJ8, Cond.code yJ8_newLength_cabcc cJ8_newLength_cabcc 4 (some .int), Cond.methodLink RJ8 194 Lib.Math.max.name, Cond.constant RJ8 200 (2147483639), Cond.methodLink RJ8 201 yJ8_hugeLength_7cf53]
def wsJx4a65c_add_72be8_r2 : List Cond := [Cond.static yJ8_hugeLength_7cf53, Cond.code yJ8_hugeLength_7cf53 cJ8_hugeLength_7cf53 3 (some .int), Cond.methodLink RJx4a65c 66 yJ7_copyOf_1904c, Cond.static yJ7_copyOf_1904c, Cond.initialized RJ7, Cond.code yJ7_copyOf_1904c cJ7_copyOf_1904c 2 (some (.array (.object "java/lang/Object"))), Cond.methodLink RJ7 86 ⟨"java/lang/Object", "getClass", "()Ljava/lang/Class;"⟩, Cond.selects "[Ljava/lang/Object;" ⟨"java/lang/Object", "getClass", "()Ljava/lang/Class;"⟩ ⟨"java/lang/Object", "getClass", "()Ljava/lang/Class;"⟩, Cond.instanceMethod ⟨"java/lang/Object", "getClass", "()Ljava/lang/Class;"⟩, Cond.native ⟨"java/lang/Object", "getClass", "()Ljava/lang/Class;"⟩, Cond.methodLink RJ7 300 yJ7_copyOf_6403c, Cond.static yJ7_copyOf_6403c, Cond.code yJ7_copyOf_6403c cJ7_copyOf_6403c 4 (some (.array (.object "java/lang/Object"))), Cond.classLink RJ7 110 "[Ljava/lang/Object;", Cond.classLink RJ7 2 "java/lang/Object", Cond.methodLink RJ7 304 Lib.Math.min.name, Cond.static Lib.Math.min.name, Cond.code Lib.Math.min.name Lib.Math.min.code 2 (some .int), Cond.methodLink RJ7 150 arraycopyName, Cond.native arraycopyName, Cond.static arraycopyName, Cond.initialized "java/lang/System"]
def wsJx4a65c_add_72be8 : List Cond := .code yJx4a65c_add_72be8 cJx4a65c_add_72be8 4 none :: ((wsJx4a65c_add_72be8_r1 ++ wsJx4a65c_add_72be8_r2) ++ wsJx4a65c0)
def wsJx4a65c_add_9ea2d_r1 : List Cond := [Cond.fieldLink RJx4a65c 63 "java/util/ArrayList" "modCount" "I", Cond.sameField "java/util/ArrayList" "java/util/AbstractList" "modCount" "I", Cond.fieldLink RJx4a65c 9 "java/util/ArrayList" "elementData" "[Ljava/lang/Object;", Cond.fieldLink RJx4a65c 48 "java/util/ArrayList" "size" "I", Cond.methodLink RJx4a65c 131 yJx4a65c_add_72be8, Cond.instanceMethod yJx4a65c_add_72be8, Cond.selects RJx4a65c yJx4a65c_add_72be8 yJx4a65c_add_72be8, Cond.initialized RJx4a65c, Cond.code yJx4a65c_add_72be8 cJx4a65c_add_72be8 4 none, Cond.methodLink RJx4a65c 129 yJx4a65c_grow_d5877, Cond.instanceMethod yJx4a65c_grow_d5877, Cond.selects RJx4a65c yJx4a65c_grow_d5877 yJx4a65c_grow_d5877, Cond.code yJx4a65c_grow_d5877 cJx4a65c_grow_d5877 1 (some (.array (.object "java/lang/Object"))), Cond.methodLink RJx4a65c 69 yJx4a65c_grow_92f84, Cond.instanceMethod yJx4a65c_grow_92f84, Cond.selects RJx4a65c yJx4a65c_grow_92f84 yJx4a65c_grow_92f84, Cond.code yJx4a65c_grow_92f84 cJx4a65c_grow_92f84 4 (some (.array (.object "java/lang/Object"))), Cond.fieldLink RJx4a65c 39 "java/util/ArrayList" "DEFAULTCAPACITY_EMPTY_ELEMENTDATA" "[Ljava/lang/Object;", Cond.methodLink RJx4a65c 79 Lib.Math.max.name, Cond.static Lib.Math.max.name, Cond.initialized "java/lang/Math", Cond.code Lib.Math.max.name Lib.Math.max.code 2 (some .int), Cond.classLink RJx4a65c 7 "java/lang/Object", Cond.methodLink RJx4a65c 73 yJ8_newLength_cabcc]
def wsJx4a65c_add_9ea2d_r2 : List Cond := [Cond.static yJ8_newLength_cabcc, Cond.initialized RJ8, Cond.code yJ8_newLength_cabcc cJ8_newLength_cabcc 4 (some .int), Cond.methodLink RJ8 194 Lib.Math.max.name, Cond.constant RJ8 200 (2147483639), Cond.methodLink RJ8 201 yJ8_hugeLength_7cf53, Cond.static yJ8_hugeLength_7cf53, Cond.code yJ8_hugeLength_7cf53 cJ8_hugeLength_7cf53 3 (some .int), Cond.methodLink RJx4a65c 66 yJ7_copyOf_1904c, Cond.static yJ7_copyOf_1904c, Cond.initialized RJ7, Cond.code yJ7_copyOf_1904c cJ7_copyOf_1904c 2 (some (.array (.object "java/lang/Object"))), Cond.methodLink RJ7 86 ⟨"java/lang/Object", "getClass", "()Ljava/lang/Class;"⟩, Cond.selects "[Ljava/lang/Object;" ⟨"java/lang/Object", "getClass", "()Ljava/lang/Class;"⟩ ⟨"java/lang/Object", "getClass", "()Ljava/lang/Class;"⟩, Cond.instanceMethod ⟨"java/lang/Object", "getClass", "()Ljava/lang/Class;"⟩, Cond.native ⟨"java/lang/Object", "getClass", "()Ljava/lang/Class;"⟩, Cond.methodLink RJ7 300 yJ7_copyOf_6403c, Cond.static yJ7_copyOf_6403c, Cond.code yJ7_copyOf_6403c cJ7_copyOf_6403c 4 (some (.array (.object "java/lang/Object"))), Cond.classLink RJ7 110 "[Ljava/lang/Object;", Cond.classLink RJ7 2 "java/lang/Object", Cond.methodLink RJ7 304 Lib.Math.min.name, Cond.static Lib.Math.min.name, Cond.code Lib.Math.min.name Lib.Math.min.code 2 (some .int)]
def wsJx4a65c_add_9ea2d_r3 : List Cond := [Cond.methodLink RJ7 150 arraycopyName, Cond.native arraycopyName, Cond.static arraycopyName, Cond.initialized "java/lang/System"]
def wsJx4a65c_add_9ea2d : List Cond := .code yJx4a65c_add_9ea2d cJx4a65c_add_9ea2d 2 (some .boolean) :: ((wsJx4a65c_add_9ea2d_r1 ++ (wsJx4a65c_add_9ea2d_r2 ++ wsJx4a65c_add_9ea2d_r3)) ++ wsJx4a65c0)
def wsX2_gossip_r1 : List Cond := [Cond.classLink RX2 78 "java/lang/IllegalStateException", Cond.initialized "java/lang/IllegalStateException", Cond.fieldLink RX2 19 "DotGossip" "wire" "Ljava/util/ArrayList;", Cond.classLink RX2 81 RX1, Cond.instantiable RX1 3, Cond.initialized RX1, Cond.fieldLink RX2 11 "DotGossip" "holdings" "[LDotGossip$Holding;", Cond.methodLink RX2 52 yX2_requireReplica, Cond.instanceMethod yX2_requireReplica, Cond.selects RX2 yX2_requireReplica yX2_requireReplica, Cond.initialized RX2, Cond.code yX2_requireReplica cX2_requireReplica 2 none, Cond.fieldLink RX2 23 "DotGossip" "replicaCount" "I", Cond.methodLink RX2 56 yX2_requireIndex, Cond.static yX2_requireIndex, Cond.code yX2_requireIndex cX2_requireIndex 2 none, Cond.methodLink RX2 27 yX2_require, Cond.static yX2_require, Cond.code yX2_require cX2_require 1 none, Cond.classLink RX2 131 "java/lang/IllegalArgumentException", Cond.initialized "java/lang/IllegalArgumentException", Cond.methodLink RX2 74 yJx4a65c_size_8abf5, Cond.instanceMethod yJx4a65c_size_8abf5, Cond.selects RJx4a65c yJx4a65c_size_8abf5 yJx4a65c_size_8abf5]
def wsX2_gossip_r2 : List Cond := [Cond.initialized RJx4a65c, Cond.code yJx4a65c_size_8abf5 cJx4a65c_size_8abf5 1 (some .int), Cond.fieldLink RJx4a65c 48 "java/util/ArrayList" "size" "I", Cond.methodLink RX2 83 yX0_snapshot, Cond.instanceMethod yX0_snapshot, Cond.selects RX0 yX0_snapshot yX0_snapshot, Cond.initialized RX0, Cond.code yX0_snapshot cX0_snapshot 2 (some (.object "DotGossip$Holding")), Cond.classLink RX0 10 RX0, Cond.instantiable RX0 5, Cond.fieldLink RX0 9 "DotGossip$Holding" "seen" "[I", Cond.methodLink RX0 38 arraycopyName, Cond.native arraycopyName, Cond.static arraycopyName, Cond.initialized "java/lang/System", Cond.fieldLink RX0 15 "DotGossip$Holding" "numbers" "[I", Cond.fieldLink RX0 18 "DotGossip$Holding" "written" "[I", Cond.fieldLink RX0 21 "DotGossip$Holding" "added" "[J", Cond.fieldLink RX0 25 "DotGossip$Holding" "taken" "[J", Cond.methodLink RX0 37 yX0_init, Cond.instanceMethod yX0_init, Cond.code yX0_init cX0_init 1 none, Cond.methodLink RX0 3 objectInit, Cond.instanceMethod objectInit]
def wsX2_gossip_r3 : List Cond := [Cond.code objectInit ⟨#[0xb1]⟩ 1 none, Cond.arrayClass .int, Cond.arrayClass .long, Cond.methodLink RX2 87 yX1_init, Cond.instanceMethod yX1_init, Cond.code yX1_init cX1_init 4 none, Cond.methodLink RX1 1 objectInit, Cond.fieldLink RX1 7 "DotGossip$Message" "from" "I", Cond.fieldLink RX1 13 "DotGossip$Message" "to" "I", Cond.fieldLink RX1 16 "DotGossip$Message" "sent" "LDotGossip$Holding;", Cond.methodLink RX2 90 yJx4a65c_add_9ea2d, Cond.instanceMethod yJx4a65c_add_9ea2d, Cond.selects RJx4a65c yJx4a65c_add_9ea2d yJx4a65c_add_9ea2d, Cond.code yJx4a65c_add_9ea2d cJx4a65c_add_9ea2d 2 (some .boolean), Cond.fieldLink RJx4a65c 63 "java/util/ArrayList" "modCount" "I", Cond.sameField "java/util/ArrayList" "java/util/AbstractList" "modCount" "I", Cond.fieldLink RJx4a65c 9 "java/util/ArrayList" "elementData" "[Ljava/lang/Object;", Cond.methodLink RJx4a65c 131 yJx4a65c_add_72be8, Cond.instanceMethod yJx4a65c_add_72be8, Cond.selects RJx4a65c yJx4a65c_add_72be8 yJx4a65c_add_72be8, Cond.code yJx4a65c_add_72be8 cJx4a65c_add_72be8 4 none, Cond.methodLink RJx4a65c 129 yJx4a65c_grow_d5877, Cond.instanceMethod yJx4a65c_grow_d5877, Cond.selects RJx4a65c yJx4a65c_grow_d5877 yJx4a65c_grow_d5877]
def wsX2_gossip_r4 : List Cond := [Cond.code yJx4a65c_grow_d5877 cJx4a65c_grow_d5877 1 (some (.array (.object "java/lang/Object"))), Cond.methodLink RJx4a65c 69 yJx4a65c_grow_92f84, Cond.instanceMethod yJx4a65c_grow_92f84, Cond.selects RJx4a65c yJx4a65c_grow_92f84 yJx4a65c_grow_92f84, Cond.code yJx4a65c_grow_92f84 cJx4a65c_grow_92f84 4 (some (.array (.object "java/lang/Object"))), Cond.fieldLink RJx4a65c 39 "java/util/ArrayList" "DEFAULTCAPACITY_EMPTY_ELEMENTDATA" "[Ljava/lang/Object;", Cond.methodLink RJx4a65c 79 Lib.Math.max.name, Cond.static Lib.Math.max.name, Cond.initialized "java/lang/Math", Cond.code Lib.Math.max.name Lib.Math.max.code 2 (some .int), Cond.classLink RJx4a65c 7 "java/lang/Object", Cond.methodLink RJx4a65c 73 yJ8_newLength_cabcc, Cond.static yJ8_newLength_cabcc, Cond.initialized RJ8, Cond.code yJ8_newLength_cabcc cJ8_newLength_cabcc 4 (some .int), Cond.methodLink RJ8 194 Lib.Math.max.name, Cond.constant RJ8 200 (2147483639), Cond.methodLink RJ8 201 yJ8_hugeLength_7cf53, Cond.static yJ8_hugeLength_7cf53, Cond.code yJ8_hugeLength_7cf53 cJ8_hugeLength_7cf53 3 (some .int), Cond.methodLink RJx4a65c 66 yJ7_copyOf_1904c, Cond.static yJ7_copyOf_1904c, Cond.initialized RJ7, Cond.code yJ7_copyOf_1904c cJ7_copyOf_1904c 2 (some (.array (.object "java/lang/Object")))]
def wsX2_gossip_r5 : List Cond := [Cond.methodLink RJ7 86 ⟨"java/lang/Object", "getClass", "()Ljava/lang/Class;"⟩, Cond.selects "[Ljava/lang/Object;" ⟨"java/lang/Object", "getClass", "()Ljava/lang/Class;"⟩ ⟨"java/lang/Object", "getClass", "()Ljava/lang/Class;"⟩, Cond.instanceMethod ⟨"java/lang/Object", "getClass", "()Ljava/lang/Class;"⟩, Cond.native ⟨"java/lang/Object", "getClass", "()Ljava/lang/Class;"⟩, Cond.methodLink RJ7 300 yJ7_copyOf_6403c, Cond.static yJ7_copyOf_6403c, Cond.code yJ7_copyOf_6403c cJ7_copyOf_6403c 4 (some (.array (.object "java/lang/Object"))), Cond.classLink RJ7 110 "[Ljava/lang/Object;", Cond.classLink RJ7 2 "java/lang/Object", Cond.methodLink RJ7 304 Lib.Math.min.name, Cond.static Lib.Math.min.name, Cond.code Lib.Math.min.name Lib.Math.min.code 2 (some .int), Cond.methodLink RJ7 150 arraycopyName]
def wsX2_gossip : List Cond := .code yX2_gossip cX2_gossip 3 (some .int) :: ((wsX2_gossip_r1 ++ (wsX2_gossip_r2 ++ (wsX2_gossip_r3 ++ (wsX2_gossip_r4 ++ wsX2_gossip_r5)))) ++ wsX20 ++ wsX10 ++ wsJx4a65c0 ++ wsX00 ++ (vx_at0 RX2 80 "java/lang/IllegalStateException" ["java/lang/RuntimeException", "java/lang/Exception"]).filter goodWord ++ (vx_at0 RX2 133 "java/lang/IllegalArgumentException" ["java/lang/RuntimeException", "java/lang/Exception"]).filter goodWord)
def wsJ3_checkIndex_8e157 : List Cond := .code yJ3_checkIndex_8e157 cJ3_checkIndex_8e157 3 (some .int) :: ([])
def wsJ15_checkIndex_7cf53 : List Cond := .code yJ15_checkIndex_7cf53 cJ15_checkIndex_7cf53 2 (some .int) :: ([.methodLink RJ15 105 yJ3_checkIndex_8e157, .static yJ3_checkIndex_8e157, .initialized RJ3, .code yJ3_checkIndex_8e157 cJ3_checkIndex_8e157 3 (some .int)])
def wsJx4a65c_fastRemove_b59b0 : List Cond := .code yJx4a65c_fastRemove_b59b0 cJx4a65c_fastRemove_b59b0 4 none :: ([.fieldLink RJx4a65c 63 "java/util/ArrayList" "modCount" "I", .sameField "java/util/ArrayList" "java/util/AbstractList" "modCount" "I", .fieldLink RJx4a65c 48 "java/util/ArrayList" "size" "I", .methodLink RJx4a65c 112 arraycopyName, .native arraycopyName, .static arraycopyName, .initialized "java/lang/System"] ++ wsJx4a65c0)
def wsJx4a65c_remove_915e3 : List Cond := .code yJx4a65c_remove_915e3 cJx4a65c_remove_915e3 4 (some (.object "java/lang/Object")) :: ([.fieldLink RJx4a65c 48 "java/util/ArrayList" "size" "I", .fieldLink RJx4a65c 9 "java/util/ArrayList" "elementData" "[Ljava/lang/Object;", .methodLink RJx4a65c 118 yJ15_checkIndex_7cf53, .static yJ15_checkIndex_7cf53, .initialized RJ15, .code yJ15_checkIndex_7cf53 cJ15_checkIndex_7cf53 2 (some .int), .methodLink RJ15 105 yJ3_checkIndex_8e157, .static yJ3_checkIndex_8e157, .initialized RJ3, .code yJ3_checkIndex_8e157 cJ3_checkIndex_8e157 3 (some .int), .methodLink RJx4a65c 144 yJx4a65c_fastRemove_b59b0, .instanceMethod yJx4a65c_fastRemove_b59b0, .selects RJx4a65c yJx4a65c_fastRemove_b59b0 yJx4a65c_fastRemove_b59b0, .initialized RJx4a65c, .code yJx4a65c_fastRemove_b59b0 cJx4a65c_fastRemove_b59b0 4 none, .fieldLink RJx4a65c 63 "java/util/ArrayList" "modCount" "I", .sameField "java/util/ArrayList" "java/util/AbstractList" "modCount" "I", .methodLink RJx4a65c 112 arraycopyName, .native arraycopyName, .static arraycopyName, .initialized "java/lang/System"] ++ wsJx4a65c0)
def wsX2_deliver_r1 : List Cond := [Cond.fieldLink RX2 19 "DotGossip" "wire" "Ljava/util/ArrayList;", Cond.classLink RX2 81 "DotGossip$Message", Cond.fieldLink RX2 11 "DotGossip" "holdings" "[LDotGossip$Holding;", Cond.fieldLink RX2 98 "DotGossip$Message" "to" "I", Cond.fieldLink RX2 101 "DotGossip$Message" "sent" "LDotGossip$Holding;", Cond.methodLink RX2 74 yJx4a65c_size_8abf5, Cond.instanceMethod yJx4a65c_size_8abf5, Cond.selects RJx4a65c yJx4a65c_size_8abf5 yJx4a65c_size_8abf5, Cond.initialized RJx4a65c, Cond.code yJx4a65c_size_8abf5 cJx4a65c_size_8abf5 1 (some .int), Cond.fieldLink RJx4a65c 48 "java/util/ArrayList" "size" "I", Cond.methodLink RX2 56 yX2_requireIndex, Cond.static yX2_requireIndex, Cond.initialized RX2, Cond.code yX2_requireIndex cX2_requireIndex 2 none, Cond.methodLink RX2 27 yX2_require, Cond.static yX2_require, Cond.code yX2_require cX2_require 1 none, Cond.classLink RX2 131 "java/lang/IllegalArgumentException", Cond.initialized "java/lang/IllegalArgumentException", Cond.methodLink RX2 94 yJx4a65c_remove_915e3, Cond.instanceMethod yJx4a65c_remove_915e3, Cond.selects RJx4a65c yJx4a65c_remove_915e3 yJx4a65c_remove_915e3, Cond.code yJx4a65c_remove_915e3 cJx4a65c_remove_915e3 4 (some (.object "java/lang/Object"))]
def wsX2_deliver_r2 : List Cond := [Cond.fieldLink RJx4a65c 9 "java/util/ArrayList" "elementData" "[Ljava/lang/Object;", Cond.methodLink RJx4a65c 118 yJ15_checkIndex_7cf53, Cond.static yJ15_checkIndex_7cf53, Cond.initialized RJ15, Cond.code yJ15_checkIndex_7cf53 cJ15_checkIndex_7cf53 2 (some .int), Cond.methodLink RJ15 105 yJ3_checkIndex_8e157, Cond.static yJ3_checkIndex_8e157, Cond.initialized RJ3, Cond.code yJ3_checkIndex_8e157 cJ3_checkIndex_8e157 3 (some .int), Cond.methodLink RJx4a65c 144 yJx4a65c_fastRemove_b59b0, Cond.instanceMethod yJx4a65c_fastRemove_b59b0, Cond.selects RJx4a65c yJx4a65c_fastRemove_b59b0 yJx4a65c_fastRemove_b59b0, Cond.code yJx4a65c_fastRemove_b59b0 cJx4a65c_fastRemove_b59b0 4 none, Cond.fieldLink RJx4a65c 63 "java/util/ArrayList" "modCount" "I", Cond.sameField "java/util/ArrayList" "java/util/AbstractList" "modCount" "I", Cond.methodLink RJx4a65c 112 arraycopyName, Cond.native arraycopyName, Cond.static arraycopyName, Cond.initialized "java/lang/System", Cond.methodLink RX2 105 yX0_merge, Cond.instanceMethod yX0_merge, Cond.selects RX0 yX0_merge yX0_merge, Cond.initialized RX0, Cond.code yX0_merge cX0_merge 5 (some .int)]
def wsX2_deliver_r3 : List Cond := [Cond.fieldLink RX0 9 "DotGossip$Holding" "seen" "[I", Cond.methodLink RX0 52 Lib.Math.max.name, Cond.static Lib.Math.max.name, Cond.initialized "java/lang/Math", Cond.code Lib.Math.max.name Lib.Math.max.code 2 (some .int), Cond.fieldLink RX0 21 "DotGossip$Holding" "added" "[J", Cond.methodLink RX0 58 Lib.MathLoose.max_long.x, Cond.static Lib.MathLoose.max_long.x, Cond.code Lib.MathLoose.max_long.x Lib.MathLoose.max_long.code 4 (some .long), Cond.fieldLink RX0 25 "DotGossip$Holding" "taken" "[J", Cond.methodLink RX0 48 yX0_mergeDot, Cond.instanceMethod yX0_mergeDot, Cond.selects RX0 yX0_mergeDot yX0_mergeDot, Cond.code yX0_mergeDot cX0_mergeDot 7 (some .boolean), Cond.fieldLink RX0 15 "DotGossip$Holding" "numbers" "[I", Cond.fieldLink RX0 18 "DotGossip$Holding" "written" "[I"]
def wsX2_deliver : List Cond := .code yX2_deliver cX2_deliver 3 (some .int) :: ((wsX2_deliver_r1 ++ (wsX2_deliver_r2 ++ wsX2_deliver_r3)) ++ wsX20 ++ wsX10 ++ wsJx4a65c0 ++ wsX00 ++ (vx_at0 RX2 133 "java/lang/IllegalArgumentException" ["java/lang/RuntimeException", "java/lang/Exception"]).filter goodWord)
def wsX2_drop_r1 : List Cond := [Cond.fieldLink RX2 19 "DotGossip" "wire" "Ljava/util/ArrayList;", Cond.classLink RX2 81 "DotGossip$Message", Cond.fieldLink RX2 98 "DotGossip$Message" "to" "I", Cond.methodLink RX2 74 yJx4a65c_size_8abf5, Cond.instanceMethod yJx4a65c_size_8abf5, Cond.selects RJx4a65c yJx4a65c_size_8abf5 yJx4a65c_size_8abf5, Cond.initialized RJx4a65c, Cond.code yJx4a65c_size_8abf5 cJx4a65c_size_8abf5 1 (some .int), Cond.fieldLink RJx4a65c 48 "java/util/ArrayList" "size" "I", Cond.methodLink RX2 56 yX2_requireIndex, Cond.static yX2_requireIndex, Cond.initialized RX2, Cond.code yX2_requireIndex cX2_requireIndex 2 none, Cond.methodLink RX2 27 yX2_require, Cond.static yX2_require, Cond.code yX2_require cX2_require 1 none, Cond.classLink RX2 131 "java/lang/IllegalArgumentException", Cond.initialized "java/lang/IllegalArgumentException", Cond.methodLink RX2 94 yJx4a65c_remove_915e3, Cond.instanceMethod yJx4a65c_remove_915e3, Cond.selects RJx4a65c yJx4a65c_remove_915e3 yJx4a65c_remove_915e3, Cond.code yJx4a65c_remove_915e3 cJx4a65c_remove_915e3 4 (some (.object "java/lang/Object")), Cond.fieldLink RJx4a65c 9 "java/util/ArrayList" "elementData" "[Ljava/lang/Object;", Cond.methodLink RJx4a65c 118 yJ15_checkIndex_7cf53]
def wsX2_drop_r2 : List Cond := [Cond.static yJ15_checkIndex_7cf53, Cond.initialized RJ15, Cond.code yJ15_checkIndex_7cf53 cJ15_checkIndex_7cf53 2 (some .int), Cond.methodLink RJ15 105 yJ3_checkIndex_8e157, Cond.static yJ3_checkIndex_8e157, Cond.initialized RJ3, Cond.code yJ3_checkIndex_8e157 cJ3_checkIndex_8e157 3 (some .int), Cond.methodLink RJx4a65c 144 yJx4a65c_fastRemove_b59b0, Cond.instanceMethod yJx4a65c_fastRemove_b59b0, Cond.selects RJx4a65c yJx4a65c_fastRemove_b59b0 yJx4a65c_fastRemove_b59b0, Cond.code yJx4a65c_fastRemove_b59b0 cJx4a65c_fastRemove_b59b0 4 none, Cond.fieldLink RJx4a65c 63 "java/util/ArrayList" "modCount" "I", Cond.sameField "java/util/ArrayList" "java/util/AbstractList" "modCount" "I", Cond.methodLink RJx4a65c 112 arraycopyName, Cond.native arraycopyName, Cond.static arraycopyName, Cond.initialized "java/lang/System"]
def wsX2_drop : List Cond := .code yX2_drop cX2_drop 2 (some .int) :: ((wsX2_drop_r1 ++ wsX2_drop_r2) ++ wsX20 ++ wsX10 ++ wsJx4a65c0 ++ (vx_at0 RX2 133 "java/lang/IllegalArgumentException" ["java/lang/RuntimeException", "java/lang/Exception"]).filter goodWord)
def wsJx4a65c_elementData_915e3 : List Cond := .code yJx4a65c_elementData_915e3 cJx4a65c_elementData_915e3 2 (some (.object "java/lang/Object")) :: ([.fieldLink RJx4a65c 9 "java/util/ArrayList" "elementData" "[Ljava/lang/Object;"] ++ wsJx4a65c0)
def wsJx4a65c_get_915e3 : List Cond := .code yJx4a65c_get_915e3 cJx4a65c_get_915e3 2 (some (.object "java/lang/Object")) :: ([.fieldLink RJx4a65c 48 "java/util/ArrayList" "size" "I", .methodLink RJx4a65c 118 yJ15_checkIndex_7cf53, .static yJ15_checkIndex_7cf53, .initialized RJ15, .code yJ15_checkIndex_7cf53 cJ15_checkIndex_7cf53 2 (some .int), .methodLink RJ15 105 yJ3_checkIndex_8e157, .static yJ3_checkIndex_8e157, .initialized RJ3, .code yJ3_checkIndex_8e157 cJ3_checkIndex_8e157 3 (some .int), .methodLink RJx4a65c 123 yJx4a65c_elementData_915e3, .instanceMethod yJx4a65c_elementData_915e3, .selects RJx4a65c yJx4a65c_elementData_915e3 yJx4a65c_elementData_915e3, .initialized RJx4a65c, .code yJx4a65c_elementData_915e3 cJx4a65c_elementData_915e3 2 (some (.object "java/lang/Object")), .fieldLink RJx4a65c 9 "java/util/ArrayList" "elementData" "[Ljava/lang/Object;"] ++ wsJx4a65c0)
def wsX2_copy_r1 : List Cond := [Cond.fieldLink RX2 19 "DotGossip" "wire" "Ljava/util/ArrayList;", Cond.classLink RX2 81 "DotGossip$Message", Cond.classLink RX2 81 RX1, Cond.instantiable RX1 3, Cond.initialized RX1, Cond.fieldLink RX2 112 "DotGossip$Message" "from" "I", Cond.fieldLink RX2 98 "DotGossip$Message" "to" "I", Cond.fieldLink RX2 101 "DotGossip$Message" "sent" "LDotGossip$Holding;", Cond.methodLink RX2 74 yJx4a65c_size_8abf5, Cond.instanceMethod yJx4a65c_size_8abf5, Cond.selects RJx4a65c yJx4a65c_size_8abf5 yJx4a65c_size_8abf5, Cond.initialized RJx4a65c, Cond.code yJx4a65c_size_8abf5 cJx4a65c_size_8abf5 1 (some .int), Cond.fieldLink RJx4a65c 48 "java/util/ArrayList" "size" "I", Cond.methodLink RX2 56 yX2_requireIndex, Cond.static yX2_requireIndex, Cond.initialized RX2, Cond.code yX2_requireIndex cX2_requireIndex 2 none, Cond.methodLink RX2 27 yX2_require, Cond.static yX2_require, Cond.code yX2_require cX2_require 1 none, Cond.classLink RX2 131 "java/lang/IllegalArgumentException", Cond.initialized "java/lang/IllegalArgumentException", Cond.methodLink RX2 109 yJx4a65c_get_915e3]
def wsX2_copy_r2 : List Cond := [Cond.instanceMethod yJx4a65c_get_915e3, Cond.selects RJx4a65c yJx4a65c_get_915e3 yJx4a65c_get_915e3, Cond.code yJx4a65c_get_915e3 cJx4a65c_get_915e3 2 (some (.object "java/lang/Object")), Cond.methodLink RJx4a65c 118 yJ15_checkIndex_7cf53, Cond.static yJ15_checkIndex_7cf53, Cond.initialized RJ15, Cond.code yJ15_checkIndex_7cf53 cJ15_checkIndex_7cf53 2 (some .int), Cond.methodLink RJ15 105 yJ3_checkIndex_8e157, Cond.static yJ3_checkIndex_8e157, Cond.initialized RJ3, Cond.code yJ3_checkIndex_8e157 cJ3_checkIndex_8e157 3 (some .int), Cond.methodLink RJx4a65c 123 yJx4a65c_elementData_915e3, Cond.instanceMethod yJx4a65c_elementData_915e3, Cond.selects RJx4a65c yJx4a65c_elementData_915e3 yJx4a65c_elementData_915e3, Cond.code yJx4a65c_elementData_915e3 cJx4a65c_elementData_915e3 2 (some (.object "java/lang/Object")), Cond.fieldLink RJx4a65c 9 "java/util/ArrayList" "elementData" "[Ljava/lang/Object;", Cond.methodLink RX2 87 yX1_init, Cond.instanceMethod yX1_init, Cond.code yX1_init cX1_init 4 none, Cond.methodLink RX1 1 objectInit, Cond.instanceMethod objectInit, Cond.code objectInit ⟨#[0xb1]⟩ 1 none, Cond.fieldLink RX1 7 "DotGossip$Message" "from" "I", Cond.fieldLink RX1 13 "DotGossip$Message" "to" "I"]
def wsX2_copy_r3 : List Cond := [Cond.fieldLink RX1 16 "DotGossip$Message" "sent" "LDotGossip$Holding;", Cond.methodLink RX2 90 yJx4a65c_add_9ea2d, Cond.instanceMethod yJx4a65c_add_9ea2d, Cond.selects RJx4a65c yJx4a65c_add_9ea2d yJx4a65c_add_9ea2d, Cond.code yJx4a65c_add_9ea2d cJx4a65c_add_9ea2d 2 (some .boolean), Cond.fieldLink RJx4a65c 63 "java/util/ArrayList" "modCount" "I", Cond.sameField "java/util/ArrayList" "java/util/AbstractList" "modCount" "I", Cond.methodLink RJx4a65c 131 yJx4a65c_add_72be8, Cond.instanceMethod yJx4a65c_add_72be8, Cond.selects RJx4a65c yJx4a65c_add_72be8 yJx4a65c_add_72be8, Cond.code yJx4a65c_add_72be8 cJx4a65c_add_72be8 4 none, Cond.methodLink RJx4a65c 129 yJx4a65c_grow_d5877, Cond.instanceMethod yJx4a65c_grow_d5877, Cond.selects RJx4a65c yJx4a65c_grow_d5877 yJx4a65c_grow_d5877, Cond.code yJx4a65c_grow_d5877 cJx4a65c_grow_d5877 1 (some (.array (.object "java/lang/Object"))), Cond.methodLink RJx4a65c 69 yJx4a65c_grow_92f84, Cond.instanceMethod yJx4a65c_grow_92f84, Cond.selects RJx4a65c yJx4a65c_grow_92f84 yJx4a65c_grow_92f84, Cond.code yJx4a65c_grow_92f84 cJx4a65c_grow_92f84 4 (some (.array (.object "java/lang/Object"))), Cond.fieldLink RJx4a65c 39 "java/util/ArrayList" "DEFAULTCAPACITY_EMPTY_ELEMENTDATA" "[Ljava/lang/Object;", Cond.methodLink RJx4a65c 79 Lib.Math.max.name, Cond.static Lib.Math.max.name, Cond.initialized "java/lang/Math", Cond.code Lib.Math.max.name Lib.Math.max.code 2 (some .int)]
def wsX2_copy_r4 : List Cond := [Cond.classLink RJx4a65c 7 "java/lang/Object", Cond.methodLink RJx4a65c 73 yJ8_newLength_cabcc, Cond.static yJ8_newLength_cabcc, Cond.initialized RJ8, Cond.code yJ8_newLength_cabcc cJ8_newLength_cabcc 4 (some .int), Cond.methodLink RJ8 194 Lib.Math.max.name, Cond.constant RJ8 200 (2147483639), Cond.methodLink RJ8 201 yJ8_hugeLength_7cf53, Cond.static yJ8_hugeLength_7cf53, Cond.code yJ8_hugeLength_7cf53 cJ8_hugeLength_7cf53 3 (some .int), Cond.methodLink RJx4a65c 66 yJ7_copyOf_1904c, Cond.static yJ7_copyOf_1904c, Cond.initialized RJ7, Cond.code yJ7_copyOf_1904c cJ7_copyOf_1904c 2 (some (.array (.object "java/lang/Object"))), Cond.methodLink RJ7 86 ⟨"java/lang/Object", "getClass", "()Ljava/lang/Class;"⟩, Cond.selects "[Ljava/lang/Object;" ⟨"java/lang/Object", "getClass", "()Ljava/lang/Class;"⟩ ⟨"java/lang/Object", "getClass", "()Ljava/lang/Class;"⟩, Cond.instanceMethod ⟨"java/lang/Object", "getClass", "()Ljava/lang/Class;"⟩, Cond.native ⟨"java/lang/Object", "getClass", "()Ljava/lang/Class;"⟩, Cond.methodLink RJ7 300 yJ7_copyOf_6403c, Cond.static yJ7_copyOf_6403c, Cond.code yJ7_copyOf_6403c cJ7_copyOf_6403c 4 (some (.array (.object "java/lang/Object"))), Cond.classLink RJ7 110 "[Ljava/lang/Object;", Cond.classLink RJ7 2 "java/lang/Object", Cond.methodLink RJ7 304 Lib.Math.min.name]
def wsX2_copy_r5 : List Cond := [Cond.static Lib.Math.min.name, Cond.code Lib.Math.min.name Lib.Math.min.code 2 (some .int), Cond.methodLink RJ7 150 arraycopyName, Cond.native arraycopyName, Cond.static arraycopyName, Cond.initialized "java/lang/System"]
def wsX2_copy : List Cond := .code yX2_copy cX2_copy 3 (some .boolean) :: ((wsX2_copy_r1 ++ (wsX2_copy_r2 ++ (wsX2_copy_r3 ++ (wsX2_copy_r4 ++ wsX2_copy_r5)))) ++ wsX20 ++ wsX10 ++ wsJx4a65c0 ++ (vx_at0 RX2 133 "java/lang/IllegalArgumentException" ["java/lang/RuntimeException", "java/lang/Exception"]).filter goodWord)
def wsX2_turn_r1 : List Cond := [Cond.fieldLink RX2 19 "DotGossip" "wire" "Ljava/util/ArrayList;", Cond.classLink RX2 81 "DotGossip$Message", Cond.fieldLink RX2 98 "DotGossip$Message" "to" "I", Cond.methodLink RX2 74 yJx4a65c_size_8abf5, Cond.instanceMethod yJx4a65c_size_8abf5, Cond.selects RJx4a65c yJx4a65c_size_8abf5 yJx4a65c_size_8abf5, Cond.initialized RJx4a65c, Cond.code yJx4a65c_size_8abf5 cJx4a65c_size_8abf5 1 (some .int), Cond.fieldLink RJx4a65c 48 "java/util/ArrayList" "size" "I", Cond.methodLink RX2 56 yX2_requireIndex, Cond.static yX2_requireIndex, Cond.initialized RX2, Cond.code yX2_requireIndex cX2_requireIndex 2 none, Cond.methodLink RX2 27 yX2_require, Cond.static yX2_require, Cond.code yX2_require cX2_require 1 none, Cond.classLink RX2 131 "java/lang/IllegalArgumentException", Cond.initialized "java/lang/IllegalArgumentException", Cond.methodLink RX2 52 yX2_requireReplica, Cond.instanceMethod yX2_requireReplica, Cond.selects RX2 yX2_requireReplica yX2_requireReplica, Cond.code yX2_requireReplica cX2_requireReplica 2 none, Cond.fieldLink RX2 23 "DotGossip" "replicaCount" "I", Cond.methodLink RX2 109 yJx4a65c_get_915e3]
def wsX2_turn_r2 : List Cond := [Cond.instanceMethod yJx4a65c_get_915e3, Cond.selects RJx4a65c yJx4a65c_get_915e3 yJx4a65c_get_915e3, Cond.code yJx4a65c_get_915e3 cJx4a65c_get_915e3 2 (some (.object "java/lang/Object")), Cond.methodLink RJx4a65c 118 yJ15_checkIndex_7cf53, Cond.static yJ15_checkIndex_7cf53, Cond.initialized RJ15, Cond.code yJ15_checkIndex_7cf53 cJ15_checkIndex_7cf53 2 (some .int), Cond.methodLink RJ15 105 yJ3_checkIndex_8e157, Cond.static yJ3_checkIndex_8e157, Cond.initialized RJ3, Cond.code yJ3_checkIndex_8e157 cJ3_checkIndex_8e157 3 (some .int), Cond.methodLink RJx4a65c 123 yJx4a65c_elementData_915e3, Cond.instanceMethod yJx4a65c_elementData_915e3, Cond.selects RJx4a65c yJx4a65c_elementData_915e3 yJx4a65c_elementData_915e3, Cond.code yJx4a65c_elementData_915e3 cJx4a65c_elementData_915e3 2 (some (.object "java/lang/Object")), Cond.fieldLink RJx4a65c 9 "java/util/ArrayList" "elementData" "[Ljava/lang/Object;"]
def wsX2_turn : List Cond := .code yX2_turn cX2_turn 3 none :: ((wsX2_turn_r1 ++ wsX2_turn_r2) ++ wsX20 ++ wsX10 ++ wsJx4a65c0 ++ (vx_at0 RX2 133 "java/lang/IllegalArgumentException" ["java/lang/RuntimeException", "java/lang/Exception"]).filter goodWord)
def wsX2_contains_r1 : List Cond := [Cond.fieldLink RX2 11 "DotGossip" "holdings" "[LDotGossip$Holding;", Cond.methodLink RX2 37 yX2_requireElement, Cond.instanceMethod yX2_requireElement, Cond.selects RX2 yX2_requireElement yX2_requireElement, Cond.initialized RX2, Cond.code yX2_requireElement cX2_requireElement 4 none, Cond.methodLink RX2 52 yX2_requireReplica, Cond.instanceMethod yX2_requireReplica, Cond.selects RX2 yX2_requireReplica yX2_requireReplica, Cond.code yX2_requireReplica cX2_requireReplica 2 none, Cond.fieldLink RX2 23 "DotGossip" "replicaCount" "I", Cond.methodLink RX2 56 yX2_requireIndex, Cond.static yX2_requireIndex, Cond.code yX2_requireIndex cX2_requireIndex 2 none, Cond.methodLink RX2 27 yX2_require, Cond.static yX2_require, Cond.code yX2_require cX2_require 1 none, Cond.classLink RX2 131 "java/lang/IllegalArgumentException", Cond.initialized "java/lang/IllegalArgumentException", Cond.methodLink RX2 41 yX2_placeOfElement, Cond.static yX2_placeOfElement, Cond.code yX2_placeOfElement cX2_placeOfElement 2 (some .int), Cond.methodLink RX2 115 yX0_dotsAt, Cond.instanceMethod yX0_dotsAt]
def wsX2_contains_r2 : List Cond := [Cond.selects RX0 yX0_dotsAt yX0_dotsAt, Cond.initialized RX0, Cond.code yX0_dotsAt cX0_dotsAt 4 (some .int), Cond.fieldLink RX0 15 "DotGossip$Holding" "numbers" "[I"]
def wsX2_contains : List Cond := .code yX2_contains cX2_contains 4 (some .boolean) :: ((wsX2_contains_r1 ++ wsX2_contains_r2) ++ wsX20 ++ wsX00 ++ (vx_at0 RX2 133 "java/lang/IllegalArgumentException" ["java/lang/RuntimeException", "java/lang/Exception"]).filter goodWord)
def wsX2_size : List Cond := .code yX2_size cX2_size 5 (some .int) :: ([.fieldLink RX2 11 "DotGossip" "holdings" "[LDotGossip$Holding;", .methodLink RX2 52 yX2_requireReplica, .instanceMethod yX2_requireReplica, .selects RX2 yX2_requireReplica yX2_requireReplica, .initialized RX2, .code yX2_requireReplica cX2_requireReplica 2 none, .fieldLink RX2 23 "DotGossip" "replicaCount" "I", .methodLink RX2 56 yX2_requireIndex, .static yX2_requireIndex, .code yX2_requireIndex cX2_requireIndex 2 none, .methodLink RX2 27 yX2_require, .static yX2_require, .code yX2_require cX2_require 1 none, .classLink RX2 131 "java/lang/IllegalArgumentException", .initialized "java/lang/IllegalArgumentException", .methodLink RX2 41 yX2_placeOfElement, .static yX2_placeOfElement, .code yX2_placeOfElement cX2_placeOfElement 2 (some .int), .methodLink RX2 115 yX0_dotsAt, .instanceMethod yX0_dotsAt, .selects RX0 yX0_dotsAt yX0_dotsAt, .initialized RX0, .code yX0_dotsAt cX0_dotsAt 4 (some .int), .fieldLink RX0 15 "DotGossip$Holding" "numbers" "[I"] ++ wsX20 ++ wsX00 ++ (vx_at0 RX2 133 "java/lang/IllegalArgumentException" ["java/lang/RuntimeException", "java/lang/Exception"]).filter goodWord)
def wsX2_dot_r1 : List Cond := [Cond.fieldLink RX2 11 "DotGossip" "holdings" "[LDotGossip$Holding;", Cond.methodLink RX2 37 yX2_requireElement, Cond.instanceMethod yX2_requireElement, Cond.selects RX2 yX2_requireElement yX2_requireElement, Cond.initialized RX2, Cond.code yX2_requireElement cX2_requireElement 4 none, Cond.methodLink RX2 52 yX2_requireReplica, Cond.instanceMethod yX2_requireReplica, Cond.selects RX2 yX2_requireReplica yX2_requireReplica, Cond.code yX2_requireReplica cX2_requireReplica 2 none, Cond.fieldLink RX2 23 "DotGossip" "replicaCount" "I", Cond.methodLink RX2 56 yX2_requireIndex, Cond.static yX2_requireIndex, Cond.code yX2_requireIndex cX2_requireIndex 2 none, Cond.methodLink RX2 27 yX2_require, Cond.static yX2_require, Cond.code yX2_require cX2_require 1 none, Cond.classLink RX2 131 "java/lang/IllegalArgumentException", Cond.initialized "java/lang/IllegalArgumentException", Cond.methodLink RX2 41 yX2_placeOfElement, Cond.static yX2_placeOfElement, Cond.code yX2_placeOfElement cX2_placeOfElement 2 (some .int), Cond.methodLink RX2 118 yX0_makerOf, Cond.instanceMethod yX0_makerOf]
def wsX2_dot_r2 : List Cond := [Cond.selects RX0 yX0_makerOf yX0_makerOf, Cond.initialized RX0, Cond.code yX0_makerOf cX0_makerOf 5 (some .int), Cond.fieldLink RX0 15 "DotGossip$Holding" "numbers" "[I", Cond.methodLink RX2 121 yX0_numberBy, Cond.instanceMethod yX0_numberBy, Cond.selects RX0 yX0_numberBy yX0_numberBy, Cond.code yX0_numberBy cX0_numberBy 3 (some .int)]
def wsX2_dot : List Cond := .code yX2_dot cX2_dot 9 (some .int) :: ((wsX2_dot_r1 ++ wsX2_dot_r2) ++ wsX20 ++ wsX00 ++ (vx_at0 RX2 133 "java/lang/IllegalArgumentException" ["java/lang/RuntimeException", "java/lang/Exception"]).filter goodWord)
def wsX2_value_r1 : List Cond := [Cond.fieldLink RX2 11 "DotGossip" "holdings" "[LDotGossip$Holding;", Cond.fieldLink RX2 60 "DotGossip$Holding" "written" "[I", Cond.methodLink RX2 52 yX2_requireReplica, Cond.instanceMethod yX2_requireReplica, Cond.selects RX2 yX2_requireReplica yX2_requireReplica, Cond.initialized RX2, Cond.code yX2_requireReplica cX2_requireReplica 2 none, Cond.fieldLink RX2 23 "DotGossip" "replicaCount" "I", Cond.methodLink RX2 56 yX2_requireIndex, Cond.static yX2_requireIndex, Cond.code yX2_requireIndex cX2_requireIndex 2 none, Cond.methodLink RX2 27 yX2_require, Cond.static yX2_require, Cond.code yX2_require cX2_require 1 none, Cond.classLink RX2 131 "java/lang/IllegalArgumentException", Cond.initialized "java/lang/IllegalArgumentException", Cond.methodLink RX2 118 yX0_makerOf, Cond.instanceMethod yX0_makerOf, Cond.selects RX0 yX0_makerOf yX0_makerOf, Cond.initialized RX0, Cond.code yX0_makerOf cX0_makerOf 5 (some .int), Cond.fieldLink RX0 15 "DotGossip$Holding" "numbers" "[I", Cond.methodLink RX2 121 yX0_numberBy, Cond.instanceMethod yX0_numberBy]
def wsX2_value_r2 : List Cond := [Cond.selects RX0 yX0_numberBy yX0_numberBy, Cond.code yX0_numberBy cX0_numberBy 3 (some .int)]
def wsX2_value : List Cond := .code yX2_value cX2_value 8 (some .int) :: ((wsX2_value_r1 ++ wsX2_value_r2) ++ wsX20 ++ wsX00 ++ (vx_at0 RX2 133 "java/lang/IllegalArgumentException" ["java/lang/RuntimeException", "java/lang/Exception"]).filter goodWord)
def wsX2_values : List Cond := .code yX2_values cX2_values 3 (some .int) :: ([.fieldLink RX2 11 "DotGossip" "holdings" "[LDotGossip$Holding;", .methodLink RX2 52 yX2_requireReplica, .instanceMethod yX2_requireReplica, .selects RX2 yX2_requireReplica yX2_requireReplica, .initialized RX2, .code yX2_requireReplica cX2_requireReplica 2 none, .fieldLink RX2 23 "DotGossip" "replicaCount" "I", .methodLink RX2 56 yX2_requireIndex, .static yX2_requireIndex, .code yX2_requireIndex cX2_requireIndex 2 none, .methodLink RX2 27 yX2_require, .static yX2_require, .code yX2_require cX2_require 1 none, .classLink RX2 131 "java/lang/IllegalArgumentException", .initialized "java/lang/IllegalArgumentException", .methodLink RX2 115 yX0_dotsAt, .instanceMethod yX0_dotsAt, .selects RX0 yX0_dotsAt yX0_dotsAt, .initialized RX0, .code yX0_dotsAt cX0_dotsAt 4 (some .int), .fieldLink RX0 15 "DotGossip$Holding" "numbers" "[I"] ++ wsX20 ++ wsX00 ++ (vx_at0 RX2 133 "java/lang/IllegalArgumentException" ["java/lang/RuntimeException", "java/lang/Exception"]).filter goodWord)
def wsX2_total : List Cond := .code yX2_total cX2_total 3 (some .int) :: ([.fieldLink RX2 11 "DotGossip" "holdings" "[LDotGossip$Holding;", .methodLink RX2 52 yX2_requireReplica, .instanceMethod yX2_requireReplica, .selects RX2 yX2_requireReplica yX2_requireReplica, .initialized RX2, .code yX2_requireReplica cX2_requireReplica 2 none, .fieldLink RX2 23 "DotGossip" "replicaCount" "I", .methodLink RX2 56 yX2_requireIndex, .static yX2_requireIndex, .code yX2_requireIndex cX2_requireIndex 2 none, .methodLink RX2 27 yX2_require, .static yX2_require, .code yX2_require cX2_require 1 none, .classLink RX2 131 "java/lang/IllegalArgumentException", .initialized "java/lang/IllegalArgumentException", .methodLink RX2 71 yX0_worth, .instanceMethod yX0_worth, .selects RX0 yX0_worth yX0_worth, .initialized RX0, .code yX0_worth cX0_worth 6 (some .int), .fieldLink RX0 21 "DotGossip$Holding" "added" "[J", .fieldLink RX0 25 "DotGossip$Holding" "taken" "[J"] ++ wsX20 ++ wsX00 ++ (vx_at0 RX2 133 "java/lang/IllegalArgumentException" ["java/lang/RuntimeException", "java/lang/Exception"]).filter goodWord)
def wsX2_vector : List Cond := .code yX2_vector cX2_vector 3 (some .int) :: ([.fieldLink RX2 11 "DotGossip" "holdings" "[LDotGossip$Holding;", .fieldLink RX2 124 "DotGossip$Holding" "seen" "[I", .methodLink RX2 52 yX2_requireReplica, .instanceMethod yX2_requireReplica, .selects RX2 yX2_requireReplica yX2_requireReplica, .initialized RX2, .code yX2_requireReplica cX2_requireReplica 2 none, .fieldLink RX2 23 "DotGossip" "replicaCount" "I", .methodLink RX2 56 yX2_requireIndex, .static yX2_requireIndex, .code yX2_requireIndex cX2_requireIndex 2 none, .methodLink RX2 27 yX2_require, .static yX2_require, .code yX2_require cX2_require 1 none, .classLink RX2 131 "java/lang/IllegalArgumentException", .initialized "java/lang/IllegalArgumentException"] ++ wsX20 ++ wsX00 ++ (vx_at0 RX2 133 "java/lang/IllegalArgumentException" ["java/lang/RuntimeException", "java/lang/Exception"]).filter goodWord)
def wsX2_same_r1 : List Cond := [Cond.fieldLink RX2 11 "DotGossip" "holdings" "[LDotGossip$Holding;", Cond.methodLink RX2 52 yX2_requireReplica, Cond.instanceMethod yX2_requireReplica, Cond.selects RX2 yX2_requireReplica yX2_requireReplica, Cond.initialized RX2, Cond.code yX2_requireReplica cX2_requireReplica 2 none, Cond.fieldLink RX2 23 "DotGossip" "replicaCount" "I", Cond.methodLink RX2 56 yX2_requireIndex, Cond.static yX2_requireIndex, Cond.code yX2_requireIndex cX2_requireIndex 2 none, Cond.methodLink RX2 27 yX2_require, Cond.static yX2_require, Cond.code yX2_require cX2_require 1 none, Cond.classLink RX2 131 "java/lang/IllegalArgumentException", Cond.initialized "java/lang/IllegalArgumentException", Cond.methodLink RX2 127 yX0_matches, Cond.instanceMethod yX0_matches, Cond.selects RX0 yX0_matches yX0_matches, Cond.initialized RX0, Cond.code yX0_matches cX0_matches 2 (some .boolean), Cond.fieldLink RX0 9 "DotGossip$Holding" "seen" "[I", Cond.fieldLink RX0 15 "DotGossip$Holding" "numbers" "[I", Cond.fieldLink RX0 21 "DotGossip$Holding" "added" "[J", Cond.fieldLink RX0 25 "DotGossip$Holding" "taken" "[J"]
def wsX2_same_r2 : List Cond := [Cond.methodLink RX0 61 yX0_equalInts, Cond.static yX0_equalInts, Cond.code yX0_equalInts cX0_equalInts 3 (some .boolean), Cond.methodLink RX0 65 yX0_equalLongs, Cond.static yX0_equalLongs, Cond.code yX0_equalLongs cX0_equalLongs 3 (some .boolean)]
def wsX2_same : List Cond := .code yX2_same cX2_same 3 (some .boolean) :: ((wsX2_same_r1 ++ wsX2_same_r2) ++ wsX20 ++ wsX00 ++ (vx_at0 RX2 133 "java/lang/IllegalArgumentException" ["java/lang/RuntimeException", "java/lang/Exception"]).filter goodWord)
def wsX2_message_r1 : List Cond := [Cond.fieldLink RX2 23 "DotGossip" "replicaCount" "I", Cond.fieldLink RX2 19 "DotGossip" "wire" "Ljava/util/ArrayList;", Cond.classLink RX2 81 "DotGossip$Message", Cond.fieldLink RX2 112 "DotGossip$Message" "from" "I", Cond.fieldLink RX2 98 "DotGossip$Message" "to" "I", Cond.fieldLink RX2 101 "DotGossip$Message" "sent" "LDotGossip$Holding;", Cond.fieldLink RX2 124 "DotGossip$Holding" "seen" "[I", Cond.methodLink RX2 74 yJx4a65c_size_8abf5, Cond.instanceMethod yJx4a65c_size_8abf5, Cond.selects RJx4a65c yJx4a65c_size_8abf5 yJx4a65c_size_8abf5, Cond.initialized RJx4a65c, Cond.code yJx4a65c_size_8abf5 cJx4a65c_size_8abf5 1 (some .int), Cond.fieldLink RJx4a65c 48 "java/util/ArrayList" "size" "I", Cond.methodLink RX2 56 yX2_requireIndex, Cond.static yX2_requireIndex, Cond.initialized RX2, Cond.code yX2_requireIndex cX2_requireIndex 2 none, Cond.methodLink RX2 27 yX2_require, Cond.static yX2_require, Cond.code yX2_require cX2_require 1 none, Cond.classLink RX2 131 "java/lang/IllegalArgumentException", Cond.initialized "java/lang/IllegalArgumentException", Cond.methodLink RX2 109 yJx4a65c_get_915e3, Cond.instanceMethod yJx4a65c_get_915e3]
def wsX2_message_r2 : List Cond := [Cond.selects RJx4a65c yJx4a65c_get_915e3 yJx4a65c_get_915e3, Cond.code yJx4a65c_get_915e3 cJx4a65c_get_915e3 2 (some (.object "java/lang/Object")), Cond.methodLink RJx4a65c 118 yJ15_checkIndex_7cf53, Cond.static yJ15_checkIndex_7cf53, Cond.initialized RJ15, Cond.code yJ15_checkIndex_7cf53 cJ15_checkIndex_7cf53 2 (some .int), Cond.methodLink RJ15 105 yJ3_checkIndex_8e157, Cond.static yJ3_checkIndex_8e157, Cond.initialized RJ3, Cond.code yJ3_checkIndex_8e157 cJ3_checkIndex_8e157 3 (some .int), Cond.methodLink RJx4a65c 123 yJx4a65c_elementData_915e3, Cond.instanceMethod yJx4a65c_elementData_915e3, Cond.selects RJx4a65c yJx4a65c_elementData_915e3 yJx4a65c_elementData_915e3, Cond.code yJx4a65c_elementData_915e3 cJx4a65c_elementData_915e3 2 (some (.object "java/lang/Object")), Cond.fieldLink RJx4a65c 9 "java/util/ArrayList" "elementData" "[Ljava/lang/Object;"]
def wsX2_message : List Cond := .code yX2_message cX2_message 4 (some .int) :: ((wsX2_message_r1 ++ wsX2_message_r2) ++ wsX20 ++ wsX10 ++ wsX00 ++ wsJx4a65c0 ++ (vx_at0 RX2 133 "java/lang/IllegalArgumentException" ["java/lang/RuntimeException", "java/lang/Exception"]).filter goodWord)
def wsX3_init : List Cond := .code yX3_init cX3_init 1 none :: ([.methodLink RX3 1 objectInit, .instanceMethod objectInit, .code objectInit ⟨#[0xb1]⟩ 1 none, .fieldLink RX3 7 "DotGossipModel" "replicas" "I", .constant RX3 13 (43884), .arrayClass .int, .fieldLink RX3 14 "DotGossipModel" "table" "[I", .fieldLink RX3 18 "DotGossipModel" "values" "[I", .arrayClass .long, .fieldLink RX3 21 "DotGossipModel" "sums" "[J", .fieldLink RX3 25 "DotGossipModel" "from" "[I", .fieldLink RX3 28 "DotGossipModel" "to" "[I"] ++ wsX30)
def wsX3_thrown : List Cond := .code yX3_thrown cX3_thrown 1 (some .int) :: ([.fieldLink RX3 31 "DotGossipModel" "code" "I"] ++ wsX30)
def wsX3_refuses : List Cond := .code yX3_refuses cX3_refuses 2 (some .boolean) :: ([.fieldLink RX3 31 "DotGossipModel" "code" "I"] ++ wsX30)
def wsX3_isReplica : List Cond := .code yX3_isReplica cX3_isReplica 2 (some .boolean) :: ([.fieldLink RX3 7 "DotGossipModel" "replicas" "I"] ++ wsX30)
def wsX3_isElement : List Cond := .code yX3_isElement cX3_isElement 4 (some .boolean) :: ([.methodLink RX3 34 yX3_isReplica, .instanceMethod yX3_isReplica, .selects RX3 yX3_isReplica yX3_isReplica, .initialized RX3, .code yX3_isReplica cX3_isReplica 2 (some .boolean), .fieldLink RX3 7 "DotGossipModel" "replicas" "I"] ++ wsX30)
def wsX3_isRegister : List Cond := .code yX3_isRegister cX3_isRegister 3 (some .boolean) :: ([.methodLink RX3 34 yX3_isReplica, .instanceMethod yX3_isReplica, .selects RX3 yX3_isReplica yX3_isReplica, .initialized RX3, .code yX3_isReplica cX3_isReplica 2 (some .boolean), .fieldLink RX3 7 "DotGossipModel" "replicas" "I"] ++ wsX30)
def wsX3_dots : List Cond := .code yX3_dots cX3_dots 2 (some .int) :: ([])
def wsX3_vectorAt : List Cond := .code yX3_vectorAt cX3_vectorAt 2 (some .int) :: ([])
def wsX3_open : List Cond := .code yX3_open cX3_open 3 none :: ([.fieldLink RX3 7 "DotGossipModel" "replicas" "I", .fieldLink RX3 41 "DotGossipModel" "messages" "I", .fieldLink RX3 14 "DotGossipModel" "table" "[I", .fieldLink RX3 18 "DotGossipModel" "values" "[I", .fieldLink RX3 21 "DotGossipModel" "sums" "[J", .methodLink RX3 38 yX3_refuses, .instanceMethod yX3_refuses, .selects RX3 yX3_refuses yX3_refuses, .initialized RX3, .code yX3_refuses cX3_refuses 2 (some .boolean), .fieldLink RX3 31 "DotGossipModel" "code" "I"] ++ wsX30)
def wsX3_many : List Cond := .code yX3_many cX3_many 5 (some .int) :: ([.fieldLink RX3 14 "DotGossipModel" "table" "[I", .methodLink RX3 44 yX3_dots, .static yX3_dots, .initialized RX3, .code yX3_dots cX3_dots 2 (some .int)] ++ wsX30)
def wsX3_empties : List Cond := .code yX3_empties cX3_empties 4 none :: ([.fieldLink RX3 14 "DotGossipModel" "table" "[I", .methodLink RX3 44 yX3_dots, .static yX3_dots, .initialized RX3, .code yX3_dots cX3_dots 2 (some .int)] ++ wsX30)
def wsX3_news : List Cond := .code yX3_news cX3_news 4 (some .int) :: ([.fieldLink RX3 14 "DotGossipModel" "table" "[I", .methodLink RX3 48 yX3_vectorAt, .static yX3_vectorAt, .initialized RX3, .code yX3_vectorAt cX3_vectorAt 2 (some .int), .methodLink RX3 51 yX3_empties, .instanceMethod yX3_empties, .selects RX3 yX3_empties yX3_empties, .code yX3_empties cX3_empties 4 none, .methodLink RX3 44 yX3_dots, .static yX3_dots, .code yX3_dots cX3_dots 2 (some .int)] ++ wsX30)
def wsX3_add_r1 : List Cond := [Cond.methodLink RX3 55 yX3_isElement, Cond.instanceMethod yX3_isElement, Cond.selects RX3 yX3_isElement yX3_isElement, Cond.initialized RX3, Cond.code yX3_isElement cX3_isElement 4 (some .boolean), Cond.methodLink RX3 34 yX3_isReplica, Cond.instanceMethod yX3_isReplica, Cond.selects RX3 yX3_isReplica yX3_isReplica, Cond.code yX3_isReplica cX3_isReplica 2 (some .boolean), Cond.fieldLink RX3 7 "DotGossipModel" "replicas" "I", Cond.methodLink RX3 38 yX3_refuses, Cond.instanceMethod yX3_refuses, Cond.selects RX3 yX3_refuses yX3_refuses, Cond.code yX3_refuses cX3_refuses 2 (some .boolean), Cond.fieldLink RX3 31 "DotGossipModel" "code" "I", Cond.methodLink RX3 59 yX3_news, Cond.instanceMethod yX3_news, Cond.selects RX3 yX3_news yX3_news, Cond.code yX3_news cX3_news 4 (some .int), Cond.fieldLink RX3 14 "DotGossipModel" "table" "[I", Cond.methodLink RX3 48 yX3_vectorAt, Cond.static yX3_vectorAt, Cond.code yX3_vectorAt cX3_vectorAt 2 (some .int), Cond.methodLink RX3 51 yX3_empties]
def wsX3_add_r2 : List Cond := [Cond.instanceMethod yX3_empties, Cond.selects RX3 yX3_empties yX3_empties, Cond.code yX3_empties cX3_empties 4 none, Cond.methodLink RX3 44 yX3_dots, Cond.static yX3_dots, Cond.code yX3_dots cX3_dots 2 (some .int)]
def wsX3_add : List Cond := .code yX3_add cX3_add 4 (some .int) :: ((wsX3_add_r1 ++ wsX3_add_r2) ++ wsX30)
def wsX3_remove_r1 : List Cond := [Cond.methodLink RX3 55 yX3_isElement, Cond.instanceMethod yX3_isElement, Cond.selects RX3 yX3_isElement yX3_isElement, Cond.initialized RX3, Cond.code yX3_isElement cX3_isElement 4 (some .boolean), Cond.methodLink RX3 34 yX3_isReplica, Cond.instanceMethod yX3_isReplica, Cond.selects RX3 yX3_isReplica yX3_isReplica, Cond.code yX3_isReplica cX3_isReplica 2 (some .boolean), Cond.fieldLink RX3 7 "DotGossipModel" "replicas" "I", Cond.methodLink RX3 38 yX3_refuses, Cond.instanceMethod yX3_refuses, Cond.selects RX3 yX3_refuses yX3_refuses, Cond.code yX3_refuses cX3_refuses 2 (some .boolean), Cond.fieldLink RX3 31 "DotGossipModel" "code" "I", Cond.methodLink RX3 62 yX3_many, Cond.instanceMethod yX3_many, Cond.selects RX3 yX3_many yX3_many, Cond.code yX3_many cX3_many 5 (some .int), Cond.fieldLink RX3 14 "DotGossipModel" "table" "[I", Cond.methodLink RX3 44 yX3_dots, Cond.static yX3_dots, Cond.code yX3_dots cX3_dots 2 (some .int), Cond.methodLink RX3 51 yX3_empties]
def wsX3_remove_r2 : List Cond := [Cond.instanceMethod yX3_empties, Cond.selects RX3 yX3_empties yX3_empties, Cond.code yX3_empties cX3_empties 4 none]
def wsX3_remove : List Cond := .code yX3_remove cX3_remove 5 (some .int) :: ((wsX3_remove_r1 ++ wsX3_remove_r2) ++ wsX30)
def wsX3_clear_r1 : List Cond := [Cond.methodLink RX3 55 yX3_isElement, Cond.instanceMethod yX3_isElement, Cond.selects RX3 yX3_isElement yX3_isElement, Cond.initialized RX3, Cond.code yX3_isElement cX3_isElement 4 (some .boolean), Cond.methodLink RX3 34 yX3_isReplica, Cond.instanceMethod yX3_isReplica, Cond.selects RX3 yX3_isReplica yX3_isReplica, Cond.code yX3_isReplica cX3_isReplica 2 (some .boolean), Cond.fieldLink RX3 7 "DotGossipModel" "replicas" "I", Cond.methodLink RX3 38 yX3_refuses, Cond.instanceMethod yX3_refuses, Cond.selects RX3 yX3_refuses yX3_refuses, Cond.code yX3_refuses cX3_refuses 2 (some .boolean), Cond.fieldLink RX3 31 "DotGossipModel" "code" "I", Cond.methodLink RX3 62 yX3_many, Cond.instanceMethod yX3_many, Cond.selects RX3 yX3_many yX3_many, Cond.code yX3_many cX3_many 5 (some .int), Cond.fieldLink RX3 14 "DotGossipModel" "table" "[I", Cond.methodLink RX3 44 yX3_dots, Cond.static yX3_dots, Cond.code yX3_dots cX3_dots 2 (some .int), Cond.methodLink RX3 51 yX3_empties]
def wsX3_clear_r2 : List Cond := [Cond.instanceMethod yX3_empties, Cond.selects RX3 yX3_empties yX3_empties, Cond.code yX3_empties cX3_empties 4 none]
def wsX3_clear : List Cond := .code yX3_clear cX3_clear 5 (some .int) :: ((wsX3_clear_r1 ++ wsX3_clear_r2) ++ wsX30)
def wsX3_write_r1 : List Cond := [Cond.fieldLink RX3 18 "DotGossipModel" "values" "[I", Cond.methodLink RX3 65 yX3_isRegister, Cond.instanceMethod yX3_isRegister, Cond.selects RX3 yX3_isRegister yX3_isRegister, Cond.initialized RX3, Cond.code yX3_isRegister cX3_isRegister 3 (some .boolean), Cond.methodLink RX3 34 yX3_isReplica, Cond.instanceMethod yX3_isReplica, Cond.selects RX3 yX3_isReplica yX3_isReplica, Cond.code yX3_isReplica cX3_isReplica 2 (some .boolean), Cond.fieldLink RX3 7 "DotGossipModel" "replicas" "I", Cond.methodLink RX3 38 yX3_refuses, Cond.instanceMethod yX3_refuses, Cond.selects RX3 yX3_refuses yX3_refuses, Cond.code yX3_refuses cX3_refuses 2 (some .boolean), Cond.fieldLink RX3 31 "DotGossipModel" "code" "I", Cond.methodLink RX3 62 yX3_many, Cond.instanceMethod yX3_many, Cond.selects RX3 yX3_many yX3_many, Cond.code yX3_many cX3_many 5 (some .int), Cond.fieldLink RX3 14 "DotGossipModel" "table" "[I", Cond.methodLink RX3 44 yX3_dots, Cond.static yX3_dots, Cond.code yX3_dots cX3_dots 2 (some .int)]
def wsX3_write_r2 : List Cond := [Cond.methodLink RX3 59 yX3_news, Cond.instanceMethod yX3_news, Cond.selects RX3 yX3_news yX3_news, Cond.code yX3_news cX3_news 4 (some .int), Cond.methodLink RX3 48 yX3_vectorAt, Cond.static yX3_vectorAt, Cond.code yX3_vectorAt cX3_vectorAt 2 (some .int), Cond.methodLink RX3 51 yX3_empties, Cond.instanceMethod yX3_empties, Cond.selects RX3 yX3_empties yX3_empties, Cond.code yX3_empties cX3_empties 4 none]
def wsX3_write : List Cond := .code yX3_write cX3_write 5 (some .int) :: ((wsX3_write_r1 ++ wsX3_write_r2) ++ wsX30)
def wsX3_sum : List Cond := .code yX3_sum cX3_sum 7 (some .int) :: ([.fieldLink RX3 21 "DotGossipModel" "sums" "[J"] ++ wsX30)
def wsX3_count : List Cond := .code yX3_count cX3_count 5 (some .int) :: ([.fieldLink RX3 21 "DotGossipModel" "sums" "[J", .methodLink RX3 65 yX3_isRegister, .instanceMethod yX3_isRegister, .selects RX3 yX3_isRegister yX3_isRegister, .initialized RX3, .code yX3_isRegister cX3_isRegister 3 (some .boolean), .methodLink RX3 34 yX3_isReplica, .instanceMethod yX3_isReplica, .selects RX3 yX3_isReplica yX3_isReplica, .code yX3_isReplica cX3_isReplica 2 (some .boolean), .fieldLink RX3 7 "DotGossipModel" "replicas" "I", .methodLink RX3 38 yX3_refuses, .instanceMethod yX3_refuses, .selects RX3 yX3_refuses yX3_refuses, .code yX3_refuses cX3_refuses 2 (some .boolean), .fieldLink RX3 31 "DotGossipModel" "code" "I", .methodLink RX3 69 yX3_sum, .instanceMethod yX3_sum, .selects RX3 yX3_sum yX3_sum, .code yX3_sum cX3_sum 7 (some .int)] ++ wsX30)
def wsX3_copies : List Cond := .code yX3_copies cX3_copies 4 none :: ([.fieldLink RX3 14 "DotGossipModel" "table" "[I", .fieldLink RX3 18 "DotGossipModel" "values" "[I", .fieldLink RX3 21 "DotGossipModel" "sums" "[J"] ++ wsX30)
def wsX3_gossip : List Cond := .code yX3_gossip cX3_gossip 3 (some .int) :: ([.fieldLink RX3 41 "DotGossipModel" "messages" "I", .fieldLink RX3 25 "DotGossipModel" "from" "[I", .fieldLink RX3 28 "DotGossipModel" "to" "[I", .methodLink RX3 34 yX3_isReplica, .instanceMethod yX3_isReplica, .selects RX3 yX3_isReplica yX3_isReplica, .initialized RX3, .code yX3_isReplica cX3_isReplica 2 (some .boolean), .fieldLink RX3 7 "DotGossipModel" "replicas" "I", .methodLink RX3 38 yX3_refuses, .instanceMethod yX3_refuses, .selects RX3 yX3_refuses yX3_refuses, .code yX3_refuses cX3_refuses 2 (some .boolean), .fieldLink RX3 31 "DotGossipModel" "code" "I", .methodLink RX3 72 yX3_copies, .instanceMethod yX3_copies, .selects RX3 yX3_copies yX3_copies, .code yX3_copies cX3_copies 4 none, .fieldLink RX3 14 "DotGossipModel" "table" "[I", .fieldLink RX3 18 "DotGossipModel" "values" "[I", .fieldLink RX3 21 "DotGossipModel" "sums" "[J"] ++ wsX30)
def wsX3_isMessage : List Cond := .code yX3_isMessage cX3_isMessage 2 (some .boolean) :: ([.fieldLink RX3 41 "DotGossipModel" "messages" "I"] ++ wsX30)
def wsX3_gone : List Cond := .code yX3_gone cX3_gone 3 none :: ([.fieldLink RX3 41 "DotGossipModel" "messages" "I", .fieldLink RX3 25 "DotGossipModel" "from" "[I", .fieldLink RX3 28 "DotGossipModel" "to" "[I", .methodLink RX3 72 yX3_copies, .instanceMethod yX3_copies, .selects RX3 yX3_copies yX3_copies, .initialized RX3, .code yX3_copies cX3_copies 4 none, .fieldLink RX3 14 "DotGossipModel" "table" "[I", .fieldLink RX3 18 "DotGossipModel" "values" "[I", .fieldLink RX3 21 "DotGossipModel" "sums" "[J"] ++ wsX30)
def wsX3_merges : List Cond := .code yX3_merges cX3_merges 9 (some .int) :: ([.fieldLink RX3 14 "DotGossipModel" "table" "[I", .fieldLink RX3 18 "DotGossipModel" "values" "[I", .fieldLink RX3 21 "DotGossipModel" "sums" "[J", .methodLink RX3 44 yX3_dots, .static yX3_dots, .initialized RX3, .code yX3_dots cX3_dots 2 (some .int), .methodLink RX3 48 yX3_vectorAt, .static yX3_vectorAt, .code yX3_vectorAt cX3_vectorAt 2 (some .int)] ++ wsX30)
def wsX3_deliver_r1 : List Cond := [Cond.fieldLink RX3 28 "DotGossipModel" "to" "[I", Cond.methodLink RX3 75 yX3_isMessage, Cond.instanceMethod yX3_isMessage, Cond.selects RX3 yX3_isMessage yX3_isMessage, Cond.initialized RX3, Cond.code yX3_isMessage cX3_isMessage 2 (some .boolean), Cond.fieldLink RX3 41 "DotGossipModel" "messages" "I", Cond.methodLink RX3 38 yX3_refuses, Cond.instanceMethod yX3_refuses, Cond.selects RX3 yX3_refuses yX3_refuses, Cond.code yX3_refuses cX3_refuses 2 (some .boolean), Cond.fieldLink RX3 31 "DotGossipModel" "code" "I", Cond.methodLink RX3 78 yX3_merges, Cond.instanceMethod yX3_merges, Cond.selects RX3 yX3_merges yX3_merges, Cond.code yX3_merges cX3_merges 9 (some .int), Cond.fieldLink RX3 14 "DotGossipModel" "table" "[I", Cond.fieldLink RX3 18 "DotGossipModel" "values" "[I", Cond.fieldLink RX3 21 "DotGossipModel" "sums" "[J", Cond.methodLink RX3 44 yX3_dots, Cond.static yX3_dots, Cond.code yX3_dots cX3_dots 2 (some .int), Cond.methodLink RX3 48 yX3_vectorAt, Cond.static yX3_vectorAt]
def wsX3_deliver_r2 : List Cond := [Cond.code yX3_vectorAt cX3_vectorAt 2 (some .int), Cond.methodLink RX3 81 yX3_gone, Cond.instanceMethod yX3_gone, Cond.selects RX3 yX3_gone yX3_gone, Cond.code yX3_gone cX3_gone 3 none, Cond.fieldLink RX3 25 "DotGossipModel" "from" "[I", Cond.methodLink RX3 72 yX3_copies, Cond.instanceMethod yX3_copies, Cond.selects RX3 yX3_copies yX3_copies, Cond.code yX3_copies cX3_copies 4 none]
def wsX3_deliver : List Cond := .code yX3_deliver cX3_deliver 3 (some .int) :: ((wsX3_deliver_r1 ++ wsX3_deliver_r2) ++ wsX30)
def wsX3_drop : List Cond := .code yX3_drop cX3_drop 3 (some .int) :: ([.fieldLink RX3 28 "DotGossipModel" "to" "[I", .methodLink RX3 75 yX3_isMessage, .instanceMethod yX3_isMessage, .selects RX3 yX3_isMessage yX3_isMessage, .initialized RX3, .code yX3_isMessage cX3_isMessage 2 (some .boolean), .fieldLink RX3 41 "DotGossipModel" "messages" "I", .methodLink RX3 38 yX3_refuses, .instanceMethod yX3_refuses, .selects RX3 yX3_refuses yX3_refuses, .code yX3_refuses cX3_refuses 2 (some .boolean), .fieldLink RX3 31 "DotGossipModel" "code" "I", .methodLink RX3 81 yX3_gone, .instanceMethod yX3_gone, .selects RX3 yX3_gone yX3_gone, .code yX3_gone cX3_gone 3 none, .fieldLink RX3 25 "DotGossipModel" "from" "[I", .methodLink RX3 72 yX3_copies, .instanceMethod yX3_copies, .selects RX3 yX3_copies yX3_copies, .code yX3_copies cX3_copies 4 none, .fieldLink RX3 14 "DotGossipModel" "table" "[I", .fieldLink RX3 18 "DotGossipModel" "values" "[I", .fieldLink RX3 21 "DotGossipModel" "sums" "[J"] ++ wsX30)
def wsX3_copy : List Cond := .code yX3_copy cX3_copy 2 (some .boolean) :: ([.fieldLink RX3 41 "DotGossipModel" "messages" "I", .fieldLink RX3 25 "DotGossipModel" "from" "[I", .fieldLink RX3 28 "DotGossipModel" "to" "[I", .methodLink RX3 75 yX3_isMessage, .instanceMethod yX3_isMessage, .selects RX3 yX3_isMessage yX3_isMessage, .initialized RX3, .code yX3_isMessage cX3_isMessage 2 (some .boolean), .methodLink RX3 38 yX3_refuses, .instanceMethod yX3_refuses, .selects RX3 yX3_refuses yX3_refuses, .code yX3_refuses cX3_refuses 2 (some .boolean), .fieldLink RX3 31 "DotGossipModel" "code" "I", .methodLink RX3 72 yX3_copies, .instanceMethod yX3_copies, .selects RX3 yX3_copies yX3_copies, .code yX3_copies cX3_copies 4 none, .fieldLink RX3 14 "DotGossipModel" "table" "[I", .fieldLink RX3 18 "DotGossipModel" "values" "[I", .fieldLink RX3 21 "DotGossipModel" "sums" "[J"] ++ wsX30)
def wsX3_turn : List Cond := .code yX3_turn cX3_turn 3 none :: ([.fieldLink RX3 28 "DotGossipModel" "to" "[I", .methodLink RX3 75 yX3_isMessage, .instanceMethod yX3_isMessage, .selects RX3 yX3_isMessage yX3_isMessage, .initialized RX3, .code yX3_isMessage cX3_isMessage 2 (some .boolean), .fieldLink RX3 41 "DotGossipModel" "messages" "I", .methodLink RX3 34 yX3_isReplica, .instanceMethod yX3_isReplica, .selects RX3 yX3_isReplica yX3_isReplica, .code yX3_isReplica cX3_isReplica 2 (some .boolean), .fieldLink RX3 7 "DotGossipModel" "replicas" "I", .methodLink RX3 38 yX3_refuses, .instanceMethod yX3_refuses, .selects RX3 yX3_refuses yX3_refuses, .code yX3_refuses cX3_refuses 2 (some .boolean), .fieldLink RX3 31 "DotGossipModel" "code" "I"] ++ wsX30)
def wsX3_contains : List Cond := .code yX3_contains cX3_contains 4 (some .boolean) :: ([.methodLink RX3 55 yX3_isElement, .instanceMethod yX3_isElement, .selects RX3 yX3_isElement yX3_isElement, .initialized RX3, .code yX3_isElement cX3_isElement 4 (some .boolean), .methodLink RX3 34 yX3_isReplica, .instanceMethod yX3_isReplica, .selects RX3 yX3_isReplica yX3_isReplica, .code yX3_isReplica cX3_isReplica 2 (some .boolean), .fieldLink RX3 7 "DotGossipModel" "replicas" "I", .methodLink RX3 38 yX3_refuses, .instanceMethod yX3_refuses, .selects RX3 yX3_refuses yX3_refuses, .code yX3_refuses cX3_refuses 2 (some .boolean), .fieldLink RX3 31 "DotGossipModel" "code" "I", .methodLink RX3 62 yX3_many, .instanceMethod yX3_many, .selects RX3 yX3_many yX3_many, .code yX3_many cX3_many 5 (some .int), .fieldLink RX3 14 "DotGossipModel" "table" "[I", .methodLink RX3 44 yX3_dots, .static yX3_dots, .code yX3_dots cX3_dots 2 (some .int)] ++ wsX30)
def wsX3_size : List Cond := .code yX3_size cX3_size 5 (some .int) :: ([.methodLink RX3 55 yX3_isElement, .instanceMethod yX3_isElement, .selects RX3 yX3_isElement yX3_isElement, .initialized RX3, .code yX3_isElement cX3_isElement 4 (some .boolean), .methodLink RX3 34 yX3_isReplica, .instanceMethod yX3_isReplica, .selects RX3 yX3_isReplica yX3_isReplica, .code yX3_isReplica cX3_isReplica 2 (some .boolean), .fieldLink RX3 7 "DotGossipModel" "replicas" "I", .methodLink RX3 38 yX3_refuses, .instanceMethod yX3_refuses, .selects RX3 yX3_refuses yX3_refuses, .code yX3_refuses cX3_refuses 2 (some .boolean), .fieldLink RX3 31 "DotGossipModel" "code" "I", .methodLink RX3 62 yX3_many, .instanceMethod yX3_many, .selects RX3 yX3_many yX3_many, .code yX3_many cX3_many 5 (some .int), .fieldLink RX3 14 "DotGossipModel" "table" "[I", .methodLink RX3 44 yX3_dots, .static yX3_dots, .code yX3_dots cX3_dots 2 (some .int)] ++ wsX30)
def wsX3_origin : List Cond := .code yX3_origin cX3_origin 6 (some .int) :: ([.fieldLink RX3 14 "DotGossipModel" "table" "[I", .methodLink RX3 44 yX3_dots, .static yX3_dots, .initialized RX3, .code yX3_dots cX3_dots 2 (some .int)] ++ wsX30)
def wsX3_dot : List Cond := .code yX3_dot cX3_dot 8 (some .int) :: ([.fieldLink RX3 14 "DotGossipModel" "table" "[I", .methodLink RX3 55 yX3_isElement, .instanceMethod yX3_isElement, .selects RX3 yX3_isElement yX3_isElement, .initialized RX3, .code yX3_isElement cX3_isElement 4 (some .boolean), .methodLink RX3 34 yX3_isReplica, .instanceMethod yX3_isReplica, .selects RX3 yX3_isReplica yX3_isReplica, .code yX3_isReplica cX3_isReplica 2 (some .boolean), .fieldLink RX3 7 "DotGossipModel" "replicas" "I", .methodLink RX3 38 yX3_refuses, .instanceMethod yX3_refuses, .selects RX3 yX3_refuses yX3_refuses, .code yX3_refuses cX3_refuses 2 (some .boolean), .fieldLink RX3 31 "DotGossipModel" "code" "I", .methodLink RX3 85 yX3_origin, .instanceMethod yX3_origin, .selects RX3 yX3_origin yX3_origin, .code yX3_origin cX3_origin 6 (some .int), .methodLink RX3 44 yX3_dots, .static yX3_dots, .code yX3_dots cX3_dots 2 (some .int)] ++ wsX30)
def wsX3_value : List Cond := .code yX3_value cX3_value 6 (some .int) :: ([.fieldLink RX3 14 "DotGossipModel" "table" "[I", .fieldLink RX3 18 "DotGossipModel" "values" "[I", .methodLink RX3 65 yX3_isRegister, .instanceMethod yX3_isRegister, .selects RX3 yX3_isRegister yX3_isRegister, .initialized RX3, .code yX3_isRegister cX3_isRegister 3 (some .boolean), .methodLink RX3 34 yX3_isReplica, .instanceMethod yX3_isReplica, .selects RX3 yX3_isReplica yX3_isReplica, .code yX3_isReplica cX3_isReplica 2 (some .boolean), .fieldLink RX3 7 "DotGossipModel" "replicas" "I", .methodLink RX3 38 yX3_refuses, .instanceMethod yX3_refuses, .selects RX3 yX3_refuses yX3_refuses, .code yX3_refuses cX3_refuses 2 (some .boolean), .fieldLink RX3 31 "DotGossipModel" "code" "I", .methodLink RX3 85 yX3_origin, .instanceMethod yX3_origin, .selects RX3 yX3_origin yX3_origin, .code yX3_origin cX3_origin 6 (some .int), .methodLink RX3 44 yX3_dots, .static yX3_dots, .code yX3_dots cX3_dots 2 (some .int)] ++ wsX30)
def wsX3_values : List Cond := .code yX3_values cX3_values 3 (some .int) :: ([.methodLink RX3 65 yX3_isRegister, .instanceMethod yX3_isRegister, .selects RX3 yX3_isRegister yX3_isRegister, .initialized RX3, .code yX3_isRegister cX3_isRegister 3 (some .boolean), .methodLink RX3 34 yX3_isReplica, .instanceMethod yX3_isReplica, .selects RX3 yX3_isReplica yX3_isReplica, .code yX3_isReplica cX3_isReplica 2 (some .boolean), .fieldLink RX3 7 "DotGossipModel" "replicas" "I", .methodLink RX3 38 yX3_refuses, .instanceMethod yX3_refuses, .selects RX3 yX3_refuses yX3_refuses, .code yX3_refuses cX3_refuses 2 (some .boolean), .fieldLink RX3 31 "DotGossipModel" "code" "I", .methodLink RX3 62 yX3_many, .instanceMethod yX3_many, .selects RX3 yX3_many yX3_many, .code yX3_many cX3_many 5 (some .int), .fieldLink RX3 14 "DotGossipModel" "table" "[I", .methodLink RX3 44 yX3_dots, .static yX3_dots, .code yX3_dots cX3_dots 2 (some .int)] ++ wsX30)
def wsX3_total : List Cond := .code yX3_total cX3_total 3 (some .int) :: ([.methodLink RX3 65 yX3_isRegister, .instanceMethod yX3_isRegister, .selects RX3 yX3_isRegister yX3_isRegister, .initialized RX3, .code yX3_isRegister cX3_isRegister 3 (some .boolean), .methodLink RX3 34 yX3_isReplica, .instanceMethod yX3_isReplica, .selects RX3 yX3_isReplica yX3_isReplica, .code yX3_isReplica cX3_isReplica 2 (some .boolean), .fieldLink RX3 7 "DotGossipModel" "replicas" "I", .methodLink RX3 38 yX3_refuses, .instanceMethod yX3_refuses, .selects RX3 yX3_refuses yX3_refuses, .code yX3_refuses cX3_refuses 2 (some .boolean), .fieldLink RX3 31 "DotGossipModel" "code" "I", .methodLink RX3 69 yX3_sum, .instanceMethod yX3_sum, .selects RX3 yX3_sum yX3_sum, .code yX3_sum cX3_sum 7 (some .int), .fieldLink RX3 21 "DotGossipModel" "sums" "[J"] ++ wsX30)
def wsX3_vector : List Cond := .code yX3_vector cX3_vector 3 (some .int) :: ([.fieldLink RX3 14 "DotGossipModel" "table" "[I", .methodLink RX3 34 yX3_isReplica, .instanceMethod yX3_isReplica, .selects RX3 yX3_isReplica yX3_isReplica, .initialized RX3, .code yX3_isReplica cX3_isReplica 2 (some .boolean), .fieldLink RX3 7 "DotGossipModel" "replicas" "I", .methodLink RX3 38 yX3_refuses, .instanceMethod yX3_refuses, .selects RX3 yX3_refuses yX3_refuses, .code yX3_refuses cX3_refuses 2 (some .boolean), .fieldLink RX3 31 "DotGossipModel" "code" "I", .methodLink RX3 48 yX3_vectorAt, .static yX3_vectorAt, .code yX3_vectorAt cX3_vectorAt 2 (some .int)] ++ wsX30)
def wsX3_same : List Cond := .code yX3_same cX3_same 6 (some .boolean) :: ([.fieldLink RX3 14 "DotGossipModel" "table" "[I", .fieldLink RX3 18 "DotGossipModel" "values" "[I", .fieldLink RX3 21 "DotGossipModel" "sums" "[J", .methodLink RX3 34 yX3_isReplica, .instanceMethod yX3_isReplica, .selects RX3 yX3_isReplica yX3_isReplica, .initialized RX3, .code yX3_isReplica cX3_isReplica 2 (some .boolean), .fieldLink RX3 7 "DotGossipModel" "replicas" "I", .methodLink RX3 38 yX3_refuses, .instanceMethod yX3_refuses, .selects RX3 yX3_refuses yX3_refuses, .code yX3_refuses cX3_refuses 2 (some .boolean), .fieldLink RX3 31 "DotGossipModel" "code" "I", .methodLink RX3 44 yX3_dots, .static yX3_dots, .code yX3_dots cX3_dots 2 (some .int)] ++ wsX30)
def wsX3_message : List Cond := .code yX3_message cX3_message 3 (some .int) :: ([.fieldLink RX3 31 "DotGossipModel" "code" "I", .fieldLink RX3 7 "DotGossipModel" "replicas" "I", .fieldLink RX3 41 "DotGossipModel" "messages" "I", .fieldLink RX3 25 "DotGossipModel" "from" "[I", .fieldLink RX3 28 "DotGossipModel" "to" "[I", .fieldLink RX3 14 "DotGossipModel" "table" "[I", .methodLink RX3 75 yX3_isMessage, .instanceMethod yX3_isMessage, .selects RX3 yX3_isMessage yX3_isMessage, .initialized RX3, .code yX3_isMessage cX3_isMessage 2 (some .boolean), .methodLink RX3 38 yX3_refuses, .instanceMethod yX3_refuses, .selects RX3 yX3_refuses yX3_refuses, .code yX3_refuses cX3_refuses 2 (some .boolean), .methodLink RX3 48 yX3_vectorAt, .static yX3_vectorAt, .code yX3_vectorAt cX3_vectorAt 2 (some .int)] ++ wsX30)
def wsJ9_max_7cf53 : List Cond := .code yJ9_max_7cf53 cJ9_max_7cf53 2 (some .int) :: ([])
def wsJ9_max_f86c9 : List Cond := .code yJ9_max_f86c9 cJ9_max_f86c9 4 (some .long) :: ([])
def wsJ9_min_7cf53 : List Cond := .code yJ9_min_7cf53 cJ9_min_7cf53 2 (some .int) :: ([])
def wsL_open_r1 : List Cond := [Cond.classLink RL 13 "java/lang/IllegalArgumentException", Cond.methodLink RL 7 yX2_open, Cond.instanceMethod yX2_open, Cond.selects RX2 yX2_open yX2_open, Cond.initialized RX2, Cond.code yX2_open cX2_open 3 none, Cond.fieldLink RX2 11 "DotGossip" "holdings" "[LDotGossip$Holding;", Cond.fieldLink RX2 19 "DotGossip" "wire" "Ljava/util/ArrayList;", Cond.fieldLink RX2 23 "DotGossip" "replicaCount" "I", Cond.methodLink RX2 27 yX2_require, Cond.static yX2_require, Cond.code yX2_require cX2_require 1 none, Cond.classLink RX2 131 "java/lang/IllegalArgumentException", Cond.initialized "java/lang/IllegalArgumentException", Cond.methodLink RX2 31 yX0_wipe, Cond.instanceMethod yX0_wipe, Cond.selects RX0 yX0_wipe yX0_wipe, Cond.initialized RX0, Cond.code yX0_wipe cX0_wipe 1 none, Cond.fieldLink RX0 9 "DotGossip$Holding" "seen" "[I", Cond.fieldLink RX0 15 "DotGossip$Holding" "numbers" "[I", Cond.fieldLink RX0 18 "DotGossip$Holding" "written" "[I", Cond.fieldLink RX0 21 "DotGossip$Holding" "added" "[J", Cond.fieldLink RX0 25 "DotGossip$Holding" "taken" "[J"]
def wsL_open_r2 : List Cond := [Cond.methodLink RX0 28 yJ7_fill_53178, Cond.static yJ7_fill_53178, Cond.initialized RJ7, Cond.code yJ7_fill_53178 cJ7_fill_53178 4 none, Cond.methodLink RX0 34 yJ7_fill_d0a16, Cond.static yJ7_fill_d0a16, Cond.code yJ7_fill_d0a16 cJ7_fill_d0a16 5 none, Cond.methodLink RX2 34 yJx4a65c_clear_da8c8, Cond.instanceMethod yJx4a65c_clear_da8c8, Cond.selects RJx4a65c yJx4a65c_clear_da8c8 yJx4a65c_clear_da8c8, Cond.initialized RJx4a65c, Cond.code yJx4a65c_clear_da8c8 cJx4a65c_clear_da8c8 4 none, Cond.fieldLink RJx4a65c 63 "java/util/ArrayList" "modCount" "I", Cond.sameField "java/util/ArrayList" "java/util/AbstractList" "modCount" "I", Cond.fieldLink RJx4a65c 9 "java/util/ArrayList" "elementData" "[Ljava/lang/Object;", Cond.fieldLink RJx4a65c 48 "java/util/ArrayList" "size" "I"]
def wsL_open : List Cond := .codeWith yL_open cL_open 3 (some .int) [(0, 5, 8, 13)] :: ((wsL_open_r1 ++ wsL_open_r2) ++ wsX20 ++ wsX00 ++ wsJx4a65c0 ++ (vx_at0 RX2 133 "java/lang/IllegalArgumentException" ["java/lang/RuntimeException", "java/lang/Exception"]).filter goodWord)
def wsL_add_r1 : List Cond := [Cond.classLink RL 13 "java/lang/IllegalArgumentException", Cond.methodLink RL 15 yX2_add, Cond.instanceMethod yX2_add, Cond.selects RX2 yX2_add yX2_add, Cond.initialized RX2, Cond.code yX2_add cX2_add 6 (some .int), Cond.fieldLink RX2 11 "DotGossip" "holdings" "[LDotGossip$Holding;", Cond.methodLink RX2 37 yX2_requireElement, Cond.instanceMethod yX2_requireElement, Cond.selects RX2 yX2_requireElement yX2_requireElement, Cond.code yX2_requireElement cX2_requireElement 4 none, Cond.methodLink RX2 52 yX2_requireReplica, Cond.instanceMethod yX2_requireReplica, Cond.selects RX2 yX2_requireReplica yX2_requireReplica, Cond.code yX2_requireReplica cX2_requireReplica 2 none, Cond.fieldLink RX2 23 "DotGossip" "replicaCount" "I", Cond.methodLink RX2 56 yX2_requireIndex, Cond.static yX2_requireIndex, Cond.code yX2_requireIndex cX2_requireIndex 2 none, Cond.methodLink RX2 27 yX2_require, Cond.static yX2_require, Cond.code yX2_require cX2_require 1 none, Cond.classLink RX2 131 "java/lang/IllegalArgumentException", Cond.initialized "java/lang/IllegalArgumentException"]
def wsL_add_r2 : List Cond := [Cond.methodLink RX2 41 yX2_placeOfElement, Cond.static yX2_placeOfElement, Cond.code yX2_placeOfElement cX2_placeOfElement 2 (some .int), Cond.methodLink RX2 45 yX0_forget, Cond.instanceMethod yX0_forget, Cond.selects RX0 yX0_forget yX0_forget, Cond.initialized RX0, Cond.code yX0_forget cX0_forget 4 (some .int), Cond.fieldLink RX0 15 "DotGossip$Holding" "numbers" "[I", Cond.methodLink RX0 44 yX0_dotsAt, Cond.instanceMethod yX0_dotsAt, Cond.selects RX0 yX0_dotsAt yX0_dotsAt, Cond.code yX0_dotsAt cX0_dotsAt 4 (some .int), Cond.methodLink RX2 49 yX0_makeDot, Cond.instanceMethod yX0_makeDot, Cond.selects RX0 yX0_makeDot yX0_makeDot, Cond.code yX0_makeDot cX0_makeDot 3 (some .int), Cond.fieldLink RX0 9 "DotGossip$Holding" "seen" "[I"]
def wsL_add : List Cond := .codeWith yL_add cL_add 6 (some .int) [(0, 12, 15, 13)] :: ((wsL_add_r1 ++ wsL_add_r2) ++ wsX20 ++ wsX00 ++ (vx_at0 RX2 133 "java/lang/IllegalArgumentException" ["java/lang/RuntimeException", "java/lang/Exception"]).filter goodWord)
def wsL_remove_r1 : List Cond := [Cond.classLink RL 13 "java/lang/IllegalArgumentException", Cond.methodLink RL 19 yX2_remove, Cond.instanceMethod yX2_remove, Cond.selects RX2 yX2_remove yX2_remove, Cond.initialized RX2, Cond.code yX2_remove cX2_remove 4 (some .int), Cond.fieldLink RX2 11 "DotGossip" "holdings" "[LDotGossip$Holding;", Cond.methodLink RX2 37 yX2_requireElement, Cond.instanceMethod yX2_requireElement, Cond.selects RX2 yX2_requireElement yX2_requireElement, Cond.code yX2_requireElement cX2_requireElement 4 none, Cond.methodLink RX2 52 yX2_requireReplica, Cond.instanceMethod yX2_requireReplica, Cond.selects RX2 yX2_requireReplica yX2_requireReplica, Cond.code yX2_requireReplica cX2_requireReplica 2 none, Cond.fieldLink RX2 23 "DotGossip" "replicaCount" "I", Cond.methodLink RX2 56 yX2_requireIndex, Cond.static yX2_requireIndex, Cond.code yX2_requireIndex cX2_requireIndex 2 none, Cond.methodLink RX2 27 yX2_require, Cond.static yX2_require, Cond.code yX2_require cX2_require 1 none, Cond.classLink RX2 131 "java/lang/IllegalArgumentException", Cond.initialized "java/lang/IllegalArgumentException"]
def wsL_remove_r2 : List Cond := [Cond.methodLink RX2 41 yX2_placeOfElement, Cond.static yX2_placeOfElement, Cond.code yX2_placeOfElement cX2_placeOfElement 2 (some .int), Cond.methodLink RX2 45 yX0_forget, Cond.instanceMethod yX0_forget, Cond.selects RX0 yX0_forget yX0_forget, Cond.initialized RX0, Cond.code yX0_forget cX0_forget 4 (some .int), Cond.fieldLink RX0 15 "DotGossip$Holding" "numbers" "[I", Cond.methodLink RX0 44 yX0_dotsAt, Cond.instanceMethod yX0_dotsAt, Cond.selects RX0 yX0_dotsAt yX0_dotsAt, Cond.code yX0_dotsAt cX0_dotsAt 4 (some .int)]
def wsL_remove : List Cond := .codeWith yL_remove cL_remove 6 (some .int) [(0, 12, 15, 13)] :: ((wsL_remove_r1 ++ wsL_remove_r2) ++ wsX20 ++ wsX00 ++ (vx_at0 RX2 133 "java/lang/IllegalArgumentException" ["java/lang/RuntimeException", "java/lang/Exception"]).filter goodWord)
def wsL_clear_r1 : List Cond := [Cond.classLink RL 13 "java/lang/IllegalArgumentException", Cond.methodLink RL 22 yX2_clear, Cond.instanceMethod yX2_clear, Cond.selects RX2 yX2_clear yX2_clear, Cond.initialized RX2, Cond.code yX2_clear cX2_clear 5 (some .int), Cond.fieldLink RX2 11 "DotGossip" "holdings" "[LDotGossip$Holding;", Cond.methodLink RX2 52 yX2_requireReplica, Cond.instanceMethod yX2_requireReplica, Cond.selects RX2 yX2_requireReplica yX2_requireReplica, Cond.code yX2_requireReplica cX2_requireReplica 2 none, Cond.fieldLink RX2 23 "DotGossip" "replicaCount" "I", Cond.methodLink RX2 56 yX2_requireIndex, Cond.static yX2_requireIndex, Cond.code yX2_requireIndex cX2_requireIndex 2 none, Cond.methodLink RX2 27 yX2_require, Cond.static yX2_require, Cond.code yX2_require cX2_require 1 none, Cond.classLink RX2 131 "java/lang/IllegalArgumentException", Cond.initialized "java/lang/IllegalArgumentException", Cond.methodLink RX2 41 yX2_placeOfElement, Cond.static yX2_placeOfElement, Cond.code yX2_placeOfElement cX2_placeOfElement 2 (some .int), Cond.methodLink RX2 45 yX0_forget]
def wsL_clear_r2 : List Cond := [Cond.instanceMethod yX0_forget, Cond.selects RX0 yX0_forget yX0_forget, Cond.initialized RX0, Cond.code yX0_forget cX0_forget 4 (some .int), Cond.fieldLink RX0 15 "DotGossip$Holding" "numbers" "[I", Cond.methodLink RX0 44 yX0_dotsAt, Cond.instanceMethod yX0_dotsAt, Cond.selects RX0 yX0_dotsAt yX0_dotsAt, Cond.code yX0_dotsAt cX0_dotsAt 4 (some .int)]
def wsL_clear : List Cond := .codeWith yL_clear cL_clear 5 (some .int) [(0, 10, 13, 13)] :: ((wsL_clear_r1 ++ wsL_clear_r2) ++ wsX20 ++ wsX00 ++ (vx_at0 RX2 133 "java/lang/IllegalArgumentException" ["java/lang/RuntimeException", "java/lang/Exception"]).filter goodWord)
def wsL_write_r1 : List Cond := [Cond.classLink RL 13 "java/lang/IllegalArgumentException", Cond.methodLink RL 26 yX2_write, Cond.instanceMethod yX2_write, Cond.selects RX2 yX2_write yX2_write, Cond.initialized RX2, Cond.code yX2_write cX2_write 7 (some .int), Cond.fieldLink RX2 11 "DotGossip" "holdings" "[LDotGossip$Holding;", Cond.fieldLink RX2 60 "DotGossip$Holding" "written" "[I", Cond.methodLink RX2 52 yX2_requireReplica, Cond.instanceMethod yX2_requireReplica, Cond.selects RX2 yX2_requireReplica yX2_requireReplica, Cond.code yX2_requireReplica cX2_requireReplica 2 none, Cond.fieldLink RX2 23 "DotGossip" "replicaCount" "I", Cond.methodLink RX2 56 yX2_requireIndex, Cond.static yX2_requireIndex, Cond.code yX2_requireIndex cX2_requireIndex 2 none, Cond.methodLink RX2 27 yX2_require, Cond.static yX2_require, Cond.code yX2_require cX2_require 1 none, Cond.classLink RX2 131 "java/lang/IllegalArgumentException", Cond.initialized "java/lang/IllegalArgumentException", Cond.methodLink RX2 45 yX0_forget, Cond.instanceMethod yX0_forget, Cond.selects RX0 yX0_forget yX0_forget]
def wsL_write_r2 : List Cond := [Cond.initialized RX0, Cond.code yX0_forget cX0_forget 4 (some .int), Cond.fieldLink RX0 15 "DotGossip$Holding" "numbers" "[I", Cond.methodLink RX0 44 yX0_dotsAt, Cond.instanceMethod yX0_dotsAt, Cond.selects RX0 yX0_dotsAt yX0_dotsAt, Cond.code yX0_dotsAt cX0_dotsAt 4 (some .int), Cond.methodLink RX2 49 yX0_makeDot, Cond.instanceMethod yX0_makeDot, Cond.selects RX0 yX0_makeDot yX0_makeDot, Cond.code yX0_makeDot cX0_makeDot 3 (some .int), Cond.fieldLink RX0 9 "DotGossip$Holding" "seen" "[I"]
def wsL_write : List Cond := .codeWith yL_write cL_write 6 (some .int) [(0, 12, 15, 13)] :: ((wsL_write_r1 ++ wsL_write_r2) ++ wsX20 ++ wsX00 ++ (vx_at0 RX2 133 "java/lang/IllegalArgumentException" ["java/lang/RuntimeException", "java/lang/Exception"]).filter goodWord)
def wsL_count_r1 : List Cond := [Cond.classLink RL 13 "java/lang/IllegalArgumentException", Cond.methodLink RL 29 yX2_count, Cond.instanceMethod yX2_count, Cond.selects RX2 yX2_count yX2_count, Cond.initialized RX2, Cond.code yX2_count cX2_count 6 (some .int), Cond.fieldLink RX2 11 "DotGossip" "holdings" "[LDotGossip$Holding;", Cond.fieldLink RX2 64 "DotGossip$Holding" "added" "[J", Cond.fieldLink RX2 68 "DotGossip$Holding" "taken" "[J", Cond.methodLink RX2 52 yX2_requireReplica, Cond.instanceMethod yX2_requireReplica, Cond.selects RX2 yX2_requireReplica yX2_requireReplica, Cond.code yX2_requireReplica cX2_requireReplica 2 none, Cond.fieldLink RX2 23 "DotGossip" "replicaCount" "I", Cond.methodLink RX2 56 yX2_requireIndex, Cond.static yX2_requireIndex, Cond.code yX2_requireIndex cX2_requireIndex 2 none, Cond.methodLink RX2 27 yX2_require, Cond.static yX2_require, Cond.code yX2_require cX2_require 1 none, Cond.classLink RX2 131 "java/lang/IllegalArgumentException", Cond.initialized "java/lang/IllegalArgumentException", Cond.methodLink RX2 71 yX0_worth, Cond.instanceMethod yX0_worth]
def wsL_count_r2 : List Cond := [Cond.selects RX0 yX0_worth yX0_worth, Cond.initialized RX0, Cond.code yX0_worth cX0_worth 6 (some .int), Cond.fieldLink RX0 21 "DotGossip$Holding" "added" "[J", Cond.fieldLink RX0 25 "DotGossip$Holding" "taken" "[J"]
def wsL_count : List Cond := .codeWith yL_count cL_count 6 (some .int) [(0, 12, 15, 13)] :: ((wsL_count_r1 ++ wsL_count_r2) ++ wsX20 ++ wsX00 ++ (vx_at0 RX2 133 "java/lang/IllegalArgumentException" ["java/lang/RuntimeException", "java/lang/Exception"]).filter goodWord)
def wsL_gossip_r1 : List Cond := [Cond.classLink RL 13 "java/lang/IllegalArgumentException", Cond.classLink RL 35 "java/lang/IllegalStateException", Cond.methodLink RL 32 yX2_gossip, Cond.instanceMethod yX2_gossip, Cond.selects RX2 yX2_gossip yX2_gossip, Cond.initialized RX2, Cond.code yX2_gossip cX2_gossip 3 (some .int), Cond.classLink RX2 78 "java/lang/IllegalStateException", Cond.initialized "java/lang/IllegalStateException", Cond.fieldLink RX2 19 "DotGossip" "wire" "Ljava/util/ArrayList;", Cond.classLink RX2 81 RX1, Cond.instantiable RX1 3, Cond.initialized RX1, Cond.fieldLink RX2 11 "DotGossip" "holdings" "[LDotGossip$Holding;", Cond.methodLink RX2 52 yX2_requireReplica, Cond.instanceMethod yX2_requireReplica, Cond.selects RX2 yX2_requireReplica yX2_requireReplica, Cond.code yX2_requireReplica cX2_requireReplica 2 none, Cond.fieldLink RX2 23 "DotGossip" "replicaCount" "I", Cond.methodLink RX2 56 yX2_requireIndex, Cond.static yX2_requireIndex, Cond.code yX2_requireIndex cX2_requireIndex 2 none, Cond.methodLink RX2 27 yX2_require, Cond.static yX2_require]
def wsL_gossip_r2 : List Cond := [Cond.code yX2_require cX2_require 1 none, Cond.classLink RX2 131 "java/lang/IllegalArgumentException", Cond.initialized "java/lang/IllegalArgumentException", Cond.methodLink RX2 74 yJx4a65c_size_8abf5, Cond.instanceMethod yJx4a65c_size_8abf5, Cond.selects RJx4a65c yJx4a65c_size_8abf5 yJx4a65c_size_8abf5, Cond.initialized RJx4a65c, Cond.code yJx4a65c_size_8abf5 cJx4a65c_size_8abf5 1 (some .int), Cond.fieldLink RJx4a65c 48 "java/util/ArrayList" "size" "I", Cond.methodLink RX2 83 yX0_snapshot, Cond.instanceMethod yX0_snapshot, Cond.selects RX0 yX0_snapshot yX0_snapshot, Cond.initialized RX0, Cond.code yX0_snapshot cX0_snapshot 2 (some (.object "DotGossip$Holding")), Cond.classLink RX0 10 RX0, Cond.instantiable RX0 5, Cond.fieldLink RX0 9 "DotGossip$Holding" "seen" "[I", Cond.methodLink RX0 38 arraycopyName, Cond.native arraycopyName, Cond.static arraycopyName, Cond.initialized "java/lang/System", Cond.fieldLink RX0 15 "DotGossip$Holding" "numbers" "[I", Cond.fieldLink RX0 18 "DotGossip$Holding" "written" "[I", Cond.fieldLink RX0 21 "DotGossip$Holding" "added" "[J"]
def wsL_gossip_r3 : List Cond := [Cond.fieldLink RX0 25 "DotGossip$Holding" "taken" "[J", Cond.methodLink RX0 37 yX0_init, Cond.instanceMethod yX0_init, Cond.code yX0_init cX0_init 1 none, Cond.methodLink RX0 3 objectInit, Cond.instanceMethod objectInit, Cond.code objectInit ⟨#[0xb1]⟩ 1 none, Cond.arrayClass .int, Cond.arrayClass .long, Cond.methodLink RX2 87 yX1_init, Cond.instanceMethod yX1_init, Cond.code yX1_init cX1_init 4 none, Cond.methodLink RX1 1 objectInit, Cond.fieldLink RX1 7 "DotGossip$Message" "from" "I", Cond.fieldLink RX1 13 "DotGossip$Message" "to" "I", Cond.fieldLink RX1 16 "DotGossip$Message" "sent" "LDotGossip$Holding;", Cond.methodLink RX2 90 yJx4a65c_add_9ea2d, Cond.instanceMethod yJx4a65c_add_9ea2d, Cond.selects RJx4a65c yJx4a65c_add_9ea2d yJx4a65c_add_9ea2d, Cond.code yJx4a65c_add_9ea2d cJx4a65c_add_9ea2d 2 (some .boolean), Cond.fieldLink RJx4a65c 63 "java/util/ArrayList" "modCount" "I", Cond.sameField "java/util/ArrayList" "java/util/AbstractList" "modCount" "I", Cond.fieldLink RJx4a65c 9 "java/util/ArrayList" "elementData" "[Ljava/lang/Object;", Cond.methodLink RJx4a65c 131 yJx4a65c_add_72be8]
def wsL_gossip_r4 : List Cond := [Cond.instanceMethod yJx4a65c_add_72be8, Cond.selects RJx4a65c yJx4a65c_add_72be8 yJx4a65c_add_72be8, Cond.code yJx4a65c_add_72be8 cJx4a65c_add_72be8 4 none, Cond.methodLink RJx4a65c 129 yJx4a65c_grow_d5877, Cond.instanceMethod yJx4a65c_grow_d5877, Cond.selects RJx4a65c yJx4a65c_grow_d5877 yJx4a65c_grow_d5877, Cond.code yJx4a65c_grow_d5877 cJx4a65c_grow_d5877 1 (some (.array (.object "java/lang/Object"))), Cond.methodLink RJx4a65c 69 yJx4a65c_grow_92f84, Cond.instanceMethod yJx4a65c_grow_92f84, Cond.selects RJx4a65c yJx4a65c_grow_92f84 yJx4a65c_grow_92f84, Cond.code yJx4a65c_grow_92f84 cJx4a65c_grow_92f84 4 (some (.array (.object "java/lang/Object"))), Cond.fieldLink RJx4a65c 39 "java/util/ArrayList" "DEFAULTCAPACITY_EMPTY_ELEMENTDATA" "[Ljava/lang/Object;", Cond.methodLink RJx4a65c 79 Lib.Math.max.name, Cond.static Lib.Math.max.name, Cond.initialized "java/lang/Math", Cond.code Lib.Math.max.name Lib.Math.max.code 2 (some .int), Cond.classLink RJx4a65c 7 "java/lang/Object", Cond.methodLink RJx4a65c 73 yJ8_newLength_cabcc, Cond.static yJ8_newLength_cabcc, Cond.initialized RJ8, Cond.code yJ8_newLength_cabcc cJ8_newLength_cabcc 4 (some .int), Cond.methodLink RJ8 194 Lib.Math.max.name, Cond.constant RJ8 200 (2147483639), Cond.methodLink RJ8 201 yJ8_hugeLength_7cf53]
def wsL_gossip_r5 : List Cond := [Cond.static yJ8_hugeLength_7cf53, Cond.code yJ8_hugeLength_7cf53 cJ8_hugeLength_7cf53 3 (some .int), Cond.methodLink RJx4a65c 66 yJ7_copyOf_1904c, Cond.static yJ7_copyOf_1904c, Cond.initialized RJ7, Cond.code yJ7_copyOf_1904c cJ7_copyOf_1904c 2 (some (.array (.object "java/lang/Object"))), Cond.methodLink RJ7 86 ⟨"java/lang/Object", "getClass", "()Ljava/lang/Class;"⟩, Cond.selects "[Ljava/lang/Object;" ⟨"java/lang/Object", "getClass", "()Ljava/lang/Class;"⟩ ⟨"java/lang/Object", "getClass", "()Ljava/lang/Class;"⟩, Cond.instanceMethod ⟨"java/lang/Object", "getClass", "()Ljava/lang/Class;"⟩, Cond.native ⟨"java/lang/Object", "getClass", "()Ljava/lang/Class;"⟩, Cond.methodLink RJ7 300 yJ7_copyOf_6403c, Cond.static yJ7_copyOf_6403c, Cond.code yJ7_copyOf_6403c cJ7_copyOf_6403c 4 (some (.array (.object "java/lang/Object"))), Cond.classLink RJ7 110 "[Ljava/lang/Object;", Cond.classLink RJ7 2 "java/lang/Object", Cond.methodLink RJ7 304 Lib.Math.min.name, Cond.static Lib.Math.min.name, Cond.code Lib.Math.min.name Lib.Math.min.code 2 (some .int), Cond.methodLink RJ7 150 arraycopyName]
def wsL_gossip : List Cond := .codeWith yL_gossip cL_gossip 5 (some .int) [(0, 10, 13, 13), (0, 10, 17, 35)] :: ((wsL_gossip_r1 ++ (wsL_gossip_r2 ++ (wsL_gossip_r3 ++ (wsL_gossip_r4 ++ wsL_gossip_r5)))) ++ wsX20 ++ wsX10 ++ wsJx4a65c0 ++ wsX00 ++ (vx_at0 RX2 80 "java/lang/IllegalStateException" ["java/lang/RuntimeException", "java/lang/Exception"]).filter goodWord ++ (vx_at0 RX2 133 "java/lang/IllegalArgumentException" ["java/lang/RuntimeException", "java/lang/Exception"]).filter goodWord)
def wsL_deliver_r1 : List Cond := [Cond.classLink RL 13 "java/lang/IllegalArgumentException", Cond.methodLink RL 37 yX2_deliver, Cond.instanceMethod yX2_deliver, Cond.selects RX2 yX2_deliver yX2_deliver, Cond.initialized RX2, Cond.code yX2_deliver cX2_deliver 3 (some .int), Cond.fieldLink RX2 19 "DotGossip" "wire" "Ljava/util/ArrayList;", Cond.classLink RX2 81 "DotGossip$Message", Cond.fieldLink RX2 11 "DotGossip" "holdings" "[LDotGossip$Holding;", Cond.fieldLink RX2 98 "DotGossip$Message" "to" "I", Cond.fieldLink RX2 101 "DotGossip$Message" "sent" "LDotGossip$Holding;", Cond.methodLink RX2 74 yJx4a65c_size_8abf5, Cond.instanceMethod yJx4a65c_size_8abf5, Cond.selects RJx4a65c yJx4a65c_size_8abf5 yJx4a65c_size_8abf5, Cond.initialized RJx4a65c, Cond.code yJx4a65c_size_8abf5 cJx4a65c_size_8abf5 1 (some .int), Cond.fieldLink RJx4a65c 48 "java/util/ArrayList" "size" "I", Cond.methodLink RX2 56 yX2_requireIndex, Cond.static yX2_requireIndex, Cond.code yX2_requireIndex cX2_requireIndex 2 none, Cond.methodLink RX2 27 yX2_require, Cond.static yX2_require, Cond.code yX2_require cX2_require 1 none, Cond.classLink RX2 131 "java/lang/IllegalArgumentException"]
def wsL_deliver_r2 : List Cond := [Cond.initialized "java/lang/IllegalArgumentException", Cond.methodLink RX2 94 yJx4a65c_remove_915e3, Cond.instanceMethod yJx4a65c_remove_915e3, Cond.selects RJx4a65c yJx4a65c_remove_915e3 yJx4a65c_remove_915e3, Cond.code yJx4a65c_remove_915e3 cJx4a65c_remove_915e3 4 (some (.object "java/lang/Object")), Cond.fieldLink RJx4a65c 9 "java/util/ArrayList" "elementData" "[Ljava/lang/Object;", Cond.methodLink RJx4a65c 118 yJ15_checkIndex_7cf53, Cond.static yJ15_checkIndex_7cf53, Cond.initialized RJ15, Cond.code yJ15_checkIndex_7cf53 cJ15_checkIndex_7cf53 2 (some .int), Cond.methodLink RJ15 105 yJ3_checkIndex_8e157, Cond.static yJ3_checkIndex_8e157, Cond.initialized RJ3, Cond.code yJ3_checkIndex_8e157 cJ3_checkIndex_8e157 3 (some .int), Cond.methodLink RJx4a65c 144 yJx4a65c_fastRemove_b59b0, Cond.instanceMethod yJx4a65c_fastRemove_b59b0, Cond.selects RJx4a65c yJx4a65c_fastRemove_b59b0 yJx4a65c_fastRemove_b59b0, Cond.code yJx4a65c_fastRemove_b59b0 cJx4a65c_fastRemove_b59b0 4 none, Cond.fieldLink RJx4a65c 63 "java/util/ArrayList" "modCount" "I", Cond.sameField "java/util/ArrayList" "java/util/AbstractList" "modCount" "I", Cond.methodLink RJx4a65c 112 arraycopyName, Cond.native arraycopyName, Cond.static arraycopyName, Cond.initialized "java/lang/System"]
def wsL_deliver_r3 : List Cond := [Cond.methodLink RX2 105 yX0_merge, Cond.instanceMethod yX0_merge, Cond.selects RX0 yX0_merge yX0_merge, Cond.initialized RX0, Cond.code yX0_merge cX0_merge 5 (some .int), Cond.fieldLink RX0 9 "DotGossip$Holding" "seen" "[I", Cond.methodLink RX0 52 Lib.Math.max.name, Cond.static Lib.Math.max.name, Cond.initialized "java/lang/Math", Cond.code Lib.Math.max.name Lib.Math.max.code 2 (some .int), Cond.fieldLink RX0 21 "DotGossip$Holding" "added" "[J", Cond.methodLink RX0 58 Lib.MathLoose.max_long.x, Cond.static Lib.MathLoose.max_long.x, Cond.code Lib.MathLoose.max_long.x Lib.MathLoose.max_long.code 4 (some .long), Cond.fieldLink RX0 25 "DotGossip$Holding" "taken" "[J", Cond.methodLink RX0 48 yX0_mergeDot, Cond.instanceMethod yX0_mergeDot, Cond.selects RX0 yX0_mergeDot yX0_mergeDot, Cond.code yX0_mergeDot cX0_mergeDot 7 (some .boolean), Cond.fieldLink RX0 15 "DotGossip$Holding" "numbers" "[I", Cond.fieldLink RX0 18 "DotGossip$Holding" "written" "[I"]
def wsL_deliver : List Cond := .codeWith yL_deliver cL_deliver 4 (some .int) [(0, 9, 12, 13)] :: ((wsL_deliver_r1 ++ (wsL_deliver_r2 ++ wsL_deliver_r3)) ++ wsX20 ++ wsX10 ++ wsJx4a65c0 ++ wsX00 ++ (vx_at0 RX2 133 "java/lang/IllegalArgumentException" ["java/lang/RuntimeException", "java/lang/Exception"]).filter goodWord)
def wsL_drop_r1 : List Cond := [Cond.classLink RL 13 "java/lang/IllegalArgumentException", Cond.methodLink RL 41 yX2_drop, Cond.instanceMethod yX2_drop, Cond.selects RX2 yX2_drop yX2_drop, Cond.initialized RX2, Cond.code yX2_drop cX2_drop 2 (some .int), Cond.fieldLink RX2 19 "DotGossip" "wire" "Ljava/util/ArrayList;", Cond.classLink RX2 81 "DotGossip$Message", Cond.fieldLink RX2 98 "DotGossip$Message" "to" "I", Cond.methodLink RX2 74 yJx4a65c_size_8abf5, Cond.instanceMethod yJx4a65c_size_8abf5, Cond.selects RJx4a65c yJx4a65c_size_8abf5 yJx4a65c_size_8abf5, Cond.initialized RJx4a65c, Cond.code yJx4a65c_size_8abf5 cJx4a65c_size_8abf5 1 (some .int), Cond.fieldLink RJx4a65c 48 "java/util/ArrayList" "size" "I", Cond.methodLink RX2 56 yX2_requireIndex, Cond.static yX2_requireIndex, Cond.code yX2_requireIndex cX2_requireIndex 2 none, Cond.methodLink RX2 27 yX2_require, Cond.static yX2_require, Cond.code yX2_require cX2_require 1 none, Cond.classLink RX2 131 "java/lang/IllegalArgumentException", Cond.initialized "java/lang/IllegalArgumentException", Cond.methodLink RX2 94 yJx4a65c_remove_915e3]
def wsL_drop_r2 : List Cond := [Cond.instanceMethod yJx4a65c_remove_915e3, Cond.selects RJx4a65c yJx4a65c_remove_915e3 yJx4a65c_remove_915e3, Cond.code yJx4a65c_remove_915e3 cJx4a65c_remove_915e3 4 (some (.object "java/lang/Object")), Cond.fieldLink RJx4a65c 9 "java/util/ArrayList" "elementData" "[Ljava/lang/Object;", Cond.methodLink RJx4a65c 118 yJ15_checkIndex_7cf53, Cond.static yJ15_checkIndex_7cf53, Cond.initialized RJ15, Cond.code yJ15_checkIndex_7cf53 cJ15_checkIndex_7cf53 2 (some .int), Cond.methodLink RJ15 105 yJ3_checkIndex_8e157, Cond.static yJ3_checkIndex_8e157, Cond.initialized RJ3, Cond.code yJ3_checkIndex_8e157 cJ3_checkIndex_8e157 3 (some .int), Cond.methodLink RJx4a65c 144 yJx4a65c_fastRemove_b59b0, Cond.instanceMethod yJx4a65c_fastRemove_b59b0, Cond.selects RJx4a65c yJx4a65c_fastRemove_b59b0 yJx4a65c_fastRemove_b59b0, Cond.code yJx4a65c_fastRemove_b59b0 cJx4a65c_fastRemove_b59b0 4 none, Cond.fieldLink RJx4a65c 63 "java/util/ArrayList" "modCount" "I", Cond.sameField "java/util/ArrayList" "java/util/AbstractList" "modCount" "I", Cond.methodLink RJx4a65c 112 arraycopyName, Cond.native arraycopyName, Cond.static arraycopyName, Cond.initialized "java/lang/System"]
def wsL_drop : List Cond := .codeWith yL_drop cL_drop 4 (some .int) [(0, 9, 12, 13)] :: ((wsL_drop_r1 ++ wsL_drop_r2) ++ wsX20 ++ wsX10 ++ wsJx4a65c0 ++ (vx_at0 RX2 133 "java/lang/IllegalArgumentException" ["java/lang/RuntimeException", "java/lang/Exception"]).filter goodWord)
def wsL_copy_r1 : List Cond := [Cond.classLink RL 13 "java/lang/IllegalArgumentException", Cond.methodLink RL 44 yX2_copy, Cond.instanceMethod yX2_copy, Cond.selects RX2 yX2_copy yX2_copy, Cond.initialized RX2, Cond.code yX2_copy cX2_copy 3 (some .boolean), Cond.fieldLink RX2 19 "DotGossip" "wire" "Ljava/util/ArrayList;", Cond.classLink RX2 81 "DotGossip$Message", Cond.classLink RX2 81 RX1, Cond.instantiable RX1 3, Cond.initialized RX1, Cond.fieldLink RX2 112 "DotGossip$Message" "from" "I", Cond.fieldLink RX2 98 "DotGossip$Message" "to" "I", Cond.fieldLink RX2 101 "DotGossip$Message" "sent" "LDotGossip$Holding;", Cond.methodLink RX2 74 yJx4a65c_size_8abf5, Cond.instanceMethod yJx4a65c_size_8abf5, Cond.selects RJx4a65c yJx4a65c_size_8abf5 yJx4a65c_size_8abf5, Cond.initialized RJx4a65c, Cond.code yJx4a65c_size_8abf5 cJx4a65c_size_8abf5 1 (some .int), Cond.fieldLink RJx4a65c 48 "java/util/ArrayList" "size" "I", Cond.methodLink RX2 56 yX2_requireIndex, Cond.static yX2_requireIndex, Cond.code yX2_requireIndex cX2_requireIndex 2 none, Cond.methodLink RX2 27 yX2_require]
def wsL_copy_r2 : List Cond := [Cond.static yX2_require, Cond.code yX2_require cX2_require 1 none, Cond.classLink RX2 131 "java/lang/IllegalArgumentException", Cond.initialized "java/lang/IllegalArgumentException", Cond.methodLink RX2 109 yJx4a65c_get_915e3, Cond.instanceMethod yJx4a65c_get_915e3, Cond.selects RJx4a65c yJx4a65c_get_915e3 yJx4a65c_get_915e3, Cond.code yJx4a65c_get_915e3 cJx4a65c_get_915e3 2 (some (.object "java/lang/Object")), Cond.methodLink RJx4a65c 118 yJ15_checkIndex_7cf53, Cond.static yJ15_checkIndex_7cf53, Cond.initialized RJ15, Cond.code yJ15_checkIndex_7cf53 cJ15_checkIndex_7cf53 2 (some .int), Cond.methodLink RJ15 105 yJ3_checkIndex_8e157, Cond.static yJ3_checkIndex_8e157, Cond.initialized RJ3, Cond.code yJ3_checkIndex_8e157 cJ3_checkIndex_8e157 3 (some .int), Cond.methodLink RJx4a65c 123 yJx4a65c_elementData_915e3, Cond.instanceMethod yJx4a65c_elementData_915e3, Cond.selects RJx4a65c yJx4a65c_elementData_915e3 yJx4a65c_elementData_915e3, Cond.code yJx4a65c_elementData_915e3 cJx4a65c_elementData_915e3 2 (some (.object "java/lang/Object")), Cond.fieldLink RJx4a65c 9 "java/util/ArrayList" "elementData" "[Ljava/lang/Object;", Cond.methodLink RX2 87 yX1_init, Cond.instanceMethod yX1_init, Cond.code yX1_init cX1_init 4 none]
def wsL_copy_r3 : List Cond := [Cond.methodLink RX1 1 objectInit, Cond.instanceMethod objectInit, Cond.code objectInit ⟨#[0xb1]⟩ 1 none, Cond.fieldLink RX1 7 "DotGossip$Message" "from" "I", Cond.fieldLink RX1 13 "DotGossip$Message" "to" "I", Cond.fieldLink RX1 16 "DotGossip$Message" "sent" "LDotGossip$Holding;", Cond.methodLink RX2 90 yJx4a65c_add_9ea2d, Cond.instanceMethod yJx4a65c_add_9ea2d, Cond.selects RJx4a65c yJx4a65c_add_9ea2d yJx4a65c_add_9ea2d, Cond.code yJx4a65c_add_9ea2d cJx4a65c_add_9ea2d 2 (some .boolean), Cond.fieldLink RJx4a65c 63 "java/util/ArrayList" "modCount" "I", Cond.sameField "java/util/ArrayList" "java/util/AbstractList" "modCount" "I", Cond.methodLink RJx4a65c 131 yJx4a65c_add_72be8, Cond.instanceMethod yJx4a65c_add_72be8, Cond.selects RJx4a65c yJx4a65c_add_72be8 yJx4a65c_add_72be8, Cond.code yJx4a65c_add_72be8 cJx4a65c_add_72be8 4 none, Cond.methodLink RJx4a65c 129 yJx4a65c_grow_d5877, Cond.instanceMethod yJx4a65c_grow_d5877, Cond.selects RJx4a65c yJx4a65c_grow_d5877 yJx4a65c_grow_d5877, Cond.code yJx4a65c_grow_d5877 cJx4a65c_grow_d5877 1 (some (.array (.object "java/lang/Object"))), Cond.methodLink RJx4a65c 69 yJx4a65c_grow_92f84, Cond.instanceMethod yJx4a65c_grow_92f84, Cond.selects RJx4a65c yJx4a65c_grow_92f84 yJx4a65c_grow_92f84, Cond.code yJx4a65c_grow_92f84 cJx4a65c_grow_92f84 4 (some (.array (.object "java/lang/Object")))]
def wsL_copy_r4 : List Cond := [Cond.fieldLink RJx4a65c 39 "java/util/ArrayList" "DEFAULTCAPACITY_EMPTY_ELEMENTDATA" "[Ljava/lang/Object;", Cond.methodLink RJx4a65c 79 Lib.Math.max.name, Cond.static Lib.Math.max.name, Cond.initialized "java/lang/Math", Cond.code Lib.Math.max.name Lib.Math.max.code 2 (some .int), Cond.classLink RJx4a65c 7 "java/lang/Object", Cond.methodLink RJx4a65c 73 yJ8_newLength_cabcc, Cond.static yJ8_newLength_cabcc, Cond.initialized RJ8, Cond.code yJ8_newLength_cabcc cJ8_newLength_cabcc 4 (some .int), Cond.methodLink RJ8 194 Lib.Math.max.name, Cond.constant RJ8 200 (2147483639), Cond.methodLink RJ8 201 yJ8_hugeLength_7cf53, Cond.static yJ8_hugeLength_7cf53, Cond.code yJ8_hugeLength_7cf53 cJ8_hugeLength_7cf53 3 (some .int), Cond.methodLink RJx4a65c 66 yJ7_copyOf_1904c, Cond.static yJ7_copyOf_1904c, Cond.initialized RJ7, Cond.code yJ7_copyOf_1904c cJ7_copyOf_1904c 2 (some (.array (.object "java/lang/Object"))), Cond.methodLink RJ7 86 ⟨"java/lang/Object", "getClass", "()Ljava/lang/Class;"⟩, Cond.selects "[Ljava/lang/Object;" ⟨"java/lang/Object", "getClass", "()Ljava/lang/Class;"⟩ ⟨"java/lang/Object", "getClass", "()Ljava/lang/Class;"⟩, Cond.instanceMethod ⟨"java/lang/Object", "getClass", "()Ljava/lang/Class;"⟩, Cond.native ⟨"java/lang/Object", "getClass", "()Ljava/lang/Class;"⟩, Cond.methodLink RJ7 300 yJ7_copyOf_6403c]
def wsL_copy_r5 : List Cond := [Cond.static yJ7_copyOf_6403c, Cond.code yJ7_copyOf_6403c cJ7_copyOf_6403c 4 (some (.array (.object "java/lang/Object"))), Cond.classLink RJ7 110 "[Ljava/lang/Object;", Cond.classLink RJ7 2 "java/lang/Object", Cond.methodLink RJ7 304 Lib.Math.min.name, Cond.static Lib.Math.min.name, Cond.code Lib.Math.min.name Lib.Math.min.code 2 (some .int), Cond.methodLink RJ7 150 arraycopyName, Cond.native arraycopyName, Cond.static arraycopyName, Cond.initialized "java/lang/System"]
def wsL_copy : List Cond := .codeWith yL_copy cL_copy 4 (some .int) [(0, 16, 19, 13)] :: ((wsL_copy_r1 ++ (wsL_copy_r2 ++ (wsL_copy_r3 ++ (wsL_copy_r4 ++ wsL_copy_r5)))) ++ wsX20 ++ wsX10 ++ wsJx4a65c0 ++ (vx_at0 RX2 133 "java/lang/IllegalArgumentException" ["java/lang/RuntimeException", "java/lang/Exception"]).filter goodWord)
def wsL_turn_r1 : List Cond := [Cond.classLink RL 13 "java/lang/IllegalArgumentException", Cond.methodLink RL 48 yX2_turn, Cond.instanceMethod yX2_turn, Cond.selects RX2 yX2_turn yX2_turn, Cond.initialized RX2, Cond.code yX2_turn cX2_turn 3 none, Cond.fieldLink RX2 19 "DotGossip" "wire" "Ljava/util/ArrayList;", Cond.classLink RX2 81 "DotGossip$Message", Cond.fieldLink RX2 98 "DotGossip$Message" "to" "I", Cond.methodLink RX2 74 yJx4a65c_size_8abf5, Cond.instanceMethod yJx4a65c_size_8abf5, Cond.selects RJx4a65c yJx4a65c_size_8abf5 yJx4a65c_size_8abf5, Cond.initialized RJx4a65c, Cond.code yJx4a65c_size_8abf5 cJx4a65c_size_8abf5 1 (some .int), Cond.fieldLink RJx4a65c 48 "java/util/ArrayList" "size" "I", Cond.methodLink RX2 56 yX2_requireIndex, Cond.static yX2_requireIndex, Cond.code yX2_requireIndex cX2_requireIndex 2 none, Cond.methodLink RX2 27 yX2_require, Cond.static yX2_require, Cond.code yX2_require cX2_require 1 none, Cond.classLink RX2 131 "java/lang/IllegalArgumentException", Cond.initialized "java/lang/IllegalArgumentException", Cond.methodLink RX2 52 yX2_requireReplica]
def wsL_turn_r2 : List Cond := [Cond.instanceMethod yX2_requireReplica, Cond.selects RX2 yX2_requireReplica yX2_requireReplica, Cond.code yX2_requireReplica cX2_requireReplica 2 none, Cond.fieldLink RX2 23 "DotGossip" "replicaCount" "I", Cond.methodLink RX2 109 yJx4a65c_get_915e3, Cond.instanceMethod yJx4a65c_get_915e3, Cond.selects RJx4a65c yJx4a65c_get_915e3 yJx4a65c_get_915e3, Cond.code yJx4a65c_get_915e3 cJx4a65c_get_915e3 2 (some (.object "java/lang/Object")), Cond.methodLink RJx4a65c 118 yJ15_checkIndex_7cf53, Cond.static yJ15_checkIndex_7cf53, Cond.initialized RJ15, Cond.code yJ15_checkIndex_7cf53 cJ15_checkIndex_7cf53 2 (some .int), Cond.methodLink RJ15 105 yJ3_checkIndex_8e157, Cond.static yJ3_checkIndex_8e157, Cond.initialized RJ3, Cond.code yJ3_checkIndex_8e157 cJ3_checkIndex_8e157 3 (some .int), Cond.methodLink RJx4a65c 123 yJx4a65c_elementData_915e3, Cond.instanceMethod yJx4a65c_elementData_915e3, Cond.selects RJx4a65c yJx4a65c_elementData_915e3 yJx4a65c_elementData_915e3, Cond.code yJx4a65c_elementData_915e3 cJx4a65c_elementData_915e3 2 (some (.object "java/lang/Object")), Cond.fieldLink RJx4a65c 9 "java/util/ArrayList" "elementData" "[Ljava/lang/Object;"]
def wsL_turn : List Cond := .codeWith yL_turn cL_turn 4 (some .int) [(0, 6, 9, 13)] :: ((wsL_turn_r1 ++ wsL_turn_r2) ++ wsX20 ++ wsX10 ++ wsJx4a65c0 ++ (vx_at0 RX2 133 "java/lang/IllegalArgumentException" ["java/lang/RuntimeException", "java/lang/Exception"]).filter goodWord)
def wsL_contains_r1 : List Cond := [Cond.classLink RL 13 "java/lang/IllegalArgumentException", Cond.methodLink RL 52 yX2_contains, Cond.instanceMethod yX2_contains, Cond.selects RX2 yX2_contains yX2_contains, Cond.initialized RX2, Cond.code yX2_contains cX2_contains 4 (some .boolean), Cond.fieldLink RX2 11 "DotGossip" "holdings" "[LDotGossip$Holding;", Cond.methodLink RX2 37 yX2_requireElement, Cond.instanceMethod yX2_requireElement, Cond.selects RX2 yX2_requireElement yX2_requireElement, Cond.code yX2_requireElement cX2_requireElement 4 none, Cond.methodLink RX2 52 yX2_requireReplica, Cond.instanceMethod yX2_requireReplica, Cond.selects RX2 yX2_requireReplica yX2_requireReplica, Cond.code yX2_requireReplica cX2_requireReplica 2 none, Cond.fieldLink RX2 23 "DotGossip" "replicaCount" "I", Cond.methodLink RX2 56 yX2_requireIndex, Cond.static yX2_requireIndex, Cond.code yX2_requireIndex cX2_requireIndex 2 none, Cond.methodLink RX2 27 yX2_require, Cond.static yX2_require, Cond.code yX2_require cX2_require 1 none, Cond.classLink RX2 131 "java/lang/IllegalArgumentException", Cond.initialized "java/lang/IllegalArgumentException"]
def wsL_contains_r2 : List Cond := [Cond.methodLink RX2 41 yX2_placeOfElement, Cond.static yX2_placeOfElement, Cond.code yX2_placeOfElement cX2_placeOfElement 2 (some .int), Cond.methodLink RX2 115 yX0_dotsAt, Cond.instanceMethod yX0_dotsAt, Cond.selects RX0 yX0_dotsAt yX0_dotsAt, Cond.initialized RX0, Cond.code yX0_dotsAt cX0_dotsAt 4 (some .int), Cond.fieldLink RX0 15 "DotGossip$Holding" "numbers" "[I"]
def wsL_contains : List Cond := .codeWith yL_contains cL_contains 6 (some .int) [(0, 19, 22, 13)] :: ((wsL_contains_r1 ++ wsL_contains_r2) ++ wsX20 ++ wsX00 ++ (vx_at0 RX2 133 "java/lang/IllegalArgumentException" ["java/lang/RuntimeException", "java/lang/Exception"]).filter goodWord)
def wsL_size_r1 : List Cond := [Cond.classLink RL 13 "java/lang/IllegalArgumentException", Cond.methodLink RL 56 yX2_size, Cond.instanceMethod yX2_size, Cond.selects RX2 yX2_size yX2_size, Cond.initialized RX2, Cond.code yX2_size cX2_size 5 (some .int), Cond.fieldLink RX2 11 "DotGossip" "holdings" "[LDotGossip$Holding;", Cond.methodLink RX2 52 yX2_requireReplica, Cond.instanceMethod yX2_requireReplica, Cond.selects RX2 yX2_requireReplica yX2_requireReplica, Cond.code yX2_requireReplica cX2_requireReplica 2 none, Cond.fieldLink RX2 23 "DotGossip" "replicaCount" "I", Cond.methodLink RX2 56 yX2_requireIndex, Cond.static yX2_requireIndex, Cond.code yX2_requireIndex cX2_requireIndex 2 none, Cond.methodLink RX2 27 yX2_require, Cond.static yX2_require, Cond.code yX2_require cX2_require 1 none, Cond.classLink RX2 131 "java/lang/IllegalArgumentException", Cond.initialized "java/lang/IllegalArgumentException", Cond.methodLink RX2 41 yX2_placeOfElement, Cond.static yX2_placeOfElement, Cond.code yX2_placeOfElement cX2_placeOfElement 2 (some .int), Cond.methodLink RX2 115 yX0_dotsAt]
def wsL_size_r2 : List Cond := [Cond.instanceMethod yX0_dotsAt, Cond.selects RX0 yX0_dotsAt yX0_dotsAt, Cond.initialized RX0, Cond.code yX0_dotsAt cX0_dotsAt 4 (some .int), Cond.fieldLink RX0 15 "DotGossip$Holding" "numbers" "[I"]
def wsL_size : List Cond := .codeWith yL_size cL_size 5 (some .int) [(0, 10, 13, 13)] :: ((wsL_size_r1 ++ wsL_size_r2) ++ wsX20 ++ wsX00 ++ (vx_at0 RX2 133 "java/lang/IllegalArgumentException" ["java/lang/RuntimeException", "java/lang/Exception"]).filter goodWord)
def wsL_dot_r1 : List Cond := [Cond.classLink RL 13 "java/lang/IllegalArgumentException", Cond.methodLink RL 59 yX2_dot, Cond.instanceMethod yX2_dot, Cond.selects RX2 yX2_dot yX2_dot, Cond.initialized RX2, Cond.code yX2_dot cX2_dot 9 (some .int), Cond.fieldLink RX2 11 "DotGossip" "holdings" "[LDotGossip$Holding;", Cond.methodLink RX2 37 yX2_requireElement, Cond.instanceMethod yX2_requireElement, Cond.selects RX2 yX2_requireElement yX2_requireElement, Cond.code yX2_requireElement cX2_requireElement 4 none, Cond.methodLink RX2 52 yX2_requireReplica, Cond.instanceMethod yX2_requireReplica, Cond.selects RX2 yX2_requireReplica yX2_requireReplica, Cond.code yX2_requireReplica cX2_requireReplica 2 none, Cond.fieldLink RX2 23 "DotGossip" "replicaCount" "I", Cond.methodLink RX2 56 yX2_requireIndex, Cond.static yX2_requireIndex, Cond.code yX2_requireIndex cX2_requireIndex 2 none, Cond.methodLink RX2 27 yX2_require, Cond.static yX2_require, Cond.code yX2_require cX2_require 1 none, Cond.classLink RX2 131 "java/lang/IllegalArgumentException", Cond.initialized "java/lang/IllegalArgumentException"]
def wsL_dot_r2 : List Cond := [Cond.methodLink RX2 41 yX2_placeOfElement, Cond.static yX2_placeOfElement, Cond.code yX2_placeOfElement cX2_placeOfElement 2 (some .int), Cond.methodLink RX2 118 yX0_makerOf, Cond.instanceMethod yX0_makerOf, Cond.selects RX0 yX0_makerOf yX0_makerOf, Cond.initialized RX0, Cond.code yX0_makerOf cX0_makerOf 5 (some .int), Cond.fieldLink RX0 15 "DotGossip$Holding" "numbers" "[I", Cond.methodLink RX2 121 yX0_numberBy, Cond.instanceMethod yX0_numberBy, Cond.selects RX0 yX0_numberBy yX0_numberBy, Cond.code yX0_numberBy cX0_numberBy 3 (some .int)]
def wsL_dot : List Cond := .codeWith yL_dot cL_dot 8 (some .int) [(0, 16, 19, 13)] :: ((wsL_dot_r1 ++ wsL_dot_r2) ++ wsX20 ++ wsX00 ++ (vx_at0 RX2 133 "java/lang/IllegalArgumentException" ["java/lang/RuntimeException", "java/lang/Exception"]).filter goodWord)
def wsL_value_r1 : List Cond := [Cond.classLink RL 13 "java/lang/IllegalArgumentException", Cond.methodLink RL 63 yX2_value, Cond.instanceMethod yX2_value, Cond.selects RX2 yX2_value yX2_value, Cond.initialized RX2, Cond.code yX2_value cX2_value 8 (some .int), Cond.fieldLink RX2 11 "DotGossip" "holdings" "[LDotGossip$Holding;", Cond.fieldLink RX2 60 "DotGossip$Holding" "written" "[I", Cond.methodLink RX2 52 yX2_requireReplica, Cond.instanceMethod yX2_requireReplica, Cond.selects RX2 yX2_requireReplica yX2_requireReplica, Cond.code yX2_requireReplica cX2_requireReplica 2 none, Cond.fieldLink RX2 23 "DotGossip" "replicaCount" "I", Cond.methodLink RX2 56 yX2_requireIndex, Cond.static yX2_requireIndex, Cond.code yX2_requireIndex cX2_requireIndex 2 none, Cond.methodLink RX2 27 yX2_require, Cond.static yX2_require, Cond.code yX2_require cX2_require 1 none, Cond.classLink RX2 131 "java/lang/IllegalArgumentException", Cond.initialized "java/lang/IllegalArgumentException", Cond.methodLink RX2 118 yX0_makerOf, Cond.instanceMethod yX0_makerOf, Cond.selects RX0 yX0_makerOf yX0_makerOf]
def wsL_value_r2 : List Cond := [Cond.initialized RX0, Cond.code yX0_makerOf cX0_makerOf 5 (some .int), Cond.fieldLink RX0 15 "DotGossip$Holding" "numbers" "[I", Cond.methodLink RX2 121 yX0_numberBy, Cond.instanceMethod yX0_numberBy, Cond.selects RX0 yX0_numberBy yX0_numberBy, Cond.code yX0_numberBy cX0_numberBy 3 (some .int)]
def wsL_value : List Cond := .codeWith yL_value cL_value 7 (some .int) [(0, 14, 17, 13)] :: ((wsL_value_r1 ++ wsL_value_r2) ++ wsX20 ++ wsX00 ++ (vx_at0 RX2 133 "java/lang/IllegalArgumentException" ["java/lang/RuntimeException", "java/lang/Exception"]).filter goodWord)
def wsL_values_r1 : List Cond := [Cond.classLink RL 13 "java/lang/IllegalArgumentException", Cond.methodLink RL 67 yX2_values, Cond.instanceMethod yX2_values, Cond.selects RX2 yX2_values yX2_values, Cond.initialized RX2, Cond.code yX2_values cX2_values 3 (some .int), Cond.fieldLink RX2 11 "DotGossip" "holdings" "[LDotGossip$Holding;", Cond.methodLink RX2 52 yX2_requireReplica, Cond.instanceMethod yX2_requireReplica, Cond.selects RX2 yX2_requireReplica yX2_requireReplica, Cond.code yX2_requireReplica cX2_requireReplica 2 none, Cond.fieldLink RX2 23 "DotGossip" "replicaCount" "I", Cond.methodLink RX2 56 yX2_requireIndex, Cond.static yX2_requireIndex, Cond.code yX2_requireIndex cX2_requireIndex 2 none, Cond.methodLink RX2 27 yX2_require, Cond.static yX2_require, Cond.code yX2_require cX2_require 1 none, Cond.classLink RX2 131 "java/lang/IllegalArgumentException", Cond.initialized "java/lang/IllegalArgumentException", Cond.methodLink RX2 115 yX0_dotsAt, Cond.instanceMethod yX0_dotsAt, Cond.selects RX0 yX0_dotsAt yX0_dotsAt, Cond.initialized RX0]
def wsL_values_r2 : List Cond := [Cond.code yX0_dotsAt cX0_dotsAt 4 (some .int), Cond.fieldLink RX0 15 "DotGossip$Holding" "numbers" "[I"]
def wsL_values : List Cond := .codeWith yL_values cL_values 5 (some .int) [(0, 10, 13, 13)] :: ((wsL_values_r1 ++ wsL_values_r2) ++ wsX20 ++ wsX00 ++ (vx_at0 RX2 133 "java/lang/IllegalArgumentException" ["java/lang/RuntimeException", "java/lang/Exception"]).filter goodWord)
def wsL_total_r1 : List Cond := [Cond.classLink RL 13 "java/lang/IllegalArgumentException", Cond.methodLink RL 70 yX2_total, Cond.instanceMethod yX2_total, Cond.selects RX2 yX2_total yX2_total, Cond.initialized RX2, Cond.code yX2_total cX2_total 3 (some .int), Cond.fieldLink RX2 11 "DotGossip" "holdings" "[LDotGossip$Holding;", Cond.methodLink RX2 52 yX2_requireReplica, Cond.instanceMethod yX2_requireReplica, Cond.selects RX2 yX2_requireReplica yX2_requireReplica, Cond.code yX2_requireReplica cX2_requireReplica 2 none, Cond.fieldLink RX2 23 "DotGossip" "replicaCount" "I", Cond.methodLink RX2 56 yX2_requireIndex, Cond.static yX2_requireIndex, Cond.code yX2_requireIndex cX2_requireIndex 2 none, Cond.methodLink RX2 27 yX2_require, Cond.static yX2_require, Cond.code yX2_require cX2_require 1 none, Cond.classLink RX2 131 "java/lang/IllegalArgumentException", Cond.initialized "java/lang/IllegalArgumentException", Cond.methodLink RX2 71 yX0_worth, Cond.instanceMethod yX0_worth, Cond.selects RX0 yX0_worth yX0_worth, Cond.initialized RX0]
def wsL_total_r2 : List Cond := [Cond.code yX0_worth cX0_worth 6 (some .int), Cond.fieldLink RX0 21 "DotGossip$Holding" "added" "[J", Cond.fieldLink RX0 25 "DotGossip$Holding" "taken" "[J"]
def wsL_total : List Cond := .codeWith yL_total cL_total 5 (some .int) [(0, 10, 13, 13)] :: ((wsL_total_r1 ++ wsL_total_r2) ++ wsX20 ++ wsX00 ++ (vx_at0 RX2 133 "java/lang/IllegalArgumentException" ["java/lang/RuntimeException", "java/lang/Exception"]).filter goodWord)
def wsL_vector : List Cond := .codeWith yL_vector cL_vector 5 (some .int) [(0, 10, 13, 13)] :: ([.classLink RL 13 "java/lang/IllegalArgumentException", .methodLink RL 73 yX2_vector, .instanceMethod yX2_vector, .selects RX2 yX2_vector yX2_vector, .initialized RX2, .code yX2_vector cX2_vector 3 (some .int), .fieldLink RX2 11 "DotGossip" "holdings" "[LDotGossip$Holding;", .fieldLink RX2 124 "DotGossip$Holding" "seen" "[I", .methodLink RX2 52 yX2_requireReplica, .instanceMethod yX2_requireReplica, .selects RX2 yX2_requireReplica yX2_requireReplica, .code yX2_requireReplica cX2_requireReplica 2 none, .fieldLink RX2 23 "DotGossip" "replicaCount" "I", .methodLink RX2 56 yX2_requireIndex, .static yX2_requireIndex, .code yX2_requireIndex cX2_requireIndex 2 none, .methodLink RX2 27 yX2_require, .static yX2_require, .code yX2_require cX2_require 1 none, .classLink RX2 131 "java/lang/IllegalArgumentException", .initialized "java/lang/IllegalArgumentException"] ++ wsX20 ++ wsX00 ++ (vx_at0 RX2 133 "java/lang/IllegalArgumentException" ["java/lang/RuntimeException", "java/lang/Exception"]).filter goodWord)
def wsL_same_r1 : List Cond := [Cond.classLink RL 13 "java/lang/IllegalArgumentException", Cond.methodLink RL 76 yX2_same, Cond.instanceMethod yX2_same, Cond.selects RX2 yX2_same yX2_same, Cond.initialized RX2, Cond.code yX2_same cX2_same 3 (some .boolean), Cond.fieldLink RX2 11 "DotGossip" "holdings" "[LDotGossip$Holding;", Cond.methodLink RX2 52 yX2_requireReplica, Cond.instanceMethod yX2_requireReplica, Cond.selects RX2 yX2_requireReplica yX2_requireReplica, Cond.code yX2_requireReplica cX2_requireReplica 2 none, Cond.fieldLink RX2 23 "DotGossip" "replicaCount" "I", Cond.methodLink RX2 56 yX2_requireIndex, Cond.static yX2_requireIndex, Cond.code yX2_requireIndex cX2_requireIndex 2 none, Cond.methodLink RX2 27 yX2_require, Cond.static yX2_require, Cond.code yX2_require cX2_require 1 none, Cond.classLink RX2 131 "java/lang/IllegalArgumentException", Cond.initialized "java/lang/IllegalArgumentException", Cond.methodLink RX2 127 yX0_matches, Cond.instanceMethod yX0_matches, Cond.selects RX0 yX0_matches yX0_matches, Cond.initialized RX0]
def wsL_same_r2 : List Cond := [Cond.code yX0_matches cX0_matches 2 (some .boolean), Cond.fieldLink RX0 9 "DotGossip$Holding" "seen" "[I", Cond.fieldLink RX0 15 "DotGossip$Holding" "numbers" "[I", Cond.fieldLink RX0 21 "DotGossip$Holding" "added" "[J", Cond.fieldLink RX0 25 "DotGossip$Holding" "taken" "[J", Cond.methodLink RX0 61 yX0_equalInts, Cond.static yX0_equalInts, Cond.code yX0_equalInts cX0_equalInts 3 (some .boolean), Cond.methodLink RX0 65 yX0_equalLongs, Cond.static yX0_equalLongs, Cond.code yX0_equalLongs cX0_equalLongs 3 (some .boolean)]
def wsL_same : List Cond := .codeWith yL_same cL_same 5 (some .int) [(0, 17, 20, 13)] :: ((wsL_same_r1 ++ wsL_same_r2) ++ wsX20 ++ wsX00 ++ (vx_at0 RX2 133 "java/lang/IllegalArgumentException" ["java/lang/RuntimeException", "java/lang/Exception"]).filter goodWord)
def wsL_message_r1 : List Cond := [Cond.classLink RL 13 "java/lang/IllegalArgumentException", Cond.methodLink RL 80 yX2_message, Cond.instanceMethod yX2_message, Cond.selects RX2 yX2_message yX2_message, Cond.initialized RX2, Cond.code yX2_message cX2_message 4 (some .int), Cond.fieldLink RX2 23 "DotGossip" "replicaCount" "I", Cond.fieldLink RX2 19 "DotGossip" "wire" "Ljava/util/ArrayList;", Cond.classLink RX2 81 "DotGossip$Message", Cond.fieldLink RX2 112 "DotGossip$Message" "from" "I", Cond.fieldLink RX2 98 "DotGossip$Message" "to" "I", Cond.fieldLink RX2 101 "DotGossip$Message" "sent" "LDotGossip$Holding;", Cond.fieldLink RX2 124 "DotGossip$Holding" "seen" "[I", Cond.methodLink RX2 74 yJx4a65c_size_8abf5, Cond.instanceMethod yJx4a65c_size_8abf5, Cond.selects RJx4a65c yJx4a65c_size_8abf5 yJx4a65c_size_8abf5, Cond.initialized RJx4a65c, Cond.code yJx4a65c_size_8abf5 cJx4a65c_size_8abf5 1 (some .int), Cond.fieldLink RJx4a65c 48 "java/util/ArrayList" "size" "I", Cond.methodLink RX2 56 yX2_requireIndex, Cond.static yX2_requireIndex, Cond.code yX2_requireIndex cX2_requireIndex 2 none, Cond.methodLink RX2 27 yX2_require, Cond.static yX2_require]
def wsL_message_r2 : List Cond := [Cond.code yX2_require cX2_require 1 none, Cond.classLink RX2 131 "java/lang/IllegalArgumentException", Cond.initialized "java/lang/IllegalArgumentException", Cond.methodLink RX2 109 yJx4a65c_get_915e3, Cond.instanceMethod yJx4a65c_get_915e3, Cond.selects RJx4a65c yJx4a65c_get_915e3 yJx4a65c_get_915e3, Cond.code yJx4a65c_get_915e3 cJx4a65c_get_915e3 2 (some (.object "java/lang/Object")), Cond.methodLink RJx4a65c 118 yJ15_checkIndex_7cf53, Cond.static yJ15_checkIndex_7cf53, Cond.initialized RJ15, Cond.code yJ15_checkIndex_7cf53 cJ15_checkIndex_7cf53 2 (some .int), Cond.methodLink RJ15 105 yJ3_checkIndex_8e157, Cond.static yJ3_checkIndex_8e157, Cond.initialized RJ3, Cond.code yJ3_checkIndex_8e157 cJ3_checkIndex_8e157 3 (some .int), Cond.methodLink RJx4a65c 123 yJx4a65c_elementData_915e3, Cond.instanceMethod yJx4a65c_elementData_915e3, Cond.selects RJx4a65c yJx4a65c_elementData_915e3 yJx4a65c_elementData_915e3, Cond.code yJx4a65c_elementData_915e3 cJx4a65c_elementData_915e3 2 (some (.object "java/lang/Object")), Cond.fieldLink RJx4a65c 9 "java/util/ArrayList" "elementData" "[Ljava/lang/Object;"]
def wsL_message : List Cond := .codeWith yL_message cL_message 5 (some .int) [(0, 10, 13, 13)] :: ((wsL_message_r1 ++ wsL_message_r2) ++ wsX20 ++ wsX10 ++ wsX00 ++ wsJx4a65c0 ++ (vx_at0 RX2 133 "java/lang/IllegalArgumentException" ["java/lang/RuntimeException", "java/lang/Exception"]).filter goodWord)
def wsL_law0_r1 : List Cond := [Cond.classLink RL 8 RX2, Cond.instantiable RX2 3, Cond.initialized RX2, Cond.classLink RL 84 RX3, Cond.instantiable RX3 8, Cond.initialized RX3, Cond.arrayClass .long, Cond.methodLink RL 83 yX2_init, Cond.instanceMethod yX2_init, Cond.code yX2_init cX2_init 2 none, Cond.methodLink RX2 3 objectInit, Cond.instanceMethod objectInit, Cond.code objectInit ⟨#[0xb1]⟩ 1 none, Cond.classLink RX2 9 RX0, Cond.fieldLink RX2 11 "DotGossip" "holdings" "[LDotGossip$Holding;", Cond.instantiable RX0 5, Cond.initialized RX0, Cond.classLink RX2 16 RJx4a65c, Cond.instantiable RJx4a65c 3, Cond.initialized RJx4a65c, Cond.fieldLink RX2 19 "DotGossip" "wire" "Ljava/util/ArrayList;", Cond.fieldLink RX2 23 "DotGossip" "replicaCount" "I", Cond.methodLink RX2 15 yX0_init, Cond.instanceMethod yX0_init]
def wsL_law0_r2 : List Cond := [Cond.code yX0_init cX0_init 1 none, Cond.methodLink RX0 3 objectInit, Cond.arrayClass .int, Cond.fieldLink RX0 9 "DotGossip$Holding" "seen" "[I", Cond.fieldLink RX0 15 "DotGossip$Holding" "numbers" "[I", Cond.fieldLink RX0 18 "DotGossip$Holding" "written" "[I", Cond.fieldLink RX0 21 "DotGossip$Holding" "added" "[J", Cond.fieldLink RX0 25 "DotGossip$Holding" "taken" "[J", Cond.methodLink RX2 18 yJx4a65c_init_da8c8, Cond.instanceMethod yJx4a65c_init_da8c8, Cond.code yJx4a65c_init_da8c8 cJx4a65c_init_da8c8 1 none, Cond.fieldLink RJx4a65c 39 "java/util/ArrayList" "DEFAULTCAPACITY_EMPTY_ELEMENTDATA" "[Ljava/lang/Object;", Cond.fieldLink RJx4a65c 9 "java/util/ArrayList" "elementData" "[Ljava/lang/Object;", Cond.methodLink RJx4a65c 1 yJxc12de_init_da8c8, Cond.instanceMethod yJxc12de_init_da8c8, Cond.initialized RJxc12de, Cond.code yJxc12de_init_da8c8 cJxc12de_init_da8c8 1 none, Cond.fieldLink RJxc12de 7 "java/util/AbstractList" "modCount" "I", Cond.methodLink RJxc12de 1 yJxa1e45_init_da8c8, Cond.instanceMethod yJxa1e45_init_da8c8, Cond.initialized RJxa1e45, Cond.code yJxa1e45_init_da8c8 cJxa1e45_init_da8c8 1 none, Cond.methodLink RJxa1e45 1 objectInit, Cond.methodLink RL 86 yX3_init]
def wsL_law0_r3 : List Cond := [Cond.instanceMethod yX3_init, Cond.code yX3_init cX3_init 1 none, Cond.methodLink RX3 1 objectInit, Cond.fieldLink RX3 7 "DotGossipModel" "replicas" "I", Cond.constant RX3 13 (43884), Cond.fieldLink RX3 14 "DotGossipModel" "table" "[I", Cond.fieldLink RX3 18 "DotGossipModel" "values" "[I", Cond.fieldLink RX3 21 "DotGossipModel" "sums" "[J", Cond.fieldLink RX3 25 "DotGossipModel" "from" "[I", Cond.fieldLink RX3 28 "DotGossipModel" "to" "[I", Cond.methodLink RL 87 yL_open, Cond.static yL_open, Cond.initialized RL, Cond.codeWith yL_open cL_open 3 (some .int) [(0, 5, 8, 13)], Cond.classLink RL 13 "java/lang/IllegalArgumentException", Cond.methodLink RL 7 yX2_open, Cond.instanceMethod yX2_open, Cond.selects RX2 yX2_open yX2_open, Cond.code yX2_open cX2_open 3 none, Cond.methodLink RX2 27 yX2_require, Cond.static yX2_require, Cond.code yX2_require cX2_require 1 none, Cond.classLink RX2 131 "java/lang/IllegalArgumentException", Cond.initialized "java/lang/IllegalArgumentException"]
def wsL_law0_r4 : List Cond := [Cond.methodLink RX2 31 yX0_wipe, Cond.instanceMethod yX0_wipe, Cond.selects RX0 yX0_wipe yX0_wipe, Cond.code yX0_wipe cX0_wipe 1 none, Cond.methodLink RX0 28 yJ7_fill_53178, Cond.static yJ7_fill_53178, Cond.initialized RJ7, Cond.code yJ7_fill_53178 cJ7_fill_53178 4 none, Cond.methodLink RX0 34 yJ7_fill_d0a16, Cond.static yJ7_fill_d0a16, Cond.code yJ7_fill_d0a16 cJ7_fill_d0a16 5 none, Cond.methodLink RX2 34 yJx4a65c_clear_da8c8, Cond.instanceMethod yJx4a65c_clear_da8c8, Cond.selects RJx4a65c yJx4a65c_clear_da8c8 yJx4a65c_clear_da8c8, Cond.code yJx4a65c_clear_da8c8 cJx4a65c_clear_da8c8 4 none, Cond.fieldLink RJx4a65c 63 "java/util/ArrayList" "modCount" "I", Cond.sameField "java/util/ArrayList" "java/util/AbstractList" "modCount" "I", Cond.fieldLink RJx4a65c 48 "java/util/ArrayList" "size" "I", Cond.methodLink RL 92 yX3_open, Cond.instanceMethod yX3_open, Cond.selects RX3 yX3_open yX3_open, Cond.code yX3_open cX3_open 3 none, Cond.fieldLink RX3 41 "DotGossipModel" "messages" "I", Cond.methodLink RX3 38 yX3_refuses]
def wsL_law0_r5 : List Cond := [Cond.instanceMethod yX3_refuses, Cond.selects RX3 yX3_refuses yX3_refuses, Cond.code yX3_refuses cX3_refuses 2 (some .boolean), Cond.fieldLink RX3 31 "DotGossipModel" "code" "I", Cond.methodLink RL 93 yX3_thrown, Cond.instanceMethod yX3_thrown, Cond.selects RX3 yX3_thrown yX3_thrown, Cond.code yX3_thrown cX3_thrown 1 (some .int), Cond.methodLink RL 97 yL_add, Cond.static yL_add, Cond.codeWith yL_add cL_add 6 (some .int) [(0, 12, 15, 13)], Cond.methodLink RL 15 yX2_add, Cond.instanceMethod yX2_add, Cond.selects RX2 yX2_add yX2_add, Cond.code yX2_add cX2_add 6 (some .int), Cond.methodLink RX2 37 yX2_requireElement, Cond.instanceMethod yX2_requireElement, Cond.selects RX2 yX2_requireElement yX2_requireElement, Cond.code yX2_requireElement cX2_requireElement 4 none, Cond.methodLink RX2 52 yX2_requireReplica, Cond.instanceMethod yX2_requireReplica, Cond.selects RX2 yX2_requireReplica yX2_requireReplica, Cond.code yX2_requireReplica cX2_requireReplica 2 none, Cond.methodLink RX2 56 yX2_requireIndex]
def wsL_law0_r6 : List Cond := [Cond.static yX2_requireIndex, Cond.code yX2_requireIndex cX2_requireIndex 2 none, Cond.methodLink RX2 41 yX2_placeOfElement, Cond.static yX2_placeOfElement, Cond.code yX2_placeOfElement cX2_placeOfElement 2 (some .int), Cond.methodLink RX2 45 yX0_forget, Cond.instanceMethod yX0_forget, Cond.selects RX0 yX0_forget yX0_forget, Cond.code yX0_forget cX0_forget 4 (some .int), Cond.methodLink RX0 44 yX0_dotsAt, Cond.instanceMethod yX0_dotsAt, Cond.selects RX0 yX0_dotsAt yX0_dotsAt, Cond.code yX0_dotsAt cX0_dotsAt 4 (some .int), Cond.methodLink RX2 49 yX0_makeDot, Cond.instanceMethod yX0_makeDot, Cond.selects RX0 yX0_makeDot yX0_makeDot, Cond.code yX0_makeDot cX0_makeDot 3 (some .int), Cond.methodLink RL 100 yX3_add, Cond.instanceMethod yX3_add, Cond.selects RX3 yX3_add yX3_add, Cond.code yX3_add cX3_add 4 (some .int), Cond.methodLink RX3 55 yX3_isElement, Cond.instanceMethod yX3_isElement, Cond.selects RX3 yX3_isElement yX3_isElement]
def wsL_law0_r7 : List Cond := [Cond.code yX3_isElement cX3_isElement 4 (some .boolean), Cond.methodLink RX3 34 yX3_isReplica, Cond.instanceMethod yX3_isReplica, Cond.selects RX3 yX3_isReplica yX3_isReplica, Cond.code yX3_isReplica cX3_isReplica 2 (some .boolean), Cond.methodLink RX3 59 yX3_news, Cond.instanceMethod yX3_news, Cond.selects RX3 yX3_news yX3_news, Cond.code yX3_news cX3_news 4 (some .int), Cond.methodLink RX3 48 yX3_vectorAt, Cond.static yX3_vectorAt, Cond.code yX3_vectorAt cX3_vectorAt 2 (some .int), Cond.methodLink RX3 51 yX3_empties, Cond.instanceMethod yX3_empties, Cond.selects RX3 yX3_empties yX3_empties, Cond.code yX3_empties cX3_empties 4 none, Cond.methodLink RX3 44 yX3_dots, Cond.static yX3_dots, Cond.code yX3_dots cX3_dots 2 (some .int), Cond.methodLink RL 101 yL_remove, Cond.static yL_remove, Cond.codeWith yL_remove cL_remove 6 (some .int) [(0, 12, 15, 13)], Cond.methodLink RL 19 yX2_remove, Cond.instanceMethod yX2_remove]
def wsL_law0_r8 : List Cond := [Cond.selects RX2 yX2_remove yX2_remove, Cond.code yX2_remove cX2_remove 4 (some .int), Cond.methodLink RL 103 yX3_remove, Cond.instanceMethod yX3_remove, Cond.selects RX3 yX3_remove yX3_remove, Cond.code yX3_remove cX3_remove 5 (some .int), Cond.methodLink RX3 62 yX3_many, Cond.instanceMethod yX3_many, Cond.selects RX3 yX3_many yX3_many, Cond.code yX3_many cX3_many 5 (some .int), Cond.methodLink RL 104 yL_clear, Cond.static yL_clear, Cond.codeWith yL_clear cL_clear 5 (some .int) [(0, 10, 13, 13)], Cond.methodLink RL 22 yX2_clear, Cond.instanceMethod yX2_clear, Cond.selects RX2 yX2_clear yX2_clear, Cond.code yX2_clear cX2_clear 5 (some .int), Cond.methodLink RL 107 yX3_clear, Cond.instanceMethod yX3_clear, Cond.selects RX3 yX3_clear yX3_clear, Cond.code yX3_clear cX3_clear 5 (some .int), Cond.methodLink RL 108 yL_write, Cond.static yL_write, Cond.codeWith yL_write cL_write 6 (some .int) [(0, 12, 15, 13)]]
def wsL_law0_r9 : List Cond := [Cond.methodLink RL 26 yX2_write, Cond.instanceMethod yX2_write, Cond.selects RX2 yX2_write yX2_write, Cond.code yX2_write cX2_write 7 (some .int), Cond.fieldLink RX2 60 "DotGossip$Holding" "written" "[I", Cond.methodLink RL 110 yX3_write, Cond.instanceMethod yX3_write, Cond.selects RX3 yX3_write yX3_write, Cond.code yX3_write cX3_write 5 (some .int), Cond.methodLink RX3 65 yX3_isRegister, Cond.instanceMethod yX3_isRegister, Cond.selects RX3 yX3_isRegister yX3_isRegister, Cond.code yX3_isRegister cX3_isRegister 3 (some .boolean), Cond.methodLink RL 111 yL_count, Cond.static yL_count, Cond.codeWith yL_count cL_count 6 (some .int) [(0, 12, 15, 13)], Cond.methodLink RL 29 yX2_count, Cond.instanceMethod yX2_count, Cond.selects RX2 yX2_count yX2_count, Cond.code yX2_count cX2_count 6 (some .int), Cond.fieldLink RX2 64 "DotGossip$Holding" "added" "[J", Cond.fieldLink RX2 68 "DotGossip$Holding" "taken" "[J", Cond.methodLink RX2 71 yX0_worth, Cond.instanceMethod yX0_worth]
def wsL_law0_r10 : List Cond := [Cond.selects RX0 yX0_worth yX0_worth, Cond.code yX0_worth cX0_worth 6 (some .int), Cond.methodLink RL 113 yX3_count, Cond.instanceMethod yX3_count, Cond.selects RX3 yX3_count yX3_count, Cond.code yX3_count cX3_count 5 (some .int), Cond.methodLink RX3 69 yX3_sum, Cond.instanceMethod yX3_sum, Cond.selects RX3 yX3_sum yX3_sum, Cond.code yX3_sum cX3_sum 7 (some .int), Cond.methodLink RL 114 yL_gossip, Cond.static yL_gossip, Cond.codeWith yL_gossip cL_gossip 5 (some .int) [(0, 10, 13, 13), (0, 10, 17, 35)], Cond.classLink RL 35 "java/lang/IllegalStateException", Cond.methodLink RL 32 yX2_gossip, Cond.instanceMethod yX2_gossip, Cond.selects RX2 yX2_gossip yX2_gossip, Cond.code yX2_gossip cX2_gossip 3 (some .int), Cond.classLink RX2 78 "java/lang/IllegalStateException", Cond.initialized "java/lang/IllegalStateException", Cond.classLink RX2 81 RX1, Cond.instantiable RX1 3, Cond.initialized RX1, Cond.methodLink RX2 74 yJx4a65c_size_8abf5]
def wsL_law0_r11 : List Cond := [Cond.instanceMethod yJx4a65c_size_8abf5, Cond.selects RJx4a65c yJx4a65c_size_8abf5 yJx4a65c_size_8abf5, Cond.code yJx4a65c_size_8abf5 cJx4a65c_size_8abf5 1 (some .int), Cond.methodLink RX2 83 yX0_snapshot, Cond.instanceMethod yX0_snapshot, Cond.selects RX0 yX0_snapshot yX0_snapshot, Cond.code yX0_snapshot cX0_snapshot 2 (some (.object "DotGossip$Holding")), Cond.classLink RX0 10 RX0, Cond.methodLink RX0 38 arraycopyName, Cond.native arraycopyName, Cond.static arraycopyName, Cond.initialized "java/lang/System", Cond.methodLink RX0 37 yX0_init, Cond.methodLink RX2 87 yX1_init, Cond.instanceMethod yX1_init, Cond.code yX1_init cX1_init 4 none, Cond.methodLink RX1 1 objectInit, Cond.fieldLink RX1 7 "DotGossip$Message" "from" "I", Cond.fieldLink RX1 13 "DotGossip$Message" "to" "I", Cond.fieldLink RX1 16 "DotGossip$Message" "sent" "LDotGossip$Holding;", Cond.methodLink RX2 90 yJx4a65c_add_9ea2d, Cond.instanceMethod yJx4a65c_add_9ea2d, Cond.selects RJx4a65c yJx4a65c_add_9ea2d yJx4a65c_add_9ea2d, Cond.code yJx4a65c_add_9ea2d cJx4a65c_add_9ea2d 2 (some .boolean)]
def wsL_law0_r12 : List Cond := [Cond.methodLink RJx4a65c 131 yJx4a65c_add_72be8, Cond.instanceMethod yJx4a65c_add_72be8, Cond.selects RJx4a65c yJx4a65c_add_72be8 yJx4a65c_add_72be8, Cond.code yJx4a65c_add_72be8 cJx4a65c_add_72be8 4 none, Cond.methodLink RJx4a65c 129 yJx4a65c_grow_d5877, Cond.instanceMethod yJx4a65c_grow_d5877, Cond.selects RJx4a65c yJx4a65c_grow_d5877 yJx4a65c_grow_d5877, Cond.code yJx4a65c_grow_d5877 cJx4a65c_grow_d5877 1 (some (.array (.object "java/lang/Object"))), Cond.methodLink RJx4a65c 69 yJx4a65c_grow_92f84, Cond.instanceMethod yJx4a65c_grow_92f84, Cond.selects RJx4a65c yJx4a65c_grow_92f84 yJx4a65c_grow_92f84, Cond.code yJx4a65c_grow_92f84 cJx4a65c_grow_92f84 4 (some (.array (.object "java/lang/Object"))), Cond.methodLink RJx4a65c 79 Lib.Math.max.name, Cond.static Lib.Math.max.name, Cond.initialized "java/lang/Math", Cond.code Lib.Math.max.name Lib.Math.max.code 2 (some .int), Cond.classLink RJx4a65c 7 "java/lang/Object", Cond.methodLink RJx4a65c 73 yJ8_newLength_cabcc, Cond.static yJ8_newLength_cabcc, Cond.initialized RJ8, Cond.code yJ8_newLength_cabcc cJ8_newLength_cabcc 4 (some .int), Cond.methodLink RJ8 194 Lib.Math.max.name, Cond.constant RJ8 200 (2147483639), Cond.methodLink RJ8 201 yJ8_hugeLength_7cf53]
def wsL_law0_r13 : List Cond := [Cond.static yJ8_hugeLength_7cf53, Cond.code yJ8_hugeLength_7cf53 cJ8_hugeLength_7cf53 3 (some .int), Cond.methodLink RJx4a65c 66 yJ7_copyOf_1904c, Cond.static yJ7_copyOf_1904c, Cond.code yJ7_copyOf_1904c cJ7_copyOf_1904c 2 (some (.array (.object "java/lang/Object"))), Cond.methodLink RJ7 86 ⟨"java/lang/Object", "getClass", "()Ljava/lang/Class;"⟩, Cond.selects "[Ljava/lang/Object;" ⟨"java/lang/Object", "getClass", "()Ljava/lang/Class;"⟩ ⟨"java/lang/Object", "getClass", "()Ljava/lang/Class;"⟩, Cond.instanceMethod ⟨"java/lang/Object", "getClass", "()Ljava/lang/Class;"⟩, Cond.native ⟨"java/lang/Object", "getClass", "()Ljava/lang/Class;"⟩, Cond.methodLink RJ7 300 yJ7_copyOf_6403c, Cond.static yJ7_copyOf_6403c, Cond.code yJ7_copyOf_6403c cJ7_copyOf_6403c 4 (some (.array (.object "java/lang/Object"))), Cond.classLink RJ7 110 "[Ljava/lang/Object;", Cond.classLink RJ7 2 "java/lang/Object", Cond.methodLink RJ7 304 Lib.Math.min.name, Cond.static Lib.Math.min.name, Cond.code Lib.Math.min.name Lib.Math.min.code 2 (some .int), Cond.methodLink RJ7 150 arraycopyName, Cond.methodLink RL 116 yX3_gossip, Cond.instanceMethod yX3_gossip, Cond.selects RX3 yX3_gossip yX3_gossip, Cond.code yX3_gossip cX3_gossip 3 (some .int), Cond.methodLink RX3 72 yX3_copies, Cond.instanceMethod yX3_copies]
def wsL_law0_r14 : List Cond := [Cond.selects RX3 yX3_copies yX3_copies, Cond.code yX3_copies cX3_copies 4 none, Cond.methodLink RL 117 yL_deliver, Cond.static yL_deliver, Cond.codeWith yL_deliver cL_deliver 4 (some .int) [(0, 9, 12, 13)], Cond.methodLink RL 37 yX2_deliver, Cond.instanceMethod yX2_deliver, Cond.selects RX2 yX2_deliver yX2_deliver, Cond.code yX2_deliver cX2_deliver 3 (some .int), Cond.classLink RX2 81 "DotGossip$Message", Cond.fieldLink RX2 98 "DotGossip$Message" "to" "I", Cond.fieldLink RX2 101 "DotGossip$Message" "sent" "LDotGossip$Holding;", Cond.methodLink RX2 94 yJx4a65c_remove_915e3, Cond.instanceMethod yJx4a65c_remove_915e3, Cond.selects RJx4a65c yJx4a65c_remove_915e3 yJx4a65c_remove_915e3, Cond.code yJx4a65c_remove_915e3 cJx4a65c_remove_915e3 4 (some (.object "java/lang/Object")), Cond.methodLink RJx4a65c 118 yJ15_checkIndex_7cf53, Cond.static yJ15_checkIndex_7cf53, Cond.initialized RJ15, Cond.code yJ15_checkIndex_7cf53 cJ15_checkIndex_7cf53 2 (some .int), Cond.methodLink RJ15 105 yJ3_checkIndex_8e157, Cond.static yJ3_checkIndex_8e157, Cond.initialized RJ3, Cond.code yJ3_checkIndex_8e157 cJ3_checkIndex_8e157 3 (some .int)]
def wsL_law0_r15 : List Cond := [Cond.methodLink RJx4a65c 144 yJx4a65c_fastRemove_b59b0, Cond.instanceMethod yJx4a65c_fastRemove_b59b0, Cond.selects RJx4a65c yJx4a65c_fastRemove_b59b0 yJx4a65c_fastRemove_b59b0, Cond.code yJx4a65c_fastRemove_b59b0 cJx4a65c_fastRemove_b59b0 4 none, Cond.methodLink RJx4a65c 112 arraycopyName, Cond.methodLink RX2 105 yX0_merge, Cond.instanceMethod yX0_merge, Cond.selects RX0 yX0_merge yX0_merge, Cond.code yX0_merge cX0_merge 5 (some .int), Cond.methodLink RX0 52 Lib.Math.max.name, Cond.methodLink RX0 58 Lib.MathLoose.max_long.x, Cond.static Lib.MathLoose.max_long.x, Cond.code Lib.MathLoose.max_long.x Lib.MathLoose.max_long.code 4 (some .long), Cond.methodLink RX0 48 yX0_mergeDot, Cond.instanceMethod yX0_mergeDot, Cond.selects RX0 yX0_mergeDot yX0_mergeDot, Cond.code yX0_mergeDot cX0_mergeDot 7 (some .boolean), Cond.methodLink RL 120 yX3_deliver, Cond.instanceMethod yX3_deliver, Cond.selects RX3 yX3_deliver yX3_deliver, Cond.code yX3_deliver cX3_deliver 3 (some .int), Cond.methodLink RX3 75 yX3_isMessage, Cond.instanceMethod yX3_isMessage, Cond.selects RX3 yX3_isMessage yX3_isMessage]
def wsL_law0_r16 : List Cond := [Cond.code yX3_isMessage cX3_isMessage 2 (some .boolean), Cond.methodLink RX3 78 yX3_merges, Cond.instanceMethod yX3_merges, Cond.selects RX3 yX3_merges yX3_merges, Cond.code yX3_merges cX3_merges 9 (some .int), Cond.methodLink RX3 81 yX3_gone, Cond.instanceMethod yX3_gone, Cond.selects RX3 yX3_gone yX3_gone, Cond.code yX3_gone cX3_gone 3 none, Cond.methodLink RL 121 yL_drop, Cond.static yL_drop, Cond.codeWith yL_drop cL_drop 4 (some .int) [(0, 9, 12, 13)], Cond.methodLink RL 41 yX2_drop, Cond.instanceMethod yX2_drop, Cond.selects RX2 yX2_drop yX2_drop, Cond.code yX2_drop cX2_drop 2 (some .int), Cond.methodLink RL 123 yX3_drop, Cond.instanceMethod yX3_drop, Cond.selects RX3 yX3_drop yX3_drop, Cond.code yX3_drop cX3_drop 3 (some .int), Cond.methodLink RL 124 yL_copy, Cond.static yL_copy, Cond.codeWith yL_copy cL_copy 4 (some .int) [(0, 16, 19, 13)], Cond.methodLink RL 44 yX2_copy]
def wsL_law0_r17 : List Cond := [Cond.instanceMethod yX2_copy, Cond.selects RX2 yX2_copy yX2_copy, Cond.code yX2_copy cX2_copy 3 (some .boolean), Cond.fieldLink RX2 112 "DotGossip$Message" "from" "I", Cond.methodLink RX2 109 yJx4a65c_get_915e3, Cond.instanceMethod yJx4a65c_get_915e3, Cond.selects RJx4a65c yJx4a65c_get_915e3 yJx4a65c_get_915e3, Cond.code yJx4a65c_get_915e3 cJx4a65c_get_915e3 2 (some (.object "java/lang/Object")), Cond.methodLink RJx4a65c 123 yJx4a65c_elementData_915e3, Cond.instanceMethod yJx4a65c_elementData_915e3, Cond.selects RJx4a65c yJx4a65c_elementData_915e3 yJx4a65c_elementData_915e3, Cond.code yJx4a65c_elementData_915e3 cJx4a65c_elementData_915e3 2 (some (.object "java/lang/Object")), Cond.methodLink RL 126 yX3_copy, Cond.instanceMethod yX3_copy, Cond.selects RX3 yX3_copy yX3_copy, Cond.code yX3_copy cX3_copy 2 (some .boolean), Cond.methodLink RL 127 yL_turn, Cond.static yL_turn, Cond.codeWith yL_turn cL_turn 4 (some .int) [(0, 6, 9, 13)], Cond.methodLink RL 48 yX2_turn, Cond.instanceMethod yX2_turn, Cond.selects RX2 yX2_turn yX2_turn, Cond.code yX2_turn cX2_turn 3 none, Cond.methodLink RL 130 yX3_turn]
def wsL_law0_r18 : List Cond := [Cond.instanceMethod yX3_turn, Cond.selects RX3 yX3_turn yX3_turn, Cond.code yX3_turn cX3_turn 3 none, Cond.methodLink RL 131 yL_contains, Cond.static yL_contains, Cond.codeWith yL_contains cL_contains 6 (some .int) [(0, 19, 22, 13)], Cond.methodLink RL 52 yX2_contains, Cond.instanceMethod yX2_contains, Cond.selects RX2 yX2_contains yX2_contains, Cond.code yX2_contains cX2_contains 4 (some .boolean), Cond.methodLink RX2 115 yX0_dotsAt, Cond.methodLink RL 133 yX3_contains, Cond.instanceMethod yX3_contains, Cond.selects RX3 yX3_contains yX3_contains, Cond.code yX3_contains cX3_contains 4 (some .boolean), Cond.methodLink RL 134 yL_size, Cond.static yL_size, Cond.codeWith yL_size cL_size 5 (some .int) [(0, 10, 13, 13)], Cond.methodLink RL 56 yX2_size, Cond.instanceMethod yX2_size, Cond.selects RX2 yX2_size yX2_size, Cond.code yX2_size cX2_size 5 (some .int), Cond.methodLink RL 136 yX3_size, Cond.instanceMethod yX3_size]
def wsL_law0_r19 : List Cond := [Cond.selects RX3 yX3_size yX3_size, Cond.code yX3_size cX3_size 5 (some .int), Cond.methodLink RL 137 yL_dot, Cond.static yL_dot, Cond.codeWith yL_dot cL_dot 8 (some .int) [(0, 16, 19, 13)], Cond.methodLink RL 59 yX2_dot, Cond.instanceMethod yX2_dot, Cond.selects RX2 yX2_dot yX2_dot, Cond.code yX2_dot cX2_dot 9 (some .int), Cond.methodLink RX2 118 yX0_makerOf, Cond.instanceMethod yX0_makerOf, Cond.selects RX0 yX0_makerOf yX0_makerOf, Cond.code yX0_makerOf cX0_makerOf 5 (some .int), Cond.methodLink RX2 121 yX0_numberBy, Cond.instanceMethod yX0_numberBy, Cond.selects RX0 yX0_numberBy yX0_numberBy, Cond.code yX0_numberBy cX0_numberBy 3 (some .int), Cond.methodLink RL 140 yX3_dot, Cond.instanceMethod yX3_dot, Cond.selects RX3 yX3_dot yX3_dot, Cond.code yX3_dot cX3_dot 8 (some .int), Cond.methodLink RX3 85 yX3_origin, Cond.instanceMethod yX3_origin, Cond.selects RX3 yX3_origin yX3_origin]
def wsL_law0_r20 : List Cond := [Cond.code yX3_origin cX3_origin 6 (some .int), Cond.methodLink RL 141 yL_value, Cond.static yL_value, Cond.codeWith yL_value cL_value 7 (some .int) [(0, 14, 17, 13)], Cond.methodLink RL 63 yX2_value, Cond.instanceMethod yX2_value, Cond.selects RX2 yX2_value yX2_value, Cond.code yX2_value cX2_value 8 (some .int), Cond.methodLink RL 144 yX3_value, Cond.instanceMethod yX3_value, Cond.selects RX3 yX3_value yX3_value, Cond.code yX3_value cX3_value 6 (some .int), Cond.methodLink RL 145 yL_values, Cond.static yL_values, Cond.codeWith yL_values cL_values 5 (some .int) [(0, 10, 13, 13)], Cond.methodLink RL 67 yX2_values, Cond.instanceMethod yX2_values, Cond.selects RX2 yX2_values yX2_values, Cond.code yX2_values cX2_values 3 (some .int), Cond.methodLink RL 147 yX3_values, Cond.instanceMethod yX3_values, Cond.selects RX3 yX3_values yX3_values, Cond.code yX3_values cX3_values 3 (some .int), Cond.methodLink RL 148 yL_total]
def wsL_law0_r21 : List Cond := [Cond.static yL_total, Cond.codeWith yL_total cL_total 5 (some .int) [(0, 10, 13, 13)], Cond.methodLink RL 70 yX2_total, Cond.instanceMethod yX2_total, Cond.selects RX2 yX2_total yX2_total, Cond.code yX2_total cX2_total 3 (some .int), Cond.methodLink RL 150 yX3_total, Cond.instanceMethod yX3_total, Cond.selects RX3 yX3_total yX3_total, Cond.code yX3_total cX3_total 3 (some .int), Cond.methodLink RL 151 yL_vector, Cond.static yL_vector, Cond.codeWith yL_vector cL_vector 5 (some .int) [(0, 10, 13, 13)], Cond.methodLink RL 73 yX2_vector, Cond.instanceMethod yX2_vector, Cond.selects RX2 yX2_vector yX2_vector, Cond.code yX2_vector cX2_vector 3 (some .int), Cond.fieldLink RX2 124 "DotGossip$Holding" "seen" "[I", Cond.methodLink RL 153 yX3_vector, Cond.instanceMethod yX3_vector, Cond.selects RX3 yX3_vector yX3_vector, Cond.code yX3_vector cX3_vector 3 (some .int), Cond.methodLink RL 154 yL_same, Cond.static yL_same]
def wsL_law0_r22 : List Cond := [Cond.codeWith yL_same cL_same 5 (some .int) [(0, 17, 20, 13)], Cond.methodLink RL 76 yX2_same, Cond.instanceMethod yX2_same, Cond.selects RX2 yX2_same yX2_same, Cond.code yX2_same cX2_same 3 (some .boolean), Cond.methodLink RX2 127 yX0_matches, Cond.instanceMethod yX0_matches, Cond.selects RX0 yX0_matches yX0_matches, Cond.code yX0_matches cX0_matches 2 (some .boolean), Cond.methodLink RX0 61 yX0_equalInts, Cond.static yX0_equalInts, Cond.code yX0_equalInts cX0_equalInts 3 (some .boolean), Cond.methodLink RX0 65 yX0_equalLongs, Cond.static yX0_equalLongs, Cond.code yX0_equalLongs cX0_equalLongs 3 (some .boolean), Cond.methodLink RL 156 yX3_same, Cond.instanceMethod yX3_same, Cond.selects RX3 yX3_same yX3_same, Cond.code yX3_same cX3_same 6 (some .boolean), Cond.methodLink RL 157 yL_message, Cond.static yL_message, Cond.codeWith yL_message cL_message 5 (some .int) [(0, 10, 13, 13)], Cond.methodLink RL 80 yX2_message, Cond.instanceMethod yX2_message]
def wsL_law0_r23 : List Cond := [Cond.selects RX2 yX2_message yX2_message, Cond.code yX2_message cX2_message 4 (some .int), Cond.methodLink RL 159 yX3_message, Cond.instanceMethod yX3_message, Cond.selects RX3 yX3_message yX3_message, Cond.code yX3_message cX3_message 3 (some .int)]
def wsL_law0 : List Cond := (wsL_law0_r1 ++ (wsL_law0_r2 ++ (wsL_law0_r3 ++ (wsL_law0_r4 ++ (wsL_law0_r5 ++ (wsL_law0_r6 ++ (wsL_law0_r7 ++ (wsL_law0_r8 ++ (wsL_law0_r9 ++ (wsL_law0_r10 ++ (wsL_law0_r11 ++ (wsL_law0_r12 ++ (wsL_law0_r13 ++ (wsL_law0_r14 ++ (wsL_law0_r15 ++ (wsL_law0_r16 ++ (wsL_law0_r17 ++ (wsL_law0_r18 ++ (wsL_law0_r19 ++ (wsL_law0_r20 ++ (wsL_law0_r21 ++ (wsL_law0_r22 ++ wsL_law0_r23)))))))))))))))))))))) ++ wsX20 ++ wsX30 ++ wsX00 ++ wsJx4a65c0 ++ wsX10 ++ ([] : List Cond)
def wsL_law : List Cond := wsL_law0 ++ (vx_at0 RX2 133 "java/lang/IllegalArgumentException" ["java/lang/RuntimeException", "java/lang/Exception"]).filter goodWord ++ (vx_at0 RX2 80 "java/lang/IllegalStateException" ["java/lang/RuntimeException", "java/lang/Exception"]).filter goodWord
abbrev vwCl : List vw_C := [(RJx4a65c, TJx4a65c, 3), (RX0, TX0, 5), (RX1, TX1, 3), (RX2, TX2, 3), (RX3, TX3, 8)]
end
section
def R_law : String := "DotGossipLaw"
def lw_P (b : Addr) (xs : List Int32) (args : Array Value) (s : State) : Prop := args = #[.ref b] ∧ s.IntsAt b xs ∧ xs.length ≤ 3072 ∧ (Jvm.Cond.and given_1 narrow_1).before args s = true
def lw_Q (_ : Array Value) (s : State) (o : Outcome) (t : State) : Prop := o = .returned (some (.int 1)) ∧ Framed s o t [] 601024 7293034
def lw_Z (below : List Frame) (a : Array Value) (s : State) : State → Prop := fun t => ∃ o, t.status = .running ∧ Ended t below o ∧ lw_Q a s o t
/-- the law's own end, with 1 on the stack, nothing written that was there before, its room as the claim has it -/
theorem lw_ret {p : Program} {l : Launch} {e : Env} {s : State} {m : MethodId} {below : List Frame} {meth : Method} {c : Code} {b : Nat} (hx : p.tables.exec = Jvm.exec) (hb : c.code = code) (hr : meth.sig.returnType = ret) (hlocks : meth.locks = false) {pc : Nat} {H : Heap} {ls : Array Slot} (hdg : decode code pc = .ok (.ireturn, 1)) : W p l e room_1 s m #[Value.ref b] below meth c H [] 601024 7293034 (lw_Z below #[Value.ref b] s) (F0 m pc ls [.int 1]) := by
  intro T hT X
  obtain ⟨fs, hret, hrun, hended, hW, hframe⟩ := X.leave (v := some (.int 1)) (hlocks := hlocks) (fun h => by rw [hr] at h; cases h)
  have hmeth' : T.vm.method? m = some meth := X.method'
  refine ⟨T.setFrames fs, ?_, .returned (some (.int 1)), hrun, hended, rfl, ⟨_, rfl⟩, hW, hframe⟩
  jvm_step X.here [X.here.top, hx, hb, hdg, hmeth', hr, ret, narrow_b1]
  (try refine ⟨rfl, ?_⟩); (try refine ⟨rfl, ?_⟩)
  first | (intro acts; rw [hret _ acts rfl rfl rfl]) | rw [hret _ _ rfl rfl rfl]
  exact Steps.refl _
/-- what holds at the law's entry: the machine, the code, the tables' words (any of lw_tbl by 'hts w (by decide +kernel)'), the script of L ints xs at the cell b, what the Statement gives of the start (any of its parts by flat_of_before) -/
def lw_At (p : Program) (s : State) (m : MethodId) (meth : Method) (c : Code) (b L : Nat) (xs : Nat → Int32) : Prop :=
  p.tables.exec = Jvm.exec ∧ c.code = code ∧ meth.sig.returnType = ret ∧ c.maxLocals = 7 ∧ s.vm.findClass R_law = some m.cls ∧ (∀ w ∈ lw_tbl, w.before #[Value.ref b] s = true) ∧ va_X b L xs s s.heap ∧ b < s.heap.size ∧ meth.locks = false ∧ (Jvm.Cond.and given_1 narrow_1).before #[Value.ref b] s = true
end
section
/-! WORLDS AS FUNCTIONS. M a = some e: the cell e lies at the address a. A list of the kit's own kind stands behind it (gw_L), so every row of the kit lifts. One fixed set of addresses for all methods: those from b0 on (b0: the heap's size at the law's entry). -/
abbrev gw_M : Type := Nat → Option va_E
/-- the classes' numbers and slots; the array classes' numbers; b0; where ArrayList's empty array lies; where the class object of Object[] lies -/
abbrev gw_C : Type := va_G × (Nat → ClassId) × Nat × Nat × Nat
abbrev gw_A (K : gw_C) : Nat → Prop := fun q => K.2.2.1 ≤ q
def gw_up (M : gw_M) (a : Nat) (e : va_E) : gw_M := fun q => if q = a then some e else M q
theorem gw_s {M : gw_M} {a : Nat} {e : va_E} : gw_up M a e a = some e := if_pos rfl
theorem gw_n {M : gw_M} {a q : Nat} {e : va_E} (h : q ≠ a) : gw_up M a e q = M q := if_neg h
theorem gw_k {M : gw_M} {a q : Nat} {e f : va_E} (h : q ≠ a) (hq : M q = some f) : gw_up M a e q = some f := (gw_n h).trans hq
/-- a cell that is there, beside a new one -/
theorem gw_o {M : gw_M} {a q : Nat} {e f : va_E} (h : M a = none) (hq : M q = some f) : gw_up M a e q = some f := gw_k (fun z => by rw [z, h] at hq; cases hq) hq
theorem gw_ne {M : gw_M} {a q : Nat} {f : va_E} (h : M a = none) (hq : M q = some f) : q ≠ a := fun z => by rw [z, h] at hq; cases hq
theorem gw_uu {M : gw_M} {a : Nat} {e f : va_E} : gw_up (gw_up M a e) a f = gw_up M a f := by
  funext q
  unfold gw_up
  split <;> rfl
theorem gw_same {M : gw_M} {a : Nat} {e : va_E} (h : M a = some e) : gw_up M a e = M := by
  funext q
  unfold gw_up
  split
  · next z => rw [z, h]
  · rfl
def gw_L (M : gw_M) (ws : va_W) : Prop := ∀ (a : Nat) (e : va_E), M a = some e ↔ ∃ k : Nat, ws[k]? = some (a, e)
theorem gw_L.set {M : gw_M} {ws : va_W} {A : Nat → Prop} {a k : Nat} {e0 e : va_E} (h : gw_L M ws) (hD : va_D A ws) (hk : ws[k]? = some (a, e0)) : gw_L (gw_up M a e) (ws.set k (a, e)) := by
  intro b f
  have hlt : k < ws.length := (List.getElem?_eq_some_iff.mp hk).1
  by_cases hb : b = a
  · subst hb
    rw [gw_s]
    constructor
    · intro q
      cases q
      exact ⟨k, by rw [List.getElem?_set_self hlt]⟩
    · rintro ⟨j, hj⟩
      by_cases hjk : k = j
      · subst hjk
        rw [List.getElem?_set_self hlt] at hj
        cases hj
        rfl
      · rw [List.getElem?_set_ne hjk] at hj
        exact absurd (hD.1 k j _ _ hk hj rfl) hjk
  · rw [gw_n hb, h b f]
    constructor
    · rintro ⟨j, hj⟩
      have hjk : k ≠ j := fun q => hb (by subst q; rw [hk] at hj; cases hj; rfl)
      exact ⟨j, by rw [List.getElem?_set_ne hjk]; exact hj⟩
    · rintro ⟨j, hj⟩
      have hjk : k ≠ j := fun q => hb (by subst q; rw [List.getElem?_set_self hlt] at hj; cases hj; rfl)
      rw [List.getElem?_set_ne hjk] at hj
      exact ⟨j, hj⟩
theorem gw_L.push {M : gw_M} {ws : va_W} {A : Nat → Prop} {a : Nat} {e : va_E} (h : gw_L M ws) (hD : va_D A (ws ++ [(a, e)])) : M a = none ∧ gw_L (gw_up M a e) (ws ++ [(a, e)]) := by
  have hl : (ws ++ [(a, e)])[ws.length]? = some (a, e) := by simp
  have hno : ∀ (k : Nat) (f : va_E), ws[k]? ≠ some (a, f) := by
    intro k f hk
    have hlt : k < ws.length := (List.getElem?_eq_some_iff.mp hk).1
    have h1 : (ws ++ [(a, e)])[k]? = some (a, f) := by rw [List.getElem?_append_left hlt]; exact hk
    have h2 := hD.1 k ws.length _ _ h1 hl rfl
    omega
  have hn : M a = none := by
    cases hm : M a with
    | none => rfl
    | some f =>
      obtain ⟨k, hk⟩ := (h a f).mp hm
      exact absurd hk (hno k f)
  refine ⟨hn, fun b f => ?_⟩
  by_cases hb : b = a
  · subst hb
    rw [gw_s]
    constructor
    · intro q
      cases q
      exact ⟨_, hl⟩
    · rintro ⟨j, hj⟩
      have hjl : j < (ws ++ [(b, e)]).length := (List.getElem?_eq_some_iff.mp hj).1
      have := hD.1 j ws.length _ _ hj hl rfl
      subst this
      rw [hl] at hj
      cases hj
      rfl
  · rw [gw_n hb, h b f]
    constructor
    · rintro ⟨j, hj⟩
      have hlt : j < ws.length := (List.getElem?_eq_some_iff.mp hj).1
      exact ⟨j, by rw [List.getElem?_append_left hlt]; exact hj⟩
    · rintro ⟨j, hj⟩
      by_cases hlt : j < ws.length
      · rw [List.getElem?_append_left hlt] at hj
        exact ⟨j, hj⟩
      · rw [List.getElem?_append_right (by omega)] at hj
        have hz : j - ws.length < 1 := (List.getElem?_eq_some_iff.mp hj).1
        rw [show j - ws.length = 0 by omega] at hj
        cases hj
        exact absurd rfl hb
/-- what a body knows of its heap: the world M, nothing below b0 changed since H0 -/
def gw_B (K : gw_C) (M : gw_M) (H0 H : Heap) (locs : List Loc) : Prop := ∃ ws : va_W, gw_L M ws ∧ va_P K.1 vwCl ws H ∧ va_D (gw_A K) ws ∧ va_S (gw_A K) H0 H locs ∧ K.2.2.1 ≤ H0.size
theorem gw_B.S {K : gw_C} {M : gw_M} {H0 H : Heap} {locs : List Loc} (h : gw_B K M H0 H locs) : va_S (gw_A K) H0 H locs := by
  obtain ⟨_, -, -, -, h, -⟩ := h
  exact h
theorem gw_B.b0 {K : gw_C} {M : gw_M} {H0 H : Heap} {locs : List Loc} (h : gw_B K M H0 H locs) : K.2.2.1 ≤ H0.size := by
  obtain ⟨_, -, -, -, -, h⟩ := h
  exact h
theorem gw_B.put {K : gw_C} {M : gw_M} {ws : va_W} {H0 H1 : Heap} {locs1 : List Loc} {a k : Nat} {e0 e : va_E} (hL : gw_L M ws) (hD0 : va_D (gw_A K) ws) (hk : ws[k]? = some (a, e0)) (h0 : K.2.2.1 ≤ H0.size) (hP : va_P K.1 vwCl (ws.set k (a, e)) H1) (hD : va_D (gw_A K) (ws.set k (a, e))) (hS : va_S (gw_A K) H0 H1 locs1) : gw_B K (gw_up M a e) H0 H1 locs1 :=
  ⟨_, hL.set hD0 hk, hP, hD, hS, h0⟩
section GwRows
variable {p : Program} {l : Launch} {e : Env} {R : Room} {s : State} {m : MethodId} {args : Array Value} {below : List Frame} {meth : Method} {c : Code} {H : Heap} {locs : List Loc} {cells slots : Nat} {Q : State → Prop}
variable {cc : ByteArray} {pc : Nat} {ls : Array Slot} {rest : List Value} {K : gw_C} {M : gw_M} {a : Nat} {tys : List (ClassId × FieldType)} {H0 : Heap}
theorem gw_get (hexec : p.tables.exec = Jvm.exec) (hb : c.code = cc) {own ref C : String} {T : u_T} {N ci index : Nat} {Ts : List Cond} (hts : ∀ w ∈ Ts, w.before args s = true) (hin : ∀ w ∈ u_ws C T N, w ∈ Ts) (hown : s.vm.findClass own = some m.cls) (hK : va_K K.1 vwCl tys s) (hG : gw_B K M H0 H locs) {fs : List Value} (hM : M a = some (.inr (ci, fs))) (hc : vwCl[ci]? = some (C, T, N)) (k : Nat) (hk : k < N) (hlink : (Cond.fieldLink own index ref (T k).2.1 (T k).2.2.1).before args s = true) (hsame : ∀ x, s.fieldFound? (T k).1 (T k).2.1 (T k).2.2.1 = some x → s.fieldFound? ref (T k).2.1 (T k).2.2.1 = some x) {v : Value} (hv : fs[k]? = some v) (hdg : decode cc pc = .ok (.getfield index, 3))
    (kk : W p l e R s m args below meth c H locs cells slots Q (F0 m (pc + 3) ls (v :: rest))) : W p l e R s m args below meth c H locs cells slots Q (F0 m pc ls (.ref a :: rest)) := by
  obtain ⟨ws, hL, hP, hD, hS, h0⟩ := hG
  obtain ⟨q0, hq⟩ := (hL _ _).mp hM
  exact va_get hexec hb hts hin hown hK hP q0 hq hc k hk hlink hsame hv hdg kk
theorem gw_getN (hexec : p.tables.exec = Jvm.exec) (hb : c.code = cc) {own ref C host : String} {T : u_T} {N ci index : Nat} {Ts : List Cond} (hts : ∀ w ∈ Ts, w.before args s = true) (hin : ∀ w ∈ u_ws C T N, w ∈ Ts) (hown : s.vm.findClass own = some m.cls) (hK : va_K K.1 vwCl tys s) (hG : gw_B K M H0 H locs) {fs : List Value} (hM : M a = some (.inr (ci, fs))) (hc : vwCl[ci]? = some (C, T, N)) (k : Nat) (hk : k < N) (hlink : (Cond.fieldLinkNest own index ref (T k).2.1 (T k).2.2.1 host).before args s = true) (hsame : ∀ x, s.fieldFound? (T k).1 (T k).2.1 (T k).2.2.1 = some x → s.fieldFound? ref (T k).2.1 (T k).2.2.1 = some x) {v : Value} (hv : fs[k]? = some v) (hdg : decode cc pc = .ok (.getfield index, 3))
    (kk : W p l e R s m args below meth c H locs cells slots Q (F0 m (pc + 3) ls (v :: rest))) : W p l e R s m args below meth c H locs cells slots Q (F0 m pc ls (.ref a :: rest)) := by
  obtain ⟨ws, hL, hP, hD, hS, h0⟩ := hG
  obtain ⟨q0, hq⟩ := (hL _ _).mp hM
  exact va_getN hexec hb hts hin hown hK hP q0 hq hc k hk hlink hsame hv hdg kk
theorem gw_put (hexec : p.tables.exec = Jvm.exec) (hb : c.code = cc) {own ref C : String} {T : u_T} {N ci index : Nat} {Ts : List Cond} (hts : ∀ w ∈ Ts, w.before args s = true) (hin : ∀ w ∈ u_ws C T N, w ∈ Ts) (ty0 : Nat → FieldType) (hty : ∀ k, k < N → parseFieldDescriptor (T k).2.2.1 = some (ty0 k)) (hnm : ∀ a, a < N → ∀ b, b < N → a ≠ b → (T a).2.1 ≠ (T b).2.1) (hown : s.vm.findClass own = some m.cls) (hK : va_K K.1 vwCl tys s) (hG : gw_B K M H0 H locs) {fs : List Value} (hM : M a = some (.inr (ci, fs))) (hc : vwCl[ci]? = some (C, T, N)) (k : Nat) (hk : k < N) (hlink : (Cond.fieldLink own index ref (T k).2.1 (T k).2.2.1).before args s = true) (hsame : ∀ x, s.fieldFound? (T k).1 (T k).2.1 (T k).2.2.1 = some x → s.fieldFound? ref (T k).2.1 (T k).2.2.1 = some x) (hfin : (T k).2.2.2 = false) {ty : FieldType} {v : Value} (hd : parseFieldDescriptor (T k).2.2.1 = some ty) (hn : narrow ty v = v) (hfit : fits ty v = true) (hl : k < fs.length)
    (hdg : decode cc pc = .ok (.putfield index, 3)) (kk : ∀ (H1 : Heap) (locs1 : List Loc), gw_B K (gw_up M a (.inr (ci, fs.set k v))) H0 H1 locs1 → W p l e R s m args below meth c H1 locs1 cells slots Q (F0 m (pc + 3) ls rest)) : W p l e R s m args below meth c H locs cells slots Q (F0 m pc ls (v :: .ref a :: rest)) := by
  obtain ⟨ws, hL, hP, hD, hS, h0⟩ := hG
  obtain ⟨q0, hq⟩ := (hL _ _).mp hM
  exact va_put hexec hb hts hin ty0 hty hnm hown hK hP hD hS q0 hq hc k hk hlink hsame hfin hd hn hfit hl hdg (fun H1 locs1 hP1 hD1 hS1 => kk H1 locs1 (gw_B.put hL hD hq h0 hP1 hD1 hS1))
theorem gw_putF (hexec : p.tables.exec = Jvm.exec) (hb : c.code = cc) {own ref C : String} {T : u_T} {N ci index : Nat} {Ts : List Cond} (hts : ∀ w ∈ Ts, w.before args s = true) (hin : ∀ w ∈ u_ws C T N, w ∈ Ts) (ty0 : Nat → FieldType) (hty : ∀ k, k < N → parseFieldDescriptor (T k).2.2.1 = some (ty0 k)) (hnm : ∀ a, a < N → ∀ b, b < N → a ≠ b → (T a).2.1 ≠ (T b).2.1) (hown : s.vm.findClass own = some m.cls) (hK : va_K K.1 vwCl tys s) (hG : gw_B K M H0 H locs) {fs : List Value} (hM : M a = some (.inr (ci, fs))) (hc : vwCl[ci]? = some (C, T, N)) (k : Nat) (hk : k < N) (hlink : (Cond.fieldLink own index ref (T k).2.1 (T k).2.2.1).before args s = true) (hsame : ∀ x, s.fieldFound? (T k).1 (T k).2.1 (T k).2.2.1 = some x → s.fieldFound? ref (T k).2.1 (T k).2.2.1 = some x) (hfin : (T k).2.2.2 = true) (hin2 : meth.name = "<init>") (hdecl : (T k).1 = own) {ty : FieldType} {v : Value} (hd : parseFieldDescriptor (T k).2.2.1 = some ty) (hn : narrow ty v = v) (hfit : fits ty v = true) (hl : k < fs.length)
    (hdg : decode cc pc = .ok (.putfield index, 3)) (kk : ∀ (H1 : Heap) (locs1 : List Loc), gw_B K (gw_up M a (.inr (ci, fs.set k v))) H0 H1 locs1 → W p l e R s m args below meth c H1 locs1 cells slots Q (F0 m (pc + 3) ls rest)) : W p l e R s m args below meth c H locs cells slots Q (F0 m pc ls (v :: .ref a :: rest)) := by
  obtain ⟨ws, hL, hP, hD, hS, h0⟩ := hG
  obtain ⟨q0, hq⟩ := (hL _ _).mp hM
  exact va_putF hexec hb hts hin ty0 hty hnm hown hK hP hD hS q0 hq hc k hk hlink hsame hfin hin2 hdecl hd hn hfit hl hdg (fun H1 locs1 hP1 hD1 hS1 => kk H1 locs1 (gw_B.put hL hD hq h0 hP1 hD1 hS1))
theorem gw_iald (hexec : p.tables.exec = Jvm.exec) (hb : c.code = cc) (hK : va_K K.1 vwCl tys s) (hG : gw_B K M H0 H locs) {cA : ClassId} {n : Nat} {f : Nat → Int32} (hM : M a = some (.inl (cA, n, .inl f))) (t0 : Nat) (ht : tys[t0]? = some (cA, .int)) {i : Int32} (hin : vp_in i n) (hdg : decode cc pc = .ok (.iaload, 1))
    (kk : W p l e R s m args below meth c H locs cells slots Q (F0 m (pc + 1) ls (.int (f i.toNatClampNeg) :: rest))) : W p l e R s m args below meth c H locs cells slots Q (F0 m pc ls (.int i :: .ref a :: rest)) := by
  obtain ⟨ws, hL, hP, hD, hS, h0⟩ := hG
  obtain ⟨q0, hq⟩ := (hL _ _).mp hM
  exact va_iald hexec hb hK hP q0 t0 hq ht hin hdg kk
theorem gw_lald (hexec : p.tables.exec = Jvm.exec) (hb : c.code = cc) (hK : va_K K.1 vwCl tys s) (hG : gw_B K M H0 H locs) {cA : ClassId} {n : Nat} {f : Nat → Int64} (hM : M a = some (.inl (cA, n, .inr (.inl f)))) (t0 : Nat) (ht : tys[t0]? = some (cA, .long)) {i : Int32} (hin : vp_in i n) (hdg : decode cc pc = .ok (.laload, 1))
    (kk : W p l e R s m args below meth c H locs cells slots Q (F0 m (pc + 1) ls (.long (f i.toNatClampNeg) :: rest))) : W p l e R s m args below meth c H locs cells slots Q (F0 m pc ls (.int i :: .ref a :: rest)) := by
  obtain ⟨ws, hL, hP, hD, hS, h0⟩ := hG
  obtain ⟨q0, hq⟩ := (hL _ _).mp hM
  exact va_lald hexec hb hK hP q0 t0 hq ht hin hdg kk
theorem gw_aldq (hexec : p.tables.exec = Jvm.exec) (hb : c.code = cc) (hK : va_K K.1 vwCl tys s) (hG : gw_B K M H0 H locs) {cA : ClassId} {C : String} {n : Nat} {f : Nat → Option Nat} (hM : M a = some (.inl (cA, n, .inr (.inr (.inr (.inr f)))))) (t0 : Nat) (ht : tys[t0]? = some (cA, .object C)) {i : Int32} (hin : vp_in i n) (hdg : decode cc pc = .ok (.aaload, 1))
    (kk : W p l e R s m args below meth c H locs cells slots Q (F0 m (pc + 1) ls (va_rf (f i.toNatClampNeg) :: rest))) : W p l e R s m args below meth c H locs cells slots Q (F0 m pc ls (.int i :: .ref a :: rest)) := by
  obtain ⟨ws, hL, hP, hD, hS, h0⟩ := hG
  obtain ⟨q0, hq⟩ := (hL _ _).mp hM
  exact va_aldq hexec hb hK hP q0 t0 hq ht hin hdg kk
theorem gw_iast (hexec : p.tables.exec = Jvm.exec) (hb : c.code = cc) (hK : va_K K.1 vwCl tys s) (hG : gw_B K M H0 H locs) {cA : ClassId} {n : Nat} {f : Nat → Int32} (hM : M a = some (.inl (cA, n, .inl f))) (t0 : Nat) (ht : tys[t0]? = some (cA, .int)) {i x : Int32} (hin : vp_in i n) (hdg : decode cc pc = .ok (.iastore, 1))
    (kk : ∀ (H1 : Heap) (locs1 : List Loc), gw_B K (gw_up M a (.inl (cA, n, .inl (upd f i.toNatClampNeg x)))) H0 H1 locs1 → W p l e R s m args below meth c H1 locs1 cells slots Q (F0 m (pc + 1) ls rest)) : W p l e R s m args below meth c H locs cells slots Q (F0 m pc ls (.int x :: .int i :: .ref a :: rest)) := by
  obtain ⟨ws, hL, hP, hD, hS, h0⟩ := hG
  obtain ⟨q0, hq⟩ := (hL _ _).mp hM
  exact va_iast hexec hb hK hP hD hS q0 t0 hq ht hin hdg (fun H1 locs1 hP1 hD1 hS1 => kk H1 locs1 (gw_B.put hL hD hq h0 hP1 hD1 hS1))
theorem gw_last (hexec : p.tables.exec = Jvm.exec) (hb : c.code = cc) (hK : va_K K.1 vwCl tys s) (hG : gw_B K M H0 H locs) {cA : ClassId} {n : Nat} {f : Nat → Int64} (hM : M a = some (.inl (cA, n, .inr (.inl f)))) (t0 : Nat) (ht : tys[t0]? = some (cA, .long)) {i : Int32} {x : Int64} (hin : vp_in i n) (hdg : decode cc pc = .ok (.lastore, 1))
    (kk : ∀ (H1 : Heap) (locs1 : List Loc), gw_B K (gw_up M a (.inl (cA, n, .inr (.inl (vp_updL f i.toNatClampNeg x))))) H0 H1 locs1 → W p l e R s m args below meth c H1 locs1 cells slots Q (F0 m (pc + 1) ls rest)) : W p l e R s m args below meth c H locs cells slots Q (F0 m pc ls (.long x :: .int i :: .ref a :: rest)) := by
  obtain ⟨ws, hL, hP, hD, hS, h0⟩ := hG
  obtain ⟨q0, hq⟩ := (hL _ _).mp hM
  exact va_last hexec hb hK hP hD hS q0 t0 hq ht hin hdg (fun H1 locs1 hP1 hD1 hS1 => kk H1 locs1 (gw_B.put hL hD hq h0 hP1 hD1 hS1))
theorem gw_astq (hexec : p.tables.exec = Jvm.exec) (hb : c.code = cc) (hK : va_K K.1 vwCl tys s) (hG : gw_B K M H0 H locs) {cA : ClassId} {r : vw_C} {n v : Nat} {vs : List Value} {f : Nat → Option Nat} (hM : M a = some (.inl (cA, n, .inr (.inr (.inr (.inr f)))))) (t0 : Nat) (ht : tys[t0]? = some (cA, .object r.1)) (ci : Nat) (hv : M v = some (.inr (ci, vs))) (hc : vwCl[ci]? = some r) {i : Int32} (hin : vp_in i n) (hdg : decode cc pc = .ok (.aastore, 1))
    (kk : ∀ (H1 : Heap) (locs1 : List Loc), gw_B K (gw_up M a (.inl (cA, n, .inr (.inr (.inr (.inr (va_up f i.toNatClampNeg (some v)))))))) H0 H1 locs1 → W p l e R s m args below meth c H1 locs1 cells slots Q (F0 m (pc + 1) ls rest)) : W p l e R s m args below meth c H locs cells slots Q (F0 m pc ls (.ref v :: .int i :: .ref a :: rest)) := by
  obtain ⟨ws, hL, hP, hD, hS, h0⟩ := hG
  obtain ⟨q0, hq⟩ := (hL _ _).mp hM
  obtain ⟨qk, hqk⟩ := (hL _ _).mp hv
  exact va_astq hexec hb hK hP hD hS q0 t0 qk ci hq ht hqk hc hin hdg (fun H1 locs1 hP1 hD1 hS1 => kk H1 locs1 (gw_B.put hL hD hq h0 hP1 hD1 hS1))
theorem gw_astqO (hexec : p.tables.exec = Jvm.exec) (hb : c.code = cc) (hK : va_K K.1 vwCl tys s) (hG : gw_B K M H0 H locs) {E : String} {cA : ClassId} {r : vw_C} {n v : Nat} {vs : List Value} {f : Nat → Option Nat} (hM : M a = some (.inl (cA, n, .inr (.inr (.inr (.inr f)))))) (t0 : Nat) (ht : tys[t0]? = some (cA, .object E)) (hca : va_Nw (.castable r.1 E) s) (ci : Nat) (hv : M v = some (.inr (ci, vs))) (hc : vwCl[ci]? = some r) {i : Int32} (hin : vp_in i n) (hdg : decode cc pc = .ok (.aastore, 1))
    (kk : ∀ (H1 : Heap) (locs1 : List Loc), gw_B K (gw_up M a (.inl (cA, n, .inr (.inr (.inr (.inr (va_up f i.toNatClampNeg (some v)))))))) H0 H1 locs1 → W p l e R s m args below meth c H1 locs1 cells slots Q (F0 m (pc + 1) ls rest)) : W p l e R s m args below meth c H locs cells slots Q (F0 m pc ls (.ref v :: .int i :: .ref a :: rest)) := by
  obtain ⟨ws, hL, hP, hD, hS, h0⟩ := hG
  obtain ⟨q0, hq⟩ := (hL _ _).mp hM
  obtain ⟨qk, hqk⟩ := (hL _ _).mp hv
  exact va_astqO hexec hb hK hP hD hS q0 t0 qk ci hq ht hca hqk hc hin hdg (fun H1 locs1 hP1 hD1 hS1 => kk H1 locs1 (gw_B.put hL hD hq h0 hP1 hD1 hS1))
theorem gw_astqN (hexec : p.tables.exec = Jvm.exec) (hb : c.code = cc) (hK : va_K K.1 vwCl tys s) (hG : gw_B K M H0 H locs) {cA : ClassId} {C : String} {n : Nat} {f : Nat → Option Nat} (hM : M a = some (.inl (cA, n, .inr (.inr (.inr (.inr f)))))) (t0 : Nat) (ht : tys[t0]? = some (cA, .object C)) {i : Int32} (hin : vp_in i n) (hdg : decode cc pc = .ok (.aastore, 1))
    (kk : ∀ (H1 : Heap) (locs1 : List Loc), gw_B K (gw_up M a (.inl (cA, n, .inr (.inr (.inr (.inr (va_up f i.toNatClampNeg none))))))) H0 H1 locs1 → W p l e R s m args below meth c H1 locs1 cells slots Q (F0 m (pc + 1) ls rest)) : W p l e R s m args below meth c H locs cells slots Q (F0 m pc ls (.null :: .int i :: .ref a :: rest)) := by
  obtain ⟨ws, hL, hP, hD, hS, h0⟩ := hG
  obtain ⟨q0, hq⟩ := (hL _ _).mp hM
  exact va_astqN hexec hb hK hP hD hS q0 t0 hq ht hin hdg (fun H1 locs1 hP1 hD1 hS1 => kk H1 locs1 (gw_B.put hL hD hq h0 hP1 hD1 hS1))
theorem gw_alen (hexec : p.tables.exec = Jvm.exec) (hb : c.code = cc) (hK : va_K K.1 vwCl tys s) (hG : gw_B K M H0 H locs) {cA : ClassId} {x : vp_A} (hM : M a = some (.inl (cA, x))) (t0 : Nat) {ty : FieldType} (ht : tys[t0]? = some (cA, ty)) {v : Int32} (hv : Int32.ofNat x.1 = v) (hdg : decode cc pc = .ok (.arraylength, 1))
    (kk : W p l e R s m args below meth c H locs cells slots Q (F0 m (pc + 1) ls (.int v :: rest))) : W p l e R s m args below meth c H locs cells slots Q (F0 m pc ls (.ref a :: rest)) := by
  obtain ⟨ws, hL, hP, hD, hS, h0⟩ := hG
  obtain ⟨q0, hq⟩ := (hL _ _).mp hM
  exact va_alen hexec hb hK hP q0 t0 hq ht hv hdg kk
theorem gw_new (hexec : p.tables.exec = Jvm.exec) (hb : c.code = cc) {own C : String} {T : u_T} {N ci index : Nat} {Ts : List Cond} (hts : ∀ w ∈ Ts, w.before args s = true) (hin : ∀ w ∈ u_ws C T N, w ∈ Ts) (ty : Nat → FieldType) (hty : ∀ k, k < N → parseFieldDescriptor (T k).2.2.1 = some (ty k)) (hown : s.vm.findClass own = some m.cls) (hcl : (Cond.classLink own index C).before args s = true) (hinst : (Cond.instantiable C N).before args s = true) (hini : (Cond.initialized C).before args s = true)
    (hK : va_K K.1 vwCl tys s) (hG : gw_B K M H0 H locs) (hc : vwCl[ci]? = some (C, T, N)) {fs : List Value} (hfs : ∀ j, j < N → defaultValue (ty j) = vp_V fs j) (hcells : cells + 1 ≤ R.cells) (hslots : slots + N ≤ R.slots) (hdg : decode cc pc = .ok (.new index, 3))
    (kk : ∀ (q : Nat) (H1 : Heap), M q = none → gw_B K (gw_up M q (.inr (ci, fs))) H0 H1 locs → W p l e R s m args below meth c H1 locs (cells + 1) (slots + N) Q (F0 m (pc + 3) ls (.ref q :: rest))) : W p l e R s m args below meth c H locs cells slots Q (F0 m pc ls rest) := by
  obtain ⟨ws, hL, hP, hD, hS, h0⟩ := hG
  exact va_new hexec hb hts hin ty hty hown hcl hinst hini hK hP hD hS (fun q h => Nat.le_trans h0 h) hc hfs hcells hslots hdg (fun q H1 hP1 hD1 hS1 => kk q H1 (hL.push hD1).1 ⟨_, (hL.push hD1).2, hP1, hD1, hS1, h0⟩)
/-- an array class has one number -/
theorem gw_one {D : va_G} {cl : List vw_C} {cA cB : ClassId} {ty : FieldType} {t0 : Nat} {x : ClassId × FieldType} (hK : va_K D cl tys s) (hK2 : va_K D cl (tys ++ [x]) s) (hx : x = (cB, ty)) (ht : tys[t0]? = some (cA, ty)) : cB = cA := by
  subst hx
  have h1 := (hK.2 t0 _ ht).2
  have h2 := (hK2.2 tys.length (cB, ty) (by simp)).2
  cases ty with
  | object C =>
    obtain ⟨_, _, -, -, -, e1⟩ := h1
    obtain ⟨_, _, -, -, -, e2⟩ := h2
    exact Option.some.inj (e2.symm.trans e1)
  | _ => exact Option.some.inj (Eq.trans (Eq.symm h2) h1)
theorem gw_newa (hexec : p.tables.exec = Jvm.exec) (hb : c.code = cc) {atype : ArrayType} (harr : (Cond.arrayClass (newarray.typeOf atype)).before args s = true) {ty : FieldType} (hty : newarray.typeOf atype = ty) (hK : va_K K.1 vwCl tys s) (hG : gw_B K M H0 H locs) (t0 : Nat) {cA : ClassId} (ht : tys[t0]? = some (cA, ty))
    {n : Int32} {N' : Nat} {a0 : vp_A} (ha : ∀ cA : ClassId, vp_cell cA a0 = arrV cA N' (fun _ => defaultValue ty)) (hn : ¬ n < 0) (hN : n.toNatClampNeg = N') (hbytes : N' * componentBytes ty ≤ 536870912) (hcells : cells + 1 ≤ R.cells) (hslots : slots + N' ≤ R.slots) (hdg : decode cc pc = .ok (.newarray atype, 2))
    (kk : ∀ (q : Nat) (H1 : Heap), M q = none → gw_B K (gw_up M q (.inl (cA, a0))) H0 H1 locs →
      W p l e R s m args below meth c H1 locs (cells + 1) (slots + N') Q (F0 m (pc + 2) ls (.ref q :: rest))) : W p l e R s m args below meth c H locs cells slots Q (F0 m pc ls (.int n :: rest)) := by
  obtain ⟨ws, hL, hP, hD, hS, h0⟩ := hG
  refine va_newa hexec hb harr hty hK hP hD hS (fun q h => Nat.le_trans h0 h) ha hn hN hbytes hcells hslots hdg (fun q cB H1 hK2 hP1 hD1 hS1 => ?_)
  have hE := gw_one hK hK2 rfl ht
  subst hE
  exact kk q H1 (hL.push hD1).1 ⟨_, (hL.push hD1).2, hP1, hD1, hS1, h0⟩
theorem gw_newq (hexec : p.tables.exec = Jvm.exec) (hb : c.code = cc) {own C : String} {index : Nat} (hown : s.vm.findClass own = some m.cls) (hclink : (Cond.classLink own index C).before args s = true) (hover : va_AO C s) (hK : va_K K.1 vwCl tys s) (hG : gw_B K M H0 H locs) (t0 : Nat) {cA : ClassId} (ht : tys[t0]? = some (cA, .object C))
    {n : Int32} {N' : Nat} (hn : ¬ n < 0) (hN : n.toNatClampNeg = N') (hbytes : N' * 4 ≤ 536870912) (hcells : cells + 1 ≤ R.cells) (hslots : slots + N' ≤ R.slots) (hdg : decode cc pc = .ok (.anewarray index, 3))
    (kk : ∀ (q : Nat) (H1 : Heap), M q = none → gw_B K (gw_up M q (.inl (cA, N', .inr (.inr (.inr (.inr (fun _ => none))))))) H0 H1 locs →
      W p l e R s m args below meth c H1 locs (cells + 1) (slots + N') Q (F0 m (pc + 3) ls (.ref q :: rest))) : W p l e R s m args below meth c H locs cells slots Q (F0 m pc ls (.int n :: rest)) := by
  obtain ⟨ws, hL, hP, hD, hS, h0⟩ := hG
  refine va_newq hexec hb hown hclink hover hK hP hD hS (fun q h => Nat.le_trans h0 h) hn hN hbytes hcells hslots hdg (fun q cB H1 hK2 hP1 hD1 hS1 => ?_)
  have hE := gw_one hK hK2 rfl ht
  subst hE
  exact kk q H1 (hL.push hD1).1 ⟨_, (hL.push hD1).2, hP1, hD1, hS1, h0⟩
end GwRows
end
section
/-! WHAT EVERY CONTRACT HAS AT ITS START AND ITS END: the world, the tables' facts, the statics. -/
abbrev gw_tys (K : gw_C) : List (ClassId × FieldType) := [(K.2.1 0, .int), (K.2.1 1, .long), (K.2.1 2, .object "DotGossip$Holding"), (K.2.1 3, .object "java/lang/Object")]
def gw_dec (C : String) : Cond := .declares ⟨C, "<init>", "()V"⟩
/-- words that a callee's list can't hold -/
def gw_N (U : State) : Prop :=
  (va_Nw (gw_dec "java/lang/RuntimeException") U ∧ va_Nw (gw_dec "java/lang/Exception") U ∧ va_Nw (gw_dec "java/lang/Throwable") U) ∧
  (va_Nw (.castable "java/lang/IllegalArgumentException" "java/lang/IllegalArgumentException") U ∧ va_Nw (.castable "java/lang/IllegalStateException" "java/lang/IllegalStateException") U) ∧
  (va_Nw (.castable "DotGossip$Message" "DotGossip$Message") U ∧ va_Nw (.castable "DotGossip$Message" "java/lang/Object") U) ∧
  (va_AO "DotGossip$Holding" U ∧ va_AO "java/lang/Object" U) ∧ va_Nc "java/lang/IllegalStateException" "java/lang/IllegalArgumentException" U
theorem gw_nD {x : MethodName} {u U : State} (hvm : u.vm.Alike U.vm) (h : va_Nw (.declares x) u) : va_Nw (.declares x) U := va_tabs rfl (rfl : (u.setVm U.vm).vm = U.vm) (by rw [Cond.declares_setVm hvm]; exact h)
theorem gw_nC {C T : String} {u U : State} (hvm : u.vm.Alike U.vm) (h : va_Nw (.castable C T) u) : va_Nw (.castable C T) U := va_tabs rfl (rfl : (u.setVm U.vm).vm = U.vm) (by rw [Cond.castable_setVm hvm]; exact h)
theorem gw_N.moved {u U : State} (hvm : u.vm.Alike U.vm) (h : gw_N u) : gw_N U := by
  obtain ⟨⟨a1, a2, a3⟩, ⟨b1, b2⟩, ⟨c1, c2⟩, ⟨d1, d2⟩, e1⟩ := h
  exact ⟨⟨gw_nD hvm a1, gw_nD hvm a2, gw_nD hvm a3⟩, ⟨gw_nC hvm b1, gw_nC hvm b2⟩, ⟨gw_nC hvm c1, gw_nC hvm c2⟩, ⟨va_AO.moved hvm d1, va_AO.moved hvm d2⟩, va_Nc.moved hvm e1⟩
def gw_S (K : gw_C) (U : State) (H : Heap) : Prop :=
  (vx_Zq Bundle.tN "UNASSIGNED_STACK" Bundle.steD (gw_A K) U H ∧ vx_Zq Bundle.tN "SUPPRESSED_SENTINEL" Bundle.listD (gw_A K) U H) ∧
  (va_Z "java/util/ArrayList" "DEFAULTCAPACITY_EMPTY_ELEMENTDATA" "[Ljava/lang/Object;" (.ref K.2.2.2.1) (gw_A K) U H ∧ va_T (.object "java/lang/Object") K.2.2.2.1 0 (fun _ => .null) (gw_A K) U H) ∧
  (va_Mi "[Ljava/lang/Object;" K.2.2.2.2 U ∧ va_Dc U)
theorem gw_S.moved {K : gw_C} {u U : State} {H : Heap} (hvm : u.vm.Alike U.vm) (h : gw_S K u H) : gw_S K U H := by
  obtain ⟨⟨a1, a2⟩, ⟨b1, b2⟩, c1, c2⟩ := h
  exact ⟨⟨a1.moved hvm, a2.moved hvm⟩, ⟨b1.moved hvm, b2.moved hvm⟩, c1.moved hvm, c2.moved hvm⟩
theorem gw_S.kept {K : gw_C} {U : State} {H H1 : Heap} (h : gw_S K U H) (hq : ∀ a : Nat, a < H.size → ¬ gw_A K a → H1[a]? = H[a]?) : gw_S K U H1 := by
  obtain ⟨⟨a1, a2⟩, ⟨b1, b2⟩, c1, c2⟩ := h
  exact ⟨⟨a1.kept hq, a2.kept hq⟩, ⟨b1.kept hq, b2.kept hq⟩, c1, c2⟩
/-- what a body knows of the tables and statics, at its own start -/
def gw_T (K : gw_C) (s : State) : Prop := va_K K.1 vwCl (gw_tys K) s ∧ gw_S K s s.heap ∧ gw_N s
theorem gw_T.K {K : gw_C} {s : State} (h : gw_T K s) : va_K K.1 vwCl (gw_tys K) s := h.1
/-- THE WORLD AT A CONTRACT'S START AND END -/
def gw_I (K : gw_C) (M : gw_M) (U : State) : Prop := (∃ ws : va_W, gw_L M ws ∧ va_P K.1 vwCl ws U.heap ∧ va_D (gw_A K) ws) ∧ K.2.2.1 ≤ U.heap.size ∧ gw_T K U
theorem gw_I.B {K : gw_C} {M : gw_M} {s : State} (h : gw_I K M s) : gw_B K M s.heap s.heap [] := by
  obtain ⟨⟨ws, h1, h2, h3⟩, h4, -⟩ := h
  exact ⟨ws, h1, h2, h3, va_S.rf, h4⟩
theorem gw_T.moved {K : gw_C} {s t : State} {H : Heap} {locs : List Loc} (h : gw_T K s) (hS : va_S (gw_A K) s.heap H locs) (ht : t.heap = H) (hW : s.vm.Alike t.vm) : gw_T K t :=
  ⟨va_K.moved hW h.1, by rw [ht]; exact (h.2.1.moved hW).kept hS.2.1, h.2.2.moved hW⟩
theorem gw_B.I {K : gw_C} {M : gw_M} {s t : State} {H : Heap} {locs : List Loc} (h : gw_B K M s.heap H locs) (hT : gw_T K s) (ht : t.heap = H) (hW : s.vm.Alike t.vm) : gw_I K M t := by
  obtain ⟨ws, h1, h2, h3, h4, h5⟩ := h
  exact ⟨⟨ws, h1, by rw [ht]; exact h2, h3⟩, by rw [ht]; exact Nat.le_trans h5 h4.1, hT.moved h4 ht hW⟩
theorem gw_blind {K : gw_C} {M : gw_M} {av : List Value} : FrameBlind (va_Pc av (gw_I K M)) := by
  intro a U g mk q
  obtain ⟨q0, ⟨ws, q1, q2, q3⟩, q4, q5, q6, q7⟩ := q
  exact ⟨q0, ⟨ws, q1, q2, q3⟩, q4, va_K.moved (u := U) (U := U.calling g mk a) (Vm.Alike.refl U.vm) q5, gw_S.moved (u := U) (U := U.calling g mk a) (Vm.Alike.refl U.vm) q6, q7⟩
theorem gw_preS {K : gw_C} {M : gw_M} {s : State} {H : Heap} {locs : List Loc} (hG : gw_B K M s.heap H locs) (hT : gw_T K s) {As : List Value} : PreS s H (va_Pc As (gw_I K M)) As :=
  ⟨gw_blind, fun _ hU hW => ⟨rfl, hG.I hT hU hW.alike⟩⟩
theorem gw_preV {K : gw_C} {M : gw_M} {s : State} {H : Heap} {locs : List Loc} (hG : gw_B K M s.heap H locs) (hT : gw_T K s) {As : List Value} {b ci : Nat} {fs : List Value} {r : vw_C} (hM : M b = some (.inr (ci, fs))) (hc : vwCl[ci]? = some r) : PreV s H r.1 b (va_Pc (.ref b :: As) (gw_I K M)) As := by
  refine ⟨gw_blind, ?_, fun _ hU hW => ⟨rfl, hG.I hT hU hW.alike⟩⟩
  obtain ⟨ws, hL, hP, hD, hS, h0⟩ := hG
  obtain ⟨q0, hq⟩ := (hL _ _).mp hM
  exact va_recv hT.1 hP hc hq
section GwEnds
variable {p : Program} {l : Launch} {e : Env} {R : Room} {s : State} {m : MethodId} {args : Array Value} {below : List Frame} {meth : Method} {c : Code} {H : Heap} {locs : List Loc} {cells slots : Nat} {Q : State → Prop}
variable {cc : ByteArray} {pc : Nat} {ls : Array Slot} {rest st0 : List Value} {K : gw_C} {M : gw_M} {a : Array Value} {mc ms : Nat}
theorem gw_calli {post : Int32 → gw_M → Prop} (hr : va_Run p l e R s m args below meth c H locs cells slots mc ms (F0 m pc ls st0) rest (va_Qi post (gw_I K) (gw_A K) a) (gw_A K)) (hG : gw_B K M s.heap H locs)
    (kk : ∀ (r : Int32) (M1 : gw_M) (H1 : Heap) (locs1 : List Loc), post r M1 → gw_B K M1 s.heap H1 locs1 → W p l e R s m args below meth c H1 locs1 (cells + mc) (slots + ms) Q (F0 m (pc + 3) ls (.int r :: rest))) : W p l e R s m args below meth c H locs cells slots Q (F0 m pc ls st0) := by
  refine va_calli hr hG.S (fun q _ h => h) (fun q h => h) (fun r u t H1 locs1 ht hvm hw hB hz hk hS => ?_)
  obtain ⟨⟨ws, h1, h2, h3⟩, h4, -⟩ := hB
  rw [ht] at h2
  exact kk r u H1 locs1 hw ⟨ws, h1, h2, h3, hS, hG.b0⟩
theorem gw_callv {post : gw_M → Prop} (hr : va_Run p l e R s m args below meth c H locs cells slots mc ms (F0 m pc ls st0) rest (va_Qv post (gw_I K) (gw_A K) a) (gw_A K)) (hG : gw_B K M s.heap H locs)
    (kk : ∀ (M1 : gw_M) (H1 : Heap) (locs1 : List Loc), post M1 → gw_B K M1 s.heap H1 locs1 → W p l e R s m args below meth c H1 locs1 (cells + mc) (slots + ms) Q (F0 m (pc + 3) ls rest)) : W p l e R s m args below meth c H locs cells slots Q (F0 m pc ls st0) := by
  refine va_callv hr hG.S (fun q _ h => h) (fun q h => h) (fun u t H1 locs1 ht hvm hw hB hz hk hS => ?_)
  obtain ⟨⟨ws, h1, h2, h3⟩, h4, -⟩ := hB
  rw [ht] at h2
  exact kk u H1 locs1 hw ⟨ws, h1, h2, h3, hS, hG.b0⟩
/-- a callee that answers a reference (some) or null (none) -/
theorem gw_callq {post : Option Nat → gw_M → Prop} (hr : va_Run p l e R s m args below meth c H locs cells slots mc ms (F0 m pc ls st0) rest (va_Qq post (gw_I K) (gw_A K) a) (gw_A K)) (hG : gw_B K M s.heap H locs)
    (kk : ∀ (r : Option Nat) (M1 : gw_M) (H1 : Heap) (locs1 : List Loc), post r M1 → gw_B K M1 s.heap H1 locs1 → W p l e R s m args below meth c H1 locs1 (cells + mc) (slots + ms) Q (F0 m (pc + 3) ls (va_rf r :: rest))) : W p l e R s m args below meth c H locs cells slots Q (F0 m pc ls st0) := by
  refine va_callq hr hG.S (fun q _ h => h) (fun q h => h) (fun r u t H1 locs1 ht hvm hw hB hz hk hS => ?_)
  obtain ⟨⟨ws, h1, h2, h3⟩, h4, -⟩ := hB
  rw [ht] at h2
  exact kk r u H1 locs1 hw ⟨ws, h1, h2, h3, hS, hG.b0⟩
theorem gw_iret {v : Int32} {post : Int32 → gw_M → Prop} (hexec : p.tables.exec = Jvm.exec) (hb : c.code = cc) (hr : meth.sig.returnType = some .int) (hlocks : meth.locks = false) (hG : gw_B K M s.heap H locs) (hT : gw_T K s) (hc : cells ≤ mc) (hs : slots ≤ ms) (hdg : decode cc pc = .ok (.ireturn, 1)) (hp : post v M) :
    W p l e R s m args below meth c H locs cells slots (MQ below (va_Qi post (gw_I K) (gw_A K)) args s mc ms (gw_A K)) (F0 m pc ls [.int v]) := by
  refine W.widen (k := mc) (n := ms) hc hs ?_
  exact W.iret hexec hb hr (fun t ht hW => ⟨⟨v, M, rfl, hp, hG.I hT ht hW.alike⟩, hG.S.F ht⟩) hG.S.2.2 hdg hlocks
theorem gw_zret {v : Int32} {post : Int32 → gw_M → Prop} (hexec : p.tables.exec = Jvm.exec) (hb : c.code = cc) (hr : meth.sig.returnType = some .boolean) (hlocks : meth.locks = false) (hG : gw_B K M s.heap H locs) (hT : gw_T K s) (hc : cells ≤ mc) (hs : slots ≤ ms) (hdg : decode cc pc = .ok (.ireturn, 1)) (hv : v = 0 ∨ v = 1) (hp : post v M) :
    W p l e R s m args below meth c H locs cells slots (MQ below (va_Qi post (gw_I K) (gw_A K)) args s mc ms (gw_A K)) (F0 m pc ls [.int v]) := by
  refine W.widen (k := mc) (n := ms) hc hs ?_
  exact W.zret hexec hb hr (by rcases hv with rfl | rfl <;> rfl) (fun t ht hW => ⟨⟨v, M, rfl, hp, hG.I hT ht hW.alike⟩, hG.S.F ht⟩) hG.S.2.2 hdg hlocks
theorem gw_vret {post : gw_M → Prop} (hexec : p.tables.exec = Jvm.exec) (hb : c.code = cc) (hr : meth.sig.returnType = none) (hlocks : meth.locks = false) (hG : gw_B K M s.heap H locs) (hT : gw_T K s) (hc : cells ≤ mc) (hs : slots ≤ ms) (hdg : decode cc pc = .ok (.return_, 1)) (hp : post M) :
    W p l e R s m args below meth c H locs cells slots (MQ below (va_Qv post (gw_I K) (gw_A K)) args s mc ms (gw_A K)) (F0 m pc ls []) := by
  refine W.widen (k := mc) (n := ms) hc hs ?_
  exact W.vret hexec hb hr (fun t ht hW => ⟨⟨M, rfl, hp, hG.I hT ht hW.alike⟩, hG.S.F ht⟩) hG.S.2.2 hdg hlocks
theorem gw_aret {v : Option Nat} {rt : FieldType} {post : Option Nat → gw_M → Prop} (hexec : p.tables.exec = Jvm.exec) (hb : c.code = cc) (hr : meth.sig.returnType = some rt) (hrt : (∃ n, rt = .object n) ∨ ∃ t, rt = .array t) (hlocks : meth.locks = false) (hG : gw_B K M s.heap H locs) (hT : gw_T K s) (hc : cells ≤ mc) (hs : slots ≤ ms) (hdg : decode cc pc = .ok (.areturn, 1)) (hp : post v M) :
    W p l e R s m args below meth c H locs cells slots (MQ below (va_Qq post (gw_I K) (gw_A K)) args s mc ms (gw_A K)) (F0 m pc ls [va_rf v]) := by
  refine W.widen (k := mc) (n := ms) hc hs ?_
  exact W.aret hexec hb hr hrt (va_rf_or v) (fun t ht hW => ⟨⟨v, M, rfl, hp, hG.I hT ht hW.alike⟩, hG.S.F ht⟩) hG.S.2.2 hdg hlocks
end GwEnds
/-- .. where the heap has grown behind it -/
theorem gw_B.Iext {K : gw_C} {M : gw_M} {s t : State} {H : Heap} {locs : List Loc} (h : gw_B K M s.heap H locs) (hT : gw_T K s) (hz : H.size ≤ t.heap.size) (hq : ∀ q : Nat, q < H.size → t.heap[q]? = H[q]?) (hW : s.vm.Alike t.vm) : gw_I K M t ∧ va_F (gw_A K) s t := by
  obtain ⟨ws, h1, h2, h3, h4, h5⟩ := h
  have hS : va_S (gw_A K) s.heap t.heap locs := ⟨Nat.le_trans h4.1 hz, fun q g1 g2 => (hq q (Nat.lt_of_lt_of_le g1 h4.1)).trans (h4.2.1 q g1 g2), h4.2.2⟩
  exact ⟨⟨⟨ws, h1, h2.kept (fun k x hx => hq x.1 ((h2 k x hx).lt)), h3⟩, Nat.le_trans h5 hS.1, hT.moved hS rfl hW⟩, hS.F rfl⟩
/-! METHODS THAT MAY THROW: px E M: what holds where E was thrown -/
def gw_X (K : gw_C) (px : String → gw_M → Prop) : String → State → State → Prop := vx_X (S := gw_M) (fun _ => True) (fun E M t => px E M ∧ gw_I K M t) (gw_A K)
section GwThrows
variable {p : Program} {l : Launch} {e : Env} {R : Room} {s : State} {m : MethodId} {args : Array Value} {below : List Frame} {meth : Method} {c : Code} {H : Heap} {locs : List Loc} {cells slots : Nat} {Q : State → Prop}
variable {cc : ByteArray} {pc : Nat} {ls : Array Slot} {rest st0 : List Value} {K : gw_C} {M : gw_M} {a : Array Value} {mc ms nc ns : Nat} {px py : String → gw_M → Prop} {Qc : Array Value → State → Outcome → State → Prop}
theorem gw_none (h : c.exceptionTable.isEmpty = true) : ∀ x ∈ c.exceptionTable.toList, covers x pc = false := by
  intro x hx
  have h0 : c.exceptionTable = #[] := by simpa using h
  rw [h0] at hx
  cases hx
/-- it isn't caught here -/
theorem gw_out (hemp : c.exceptionTable.isEmpty = true) (hlocks : meth.locks = false) {E : String} {ce : Cell} {q : Addr} (hG : gw_B K M s.heap H locs) (hT : gw_T K s) (hcell : H[q]? = some ce) (hv : ce.vm = .none) (hcl : s.vm.findClass E = some ce.cls) (hx : py E M) (hc : cells ≤ mc) (hs : slots ≤ ms) :
    vx_W p l e R s m args below meth c H locs cells slots (vx_MQ below Qc (gw_X K py) args s mc ms (gw_A K)) (F0 m pc ls rest) q :=
  vx_out (gw_none hemp) hlocks hcell hv hcl (fun t ht hvm => ⟨M, trivial, ⟨hx, hG.I hT ht hvm⟩, hG.S.F ht⟩) hG.S.2.2 hc hs
theorem gw_xcalli {post : Int32 → gw_M → Prop} (hr : vx_Run p l e R s m args below meth c H locs cells slots nc ns (F0 m pc ls st0) rest (va_Qi post (gw_I K) (gw_A K) a) (gw_X K px) (gw_A K)) (hG : gw_B K M s.heap H locs)
    (kx : ∀ (E : String) (ce : Cell) (q : Addr) (M1 : gw_M) (H1 : Heap) (locs1 : List Loc), px E M1 → gw_B K M1 s.heap H1 locs1 → H1[q]? = some ce → ce.vm = .none → s.vm.findClass E = some ce.cls → vx_W p l e R s m args below meth c H1 locs1 (cells + nc) (slots + ns) Q (F0 m pc ls rest) q)
    (kk : ∀ (r : Int32) (M1 : gw_M) (H1 : Heap) (locs1 : List Loc), post r M1 → gw_B K M1 s.heap H1 locs1 → W p l e R s m args below meth c H1 locs1 (cells + nc) (slots + ns) Q (F0 m (pc + 3) ls (.int r :: rest))) : W p l e R s m args below meth c H locs cells slots Q (F0 m pc ls st0) := by
  refine vx_calli hr hG.S (fun q _ h => h) (fun q h => h) (fun q _ h => h) (fun E ce q u t H1 locs1 ht hvm _ hB hz hk hS h1 h2 h3 => ?_) (fun r u t H1 locs1 ht hvm hw hB hz hk hS => ?_)
  · obtain ⟨hp, ⟨ws, g1, g2, g3⟩, g4, -⟩ := hB
    rw [ht] at g2
    exact kx E ce q u H1 locs1 hp ⟨ws, g1, g2, g3, hS, hG.b0⟩ h1 h2 h3
  · obtain ⟨⟨ws, g1, g2, g3⟩, g4, -⟩ := hB
    rw [ht] at g2
    exact kk r u H1 locs1 hw ⟨ws, g1, g2, g3, hS, hG.b0⟩
theorem gw_xcallv {post : gw_M → Prop} (hr : vx_Run p l e R s m args below meth c H locs cells slots nc ns (F0 m pc ls st0) rest (va_Qv post (gw_I K) (gw_A K) a) (gw_X K px) (gw_A K)) (hG : gw_B K M s.heap H locs)
    (kx : ∀ (E : String) (ce : Cell) (q : Addr) (M1 : gw_M) (H1 : Heap) (locs1 : List Loc), px E M1 → gw_B K M1 s.heap H1 locs1 → H1[q]? = some ce → ce.vm = .none → s.vm.findClass E = some ce.cls → vx_W p l e R s m args below meth c H1 locs1 (cells + nc) (slots + ns) Q (F0 m pc ls rest) q)
    (kk : ∀ (M1 : gw_M) (H1 : Heap) (locs1 : List Loc), post M1 → gw_B K M1 s.heap H1 locs1 → W p l e R s m args below meth c H1 locs1 (cells + nc) (slots + ns) Q (F0 m (pc + 3) ls rest)) : W p l e R s m args below meth c H locs cells slots Q (F0 m pc ls st0) := by
  refine vx_callv hr hG.S (fun q _ h => h) (fun q h => h) (fun q _ h => h) (fun E ce q u t H1 locs1 ht hvm _ hB hz hk hS h1 h2 h3 => ?_) (fun u t H1 locs1 ht hvm hw hB hz hk hS => ?_)
  · obtain ⟨hp, ⟨ws, g1, g2, g3⟩, g4, -⟩ := hB
    rw [ht] at g2
    exact kx E ce q u H1 locs1 hp ⟨ws, g1, g2, g3, hS, hG.b0⟩ h1 h2 h3
  · obtain ⟨⟨ws, g1, g2, g3⟩, g4, -⟩ := hB
    rw [ht] at g2
    exact kk u H1 locs1 hw ⟨ws, g1, g2, g3, hS, hG.b0⟩
theorem gw_throw0 (hexec : p.tables.exec = Jvm.exec) (hb : c.code = cc) (hl : l.stackTraces = false) {own cls : String} {ik ic : Nat} (hown : s.vm.findClass own = some m.cls) (hcls : Bundle.fit cls = true) (hk : (Cond.classLink own ik cls).before args s = true) (hini : (Cond.initialized cls).before args s = true)
    (hat : ∀ w ∈ (vx_at0 own ic cls ["java/lang/RuntimeException", "java/lang/Exception"]).filter goodWord, w.before args s = true) (hcast : va_Nw (.castable cls cls) s) (hT : gw_T K s) (hG : gw_B K M s.heap H locs) (hsize : ls.size = c.maxLocals)
    (hbad : ∀ w ∈ (vx_at0 own ic cls ["java/lang/RuntimeException", "java/lang/Exception"]).filter (fun w => !goodWord w), w ∈ [gw_dec "java/lang/RuntimeException", gw_dec "java/lang/Exception", gw_dec "java/lang/Throwable", .castable cls cls])
    (hgood : ∀ w ∈ Cond.classLink own ik cls :: Cond.initialized cls :: vx_at0 own ic cls ["java/lang/RuntimeException", "java/lang/Exception"], vx_ot w = true)
    (d0 : decode cc pc = .ok (.new ik, 3)) (d3 : decode cc (pc + 3) = .ok (.dup, 1)) (d4 : decode cc (pc + 4) = .ok (.invokespecial ic, 3)) (d7 : decode cc (pc + 7) = .ok (.athrow, 1)) (hemp : c.exceptionTable.isEmpty = true)
    (hRframes : 5 < R.frames) (hRlocals : (rest.map fun v => v.category).sum + 81 ≤ R.locals) (hRcells : cells + 1 ≤ R.cells) (hRslots : slots + 6 ≤ R.slots) (hlocks : meth.locks = false) (hc : cells + 1 ≤ mc) (hs : slots + 6 ≤ ms) (hx : py cls M) :
    W p l e R s m args below meth c H locs cells slots (vx_MQ below Qc (gw_X K py) args s mc ms (gw_A K)) (F0 m pc ls rest) := by
  obtain ⟨⟨n1, n2, n3⟩, -⟩ := hT.2.2
  refine vx_throw0 (A := gw_A K) (names := ["java/lang/RuntimeException", "java/lang/Exception"]) hexec hb hl hown hcls (by decide +kernel) hk hini (vx_hat hat hbad (vx_c (va_Nw.use rfl n1) (vx_c (va_Nw.use rfl n2) (vx_c (va_Nw.use rfl n3) (vx_c (va_Nw.use rfl hcast) vx_n))))) hgood hT.2.1.1.1 hT.2.1.1.2 hG.S hsize d0 d3 d4 d7 (gw_none hemp) hRframes hRlocals hRcells hRslots hlocks (fun t hvm hz hq => ?_) hG.S.2.2 hc hs
  obtain ⟨g1, g2⟩ := hG.Iext hT hz hq hvm
  exact ⟨M, trivial, ⟨hx, g1⟩, g2⟩
end GwThrows
end
section
/-! ROWS WHOSE INTS ARE nI n -/
theorem gw_inc (i : Nat) : nI i + Int32.ofInt 1 = nI (i + 1) := by
  have e : Int32.ofInt 1 = 1 := by decide
  rw [e]
  exact nI_1 i
theorem gw_in {j n : Nat} (hj : j < n) (hn : n < 2 ^ 31) : vp_in (nI j) n := vp_in_nI hj hn
section GwNat
variable {p : Program} {l : Launch} {e : Env} {R : Room} {s : State} {m : MethodId} {args : Array Value} {below : List Frame} {meth : Method} {c : Code} {H : Heap} {locs : List Loc} {cells slots : Nat} {Q : State → Prop}
variable {cc : ByteArray} {pc : Nat} {ls : Array Slot} {rest : List Value} {K : gw_C} {M : gw_M} {a : Nat} {tys : List (ClassId × FieldType)} {H0 : Heap}
theorem gw_iadd (hexec : p.tables.exec = Jvm.exec) (hb : c.code = cc) {x y : Nat} (hdg : decode cc pc = .ok (.iadd, 1)) (k : W p l e R s m args below meth c H locs cells slots Q (F0 m (pc + 1) ls (.int (nI (x + y)) :: rest))) : W p l e R s m args below meth c H locs cells slots Q (F0 m pc ls (.int (nI y) :: .int (nI x) :: rest)) :=
  lv_iadd hexec hb hdg (by rw [nI_add]; exact k)
theorem gw_imul (hexec : p.tables.exec = Jvm.exec) (hb : c.code = cc) {x y : Nat} (hdg : decode cc pc = .ok (.imul, 1)) (k : W p l e R s m args below meth c H locs cells slots Q (F0 m (pc + 1) ls (.int (nI (x * y)) :: rest))) : W p l e R s m args below meth c H locs cells slots Q (F0 m pc ls (.int (nI y) :: .int (nI x) :: rest)) :=
  lv_imul hexec hb hdg (by rw [pk_mul]; exact k)
theorem gw_isub (hexec : p.tables.exec = Jvm.exec) (hb : c.code = cc) {x y : Nat} (h : y ≤ x) (hdg : decode cc pc = .ok (.isub, 1)) (k : W p l e R s m args below meth c H locs cells slots Q (F0 m (pc + 1) ls (.int (nI (x - y)) :: rest))) : W p l e R s m args below meth c H locs cells slots Q (F0 m pc ls (.int (nI y) :: .int (nI x) :: rest)) :=
  lv_isub hexec hb hdg (by rw [pk_sub h]; exact k)
/-- any int on the stack, by another name -/
theorem gw_as {x y : Int32} (h : x = y) (k : W p l e R s m args below meth c H locs cells slots Q (F0 m pc ls (.int y :: rest))) : W p l e R s m args below meth c H locs cells slots Q (F0 m pc ls (.int x :: rest)) := by
  rw [h]; exact k
theorem gw_asl {x y : Int64} (h : x = y) (k : W p l e R s m args below meth c H locs cells slots Q (F0 m pc ls (.long y :: rest))) : W p l e R s m args below meth c H locs cells slots Q (F0 m pc ls (.long x :: rest)) := by
  rw [h]; exact k
theorem gw_icmp_ge (hexec : p.tables.exec = Jvm.exec) (hb : c.code = cc) {x y : Nat} (hx : x < 2 ^ 31) (hy : y < 2 ^ 31) {off : Int} {tgt : Nat} (hdg : decode cc pc = .ok (.if_icmp .ge off, 3)) (ht : (pc : Int) + off = (tgt : Int)) (kt : y ≤ x → W p l e R s m args below meth c H locs cells slots Q (F0 m tgt ls rest)) (kf : x < y → W p l e R s m args below meth c H locs cells slots Q (F0 m (pc + 3) ls rest)) : W p l e R s m args below meth c H locs cells slots Q (F0 m pc ls (.int (nI y) :: .int (nI x) :: rest)) :=
  lv_icmp_ge hexec hb hdg ht (fun h => kt ((nI_leI hy hx).mp h)) (fun h => kf (Nat.lt_of_not_le fun q => h ((nI_leI hy hx).mpr q)))
theorem gw_icmp_lt (hexec : p.tables.exec = Jvm.exec) (hb : c.code = cc) {x y : Nat} (hx : x < 2 ^ 31) (hy : y < 2 ^ 31) {off : Int} {tgt : Nat} (hdg : decode cc pc = .ok (.if_icmp .lt off, 3)) (ht : (pc : Int) + off = (tgt : Int)) (kt : x < y → W p l e R s m args below meth c H locs cells slots Q (F0 m tgt ls rest)) (kf : y ≤ x → W p l e R s m args below meth c H locs cells slots Q (F0 m (pc + 3) ls rest)) : W p l e R s m args below meth c H locs cells slots Q (F0 m pc ls (.int (nI y) :: .int (nI x) :: rest)) :=
  lv_icmp_lt hexec hb hdg ht (fun h => kt ((nI_ltI hx hy).mp h)) (fun h => kf (Nat.le_of_not_lt fun q => h ((nI_ltI hx hy).mpr q)))
theorem gw_icmp_gt (hexec : p.tables.exec = Jvm.exec) (hb : c.code = cc) {x y : Nat} (hx : x < 2 ^ 31) (hy : y < 2 ^ 31) {off : Int} {tgt : Nat} (hdg : decode cc pc = .ok (.if_icmp .gt off, 3)) (ht : (pc : Int) + off = (tgt : Int)) (kt : y < x → W p l e R s m args below meth c H locs cells slots Q (F0 m tgt ls rest)) (kf : x ≤ y → W p l e R s m args below meth c H locs cells slots Q (F0 m (pc + 3) ls rest)) : W p l e R s m args below meth c H locs cells slots Q (F0 m pc ls (.int (nI y) :: .int (nI x) :: rest)) :=
  lv_icmp_gt hexec hb hdg ht (fun h => kt ((nI_ltI hy hx).mp h)) (fun h => kf (Nat.le_of_not_lt fun q => h ((nI_ltI hy hx).mpr q)))
theorem gw_icmp_le (hexec : p.tables.exec = Jvm.exec) (hb : c.code = cc) {x y : Nat} (hx : x < 2 ^ 31) (hy : y < 2 ^ 31) {off : Int} {tgt : Nat} (hdg : decode cc pc = .ok (.if_icmp .le off, 3)) (ht : (pc : Int) + off = (tgt : Int)) (kt : x ≤ y → W p l e R s m args below meth c H locs cells slots Q (F0 m tgt ls rest)) (kf : y < x → W p l e R s m args below meth c H locs cells slots Q (F0 m (pc + 3) ls rest)) : W p l e R s m args below meth c H locs cells slots Q (F0 m pc ls (.int (nI y) :: .int (nI x) :: rest)) :=
  lv_icmp_le hexec hb hdg ht (fun h => kt ((nI_leI hx hy).mp h)) (fun h => kf (Nat.lt_of_not_le fun q => h ((nI_leI hx hy).mpr q)))
theorem gw_icmp_ne (hexec : p.tables.exec = Jvm.exec) (hb : c.code = cc) {x y : Nat} (hx : x < 2 ^ 31) (hy : y < 2 ^ 31) {off : Int} {tgt : Nat} (hdg : decode cc pc = .ok (.if_icmp .ne off, 3)) (ht : (pc : Int) + off = (tgt : Int)) (kt : x ≠ y → W p l e R s m args below meth c H locs cells slots Q (F0 m tgt ls rest)) (kf : x = y → W p l e R s m args below meth c H locs cells slots Q (F0 m (pc + 3) ls rest)) : W p l e R s m args below meth c H locs cells slots Q (F0 m pc ls (.int (nI y) :: .int (nI x) :: rest)) :=
  lv_icmp_ne hexec hb hdg ht (fun h => kt (fun q => h ((nI_eq hx hy).mpr q))) (fun h => kf (Classical.byContradiction fun q => h (fun z => q ((nI_eq hx hy).mp z))))
theorem gw_iald_n (hexec : p.tables.exec = Jvm.exec) (hb : c.code = cc) (hK : va_K K.1 vwCl tys s) (hG : gw_B K M H0 H locs) {cA : ClassId} {n : Nat} {f : Nat → Int32} (hM : M a = some (.inl (cA, n, .inl f))) (t0 : Nat) (ht : tys[t0]? = some (cA, .int)) {j : Nat} (hj : j < n) (hn : n < 2 ^ 31) (hdg : decode cc pc = .ok (.iaload, 1))
    (kk : W p l e R s m args below meth c H locs cells slots Q (F0 m (pc + 1) ls (.int (f j) :: rest))) : W p l e R s m args below meth c H locs cells slots Q (F0 m pc ls (.int (nI j) :: .ref a :: rest)) :=
  gw_iald hexec hb hK hG hM t0 ht (gw_in hj hn) hdg (by rw [nI_clamp (by omega)]; exact kk)
theorem gw_lald_n (hexec : p.tables.exec = Jvm.exec) (hb : c.code = cc) (hK : va_K K.1 vwCl tys s) (hG : gw_B K M H0 H locs) {cA : ClassId} {n : Nat} {f : Nat → Int64} (hM : M a = some (.inl (cA, n, .inr (.inl f)))) (t0 : Nat) (ht : tys[t0]? = some (cA, .long)) {j : Nat} (hj : j < n) (hn : n < 2 ^ 31) (hdg : decode cc pc = .ok (.laload, 1))
    (kk : W p l e R s m args below meth c H locs cells slots Q (F0 m (pc + 1) ls (.long (f j) :: rest))) : W p l e R s m args below meth c H locs cells slots Q (F0 m pc ls (.int (nI j) :: .ref a :: rest)) :=
  gw_lald hexec hb hK hG hM t0 ht (gw_in hj hn) hdg (by rw [nI_clamp (by omega)]; exact kk)
theorem gw_aldq_n (hexec : p.tables.exec = Jvm.exec) (hb : c.code = cc) (hK : va_K K.1 vwCl tys s) (hG : gw_B K M H0 H locs) {cA : ClassId} {C : String} {n : Nat} {f : Nat → Option Nat} (hM : M a = some (.inl (cA, n, .inr (.inr (.inr (.inr f)))))) (t0 : Nat) (ht : tys[t0]? = some (cA, .object C)) {j : Nat} (hj : j < n) (hn : n < 2 ^ 31) {v : Option Nat} (hv : f j = v) (hdg : decode cc pc = .ok (.aaload, 1))
    (kk : W p l e R s m args below meth c H locs cells slots Q (F0 m (pc + 1) ls (va_rf v :: rest))) : W p l e R s m args below meth c H locs cells slots Q (F0 m pc ls (.int (nI j) :: .ref a :: rest)) :=
  gw_aldq hexec hb hK hG hM t0 ht (gw_in hj hn) hdg (by rw [nI_clamp (by omega), hv]; exact kk)
theorem gw_iast_n (hexec : p.tables.exec = Jvm.exec) (hb : c.code = cc) (hK : va_K K.1 vwCl tys s) (hG : gw_B K M H0 H locs) {cA : ClassId} {n : Nat} {f : Nat → Int32} (hM : M a = some (.inl (cA, n, .inl f))) (t0 : Nat) (ht : tys[t0]? = some (cA, .int)) {j : Nat} {x : Int32} (hj : j < n) (hn : n < 2 ^ 31) (hdg : decode cc pc = .ok (.iastore, 1))
    (kk : ∀ (H1 : Heap) (locs1 : List Loc), gw_B K (gw_up M a (.inl (cA, n, .inl (upd f j x)))) H0 H1 locs1 → W p l e R s m args below meth c H1 locs1 cells slots Q (F0 m (pc + 1) ls rest)) : W p l e R s m args below meth c H locs cells slots Q (F0 m pc ls (.int x :: .int (nI j) :: .ref a :: rest)) :=
  gw_iast hexec hb hK hG hM t0 ht (gw_in hj hn) hdg (fun H1 locs1 h => kk H1 locs1 (by rw [nI_clamp (by omega)] at h; exact h))
theorem gw_last_n (hexec : p.tables.exec = Jvm.exec) (hb : c.code = cc) (hK : va_K K.1 vwCl tys s) (hG : gw_B K M H0 H locs) {cA : ClassId} {n : Nat} {f : Nat → Int64} (hM : M a = some (.inl (cA, n, .inr (.inl f)))) (t0 : Nat) (ht : tys[t0]? = some (cA, .long)) {j : Nat} {x : Int64} (hj : j < n) (hn : n < 2 ^ 31) (hdg : decode cc pc = .ok (.lastore, 1))
    (kk : ∀ (H1 : Heap) (locs1 : List Loc), gw_B K (gw_up M a (.inl (cA, n, .inr (.inl (vp_updL f j x))))) H0 H1 locs1 → W p l e R s m args below meth c H1 locs1 cells slots Q (F0 m (pc + 1) ls rest)) : W p l e R s m args below meth c H locs cells slots Q (F0 m pc ls (.long x :: .int (nI j) :: .ref a :: rest)) :=
  gw_last hexec hb hK hG hM t0 ht (gw_in hj hn) hdg (fun H1 locs1 h => kk H1 locs1 (by rw [nI_clamp (by omega)] at h; exact h))
end GwNat
end
