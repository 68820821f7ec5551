section
-- ===== PART A: goes FIRST, ahead of the names: the tables' words, and 'selects' of the private methods out of them =====
/-- a private method of a class that the tables say can be made, by its rows of tables_1 -/
def lw_okq (q : MethodName × Nat) : Prop := (q.1.cls ≠ "java/lang/invoke/MethodHandle" ∧ q.1.cls ≠ "java/lang/invoke/VarHandle") ∧ Cond.instantiable q.1.cls q.2 ∈ tables_1 ∧ Cond.privateMethod q.1 ∈ tables_1 ∧ Cond.instanceMethod q.1 ∈ tables_1
theorem lw_p0 : lw_okq (⟨"java/lang/Throwable", "fillInStackTrace", "(I)Ljava/lang/Throwable;"⟩, 6) := ⟨⟨by decide +kernel, by decide +kernel⟩, List.mem_of_getElem? (i := 219) (by decide +kernel), List.mem_of_getElem? (i := 217) (by decide +kernel), List.mem_of_getElem? (i := 218) (by decide +kernel)⟩
theorem lw_p1 : lw_okq (⟨"PegBox", "checkNotClosed", "()V"⟩, 14) := ⟨⟨by decide +kernel, by decide +kernel⟩, List.mem_of_getElem? (i := 14) (by decide +kernel), List.mem_of_getElem? (i := 250) (by decide +kernel), List.mem_of_getElem? (i := 251) (by decide +kernel)⟩
theorem lw_p2 : lw_okq (⟨"PegBox", "beyondCollar", "(I)I"⟩, 14) := ⟨⟨by decide +kernel, by decide +kernel⟩, List.mem_of_getElem? (i := 14) (by decide +kernel), List.mem_of_getElem? (i := 270) (by decide +kernel), List.mem_of_getElem? (i := 271) (by decide +kernel)⟩
theorem lw_p3 : lw_okq (⟨"PegBox", "checkClosed", "()V"⟩, 14) := ⟨⟨by decide +kernel, by decide +kernel⟩, List.mem_of_getElem? (i := 14) (by decide +kernel), List.mem_of_getElem? (i := 307) (by decide +kernel), List.mem_of_getElem? (i := 308) (by decide +kernel)⟩
theorem lw_p4 : lw_okq (⟨"PegBox$EarnOut", "meet", "(II)I"⟩, 8) := ⟨⟨by decide +kernel, by decide +kernel⟩, List.mem_of_getElem? (i := 93) (by decide +kernel), List.mem_of_getElem? (i := 324) (by decide +kernel), List.mem_of_getElem? (i := 325) (by decide +kernel)⟩
theorem lw_p5 : lw_okq (⟨"PegBox", "owe", "(I)I"⟩, 14) := ⟨⟨by decide +kernel, by decide +kernel⟩, List.mem_of_getElem? (i := 14) (by decide +kernel), List.mem_of_getElem? (i := 328) (by decide +kernel), List.mem_of_getElem? (i := 329) (by decide +kernel)⟩
theorem lw_p6 : lw_okq (⟨"PegBox", "leftOutstanding", "()I"⟩, 14) := ⟨⟨by decide +kernel, by decide +kernel⟩, List.mem_of_getElem? (i := 14) (by decide +kernel), List.mem_of_getElem? (i := 332) (by decide +kernel), List.mem_of_getElem? (i := 333) (by decide +kernel)⟩
theorem lw_p7 : lw_okq (⟨"PegBox", "dueInAll", "()I"⟩, 14) := ⟨⟨by decide +kernel, by decide +kernel⟩, List.mem_of_getElem? (i := 14) (by decide +kernel), List.mem_of_getElem? (i := 336) (by decide +kernel), List.mem_of_getElem? (i := 337) (by decide +kernel)⟩
theorem lw_p8 : lw_okq (⟨"PegBox", "dueOfKind", "(I)I"⟩, 14) := ⟨⟨by decide +kernel, by decide +kernel⟩, List.mem_of_getElem? (i := 14) (by decide +kernel), List.mem_of_getElem? (i := 340) (by decide +kernel), List.mem_of_getElem? (i := 341) (by decide +kernel)⟩
theorem lw_p9 : lw_okq (⟨"PegBox$Kinds", "pastBasket", "(II)I"⟩, 5) := ⟨⟨by decide +kernel, by decide +kernel⟩, List.mem_of_getElem? (i := 38) (by decide +kernel), List.mem_of_getElem? (i := 352) (by decide +kernel), List.mem_of_getElem? (i := 353) (by decide +kernel)⟩
theorem lw_p10 : lw_okq (⟨"PegBox", "free", "()V"⟩, 14) := ⟨⟨by decide +kernel, by decide +kernel⟩, List.mem_of_getElem? (i := 14) (by decide +kernel), List.mem_of_getElem? (i := 442) (by decide +kernel), List.mem_of_getElem? (i := 443) (by decide +kernel)⟩
theorem lw_p11 : lw_okq (⟨"PegBox", "payOut", "()I"⟩, 14) := ⟨⟨by decide +kernel, by decide +kernel⟩, List.mem_of_getElem? (i := 14) (by decide +kernel), List.mem_of_getElem? (i := 470) (by decide +kernel), List.mem_of_getElem? (i := 471) (by decide +kernel)⟩
def lw_privs_1 : List (MethodName × Nat) := [(⟨"java/lang/Throwable", "fillInStackTrace", "(I)Ljava/lang/Throwable;"⟩, 6), (⟨"PegBox", "checkNotClosed", "()V"⟩, 14), (⟨"PegBox", "beyondCollar", "(I)I"⟩, 14), (⟨"PegBox", "checkClosed", "()V"⟩, 14), (⟨"PegBox$EarnOut", "meet", "(II)I"⟩, 8), (⟨"PegBox", "owe", "(I)I"⟩, 14), (⟨"PegBox", "leftOutstanding", "()I"⟩, 14), (⟨"PegBox", "dueInAll", "()I"⟩, 14), (⟨"PegBox", "dueOfKind", "(I)I"⟩, 14), (⟨"PegBox$Kinds", "pastBasket", "(II)I"⟩, 5), (⟨"PegBox", "free", "()V"⟩, 14), (⟨"PegBox", "payOut", "()I"⟩, 14)]
theorem lw_r1 : ∀ q ∈ lw_privs_1, lw_okq q := List.forall_mem_cons.mpr ⟨lw_p0, List.forall_mem_cons.mpr ⟨lw_p1, List.forall_mem_cons.mpr ⟨lw_p2, List.forall_mem_cons.mpr ⟨lw_p3, List.forall_mem_cons.mpr ⟨lw_p4, List.forall_mem_cons.mpr ⟨lw_p5, List.forall_mem_cons.mpr ⟨lw_p6, List.forall_mem_cons.mpr ⟨lw_p7, List.forall_mem_cons.mpr ⟨lw_p8, List.forall_mem_cons.mpr ⟨lw_p9, List.forall_mem_cons.mpr ⟨lw_p10, List.forall_mem_cons.mpr ⟨lw_p11, fun _ h => absurd h List.not_mem_nil⟩⟩⟩⟩⟩⟩⟩⟩⟩⟩⟩⟩
def lw_privs : List (MethodName × Nat) := lw_privs_1
def lw_tbl : List Cond := k2_sels lw_privs ++ tables_1
theorem lw_privs_ok : ∀ q ∈ lw_privs, lw_okq q := lw_r1
-- ===== end of PART A; then your names; then what follows =====
/-! ===== BEGIN words of one list among another's, by their places ===== -/
theorem goodIn_r {big : List Cond} (ws : List Cond) (ps : List Nat) (hp : ws = ps.filterMap (fun i => big[i]?)) (h : ws.all goodWord = true) : GoodIn big ws := by
  intro w hw
  have h1 := List.all_eq_true.mp h w hw
  rw [hp] at hw
  obtain ⟨i, -, hi⟩ := List.mem_filterMap.mp hw
  have hm : w ∈ big := by first | exact List.mem_of_getElem? hi | exact List.getElem?_mem hi
  exact ⟨hm, good_of_word h1⟩
theorem goodIn_app {big a b : List Cond} (ha : GoodIn big a) (hb : GoodIn big b) : GoodIn big (a ++ b) := fun w h => (List.mem_append.mp h).elim (ha w) (hb w)
theorem goodIn_ca {big a b : List Cond} {c : Cond} (ha : GoodIn big (c :: a)) (hb : GoodIn big b) : GoodIn big (c :: (a ++ b)) := fun w h => (List.mem_cons.mp h).elim (fun e => ha w (List.mem_cons.mpr (Or.inl e))) (fun h => (List.mem_append.mp h).elim (fun h => ha w (List.mem_cons.mpr (Or.inr h))) (hb w))
theorem goodIn_sub {big ws : List Cond} (hm : ∀ w ∈ ws, w ∈ big) (h : ws.all goodWord = true) : GoodIn big ws := fun w hw => ⟨hm w hw, good_of_word (List.all_eq_true.mp h w hw)⟩
/-! ===== END ===== -/

/-! ===== BEGIN exceptions that leave a method, and their catching by the caller (launches without stack traces) ===== -/
section VXA
/-! The laws vx_back, vx_callV, vx_callS, vx_callSW, vx_throw0, vx_throwS follow proofs of the library, with one case more: JvmDerived/Free/Laws.lean (Back.of_free), Shelf42/LK1.lean (callV, callS), Shelf/KitTraced.lean (throwNew0V, throwNewS). -/
/-- where a method has thrown q: the class by its name, the cell, what was written, the world -/
def vx_T (XC : String → State → State → Prop) (st : State) (q : Addr) (t : State) (mc ms : Nat) (free : Addr → Prop) : Prop :=
  ∃ (E : String) (ce : Cell) (L : List Loc), XC E st t ∧ t.heap[q]? = some ce ∧ ce.vm = .none ∧ st.vm.findClass E = some ce.cls ∧ st.WarmedH t.vm ∧ st.sameButNew ({ t with vm := st.vm } : State) L mc ms ∧ ∀ z ∈ L, free z.base
def vx_Q (Qc : Array Value → State → Outcome → State → Prop) (XC : String → State → State → Prop) (mc ms : Nat) (free : Addr → Prop) : Array Value → State → Outcome → State → Prop := fun a st o t =>
  (Qc a st o t ∧ ∃ L, FrameEnd st o t L mc ms ∧ ∀ q ∈ L, free q.base) ∨ ∃ q, o = .threw q ∧ vx_T XC st q t mc ms free
/-- a callee that returns or throws -/
def vx_Met (l : Launch) (y : MethodName) (ws : List Cond) (rm : Room) (Pc : Array Value → State → Prop) (Qc : Array Value → State → Outcome → State → Prop) (XC : String → State → State → Prop) (mc ms : Nat) (free : Addr → Prop) : Prop :=
  MetFree l y (headSpec ws rm) Pc (fun _ _ _ _ _ => True) (vx_Q Qc XC mc ms free)
def vx_Post (XC : String → State → State → Prop) (mc ms : Nat) (free : Addr → Prop) : Pt → Array Value → Addr → Pt → Prop := fun A a q B =>
  ∃ (g : JFrame) (mk : MethodId) (t : State) (L : List Loc) (E : String) (ce : Cell), B.U.heap = t.heap ∧ B.U.vm = t.vm ∧ XC E (A.U.calling g mk a) t ∧ t.heap[q]? = some ce ∧ ce.vm = .none ∧ A.U.vm.findClass E = some ce.cls ∧ B.locs = A.locs ++ L ∧ (∀ z ∈ L, free z.base) ∧ B.cells = A.cells + mc ∧ B.slots = A.slots + ms
def vx_Back (l : Launch) (R : Room) (p : Program) (e : Env) (below : List Frame) (s : State) (sargs : Array Value) (y : MethodName) (len W9 : Nat)
    (Pre : Pt → Array Value → Prop) (Post : Pt → Array Value → Option Value → Pt → Prop) (PostX : Pt → Array Value → Addr → Pt → Prop) : Prop :=
  ∀ (m : MethodId) (meth : Method) (c : Code) (A : Pt) (g : JFrame) (ig : Instr) (mk : MethodId) (a : Array Value),
    Stand p l e R s m sargs below meth c A.U A.locs A.cells A.slots → g.method = m → g.locals.size = c.maxLocals → decode c.code g.pc = .ok (ig, len) →
    2 * g.monitorRoom + (g.stack.map fun v => v.category).sum ≤ W9 → A.U.methodNamed? y = some mk → Pre A a →
    (∃ (v : Option Value) (B : Pt), Stand p l e R s m sargs below meth c B.U B.locs B.cells B.slots ∧ Post A a v B ∧
      Steps p.tables e below (doInvoke e (A.U.setTop g) [] mk a).1 (B.U.setTop { g with pc := g.pc + len, stack := v.toList ++ g.stack })) ∨
    (∃ (q : Addr) (B : Pt), Stand p l e R s m sargs below meth c B.U B.locs B.cells B.slots ∧ PostX A a q B ∧
      Steps p.tables e below (doInvoke e (A.U.setTop g) [] mk a).1 ((B.U.setTop g).pushFrame (.throwing q)))
section Payer
variable {l : Launch} {R : Room} {p : Program} {e : Env} {below : List Frame} {s : State} {sargs : Array Value} {y : MethodName} {len W9 : Nat}
theorem vx_back {ws : List Cond} {rm : Room} {Pc : Array Value → State → Prop} {Qc : Array Value → State → Outcome → State → Prop} {XC : String → State → State → Prop} {mc ms : Nat} {free : Addr → Prop} {bytes : ByteArray} {maxL : Nat} {ret : Option FieldType}
    (hM : vx_Met l y ws rm Pc Qc XC mc ms free) (hblind : FrameBlind Pc) (hrc : rm.cells = mc) (hrs : rm.slots = ms)
    (hframes : rm.frames + 1 ≤ R.frames) (hlocals : W9 + (maxL + 11) + rm.locals ≤ R.locals)
    (hws : ∀ w ∈ ws, ∀ a' U, s.WarmedH U.vm → w.before a' U = true) (hcode : Cond.code y bytes maxL ret ∈ ws) (hinit : ∀ a' U, s.WarmedH U.vm → (Cond.initialized y.cls).before a' U = true) :
    vx_Back l R p e below s sargs y len W9 (PreOf R mc ms Pc) (PostOf Qc mc ms free) (vx_Post XC mc ms free) := by
  intro m meth c A g ig mk a X hg hsize hdg hW hn hp
  have h1 : (headSpec ws rm).pre.before a A.U = true := atoms_intro fun w hw => hws w hw _ _ X.warmed
  have h2 : (Cond.code y bytes maxL ret).before a A.U = true := hws _ hcode _ _ X.warmed
  have h3 : (Cond.initialized y.cls).before a A.U = true := hinit _ _ X.warmed
  have h4 : A.cells + (headSpec ws rm).room.cells ≤ R.cells := by rw [show (headSpec ws rm).room.cells = mc from hrc]; exact hp.1
  have h5 : A.slots + (headSpec ws rm).room.slots ≤ R.slots := by rw [show (headSpec ws rm).room.slots = ms from hrs]; exact hp.2.1
  have hPc : Pc a (A.U.calling g mk a) := hblind _ _ _ _ hp.2.2
  obtain ⟨U, Ls, c0, s0⟩ := A
  dsimp only [Pt.U, Pt.locs, Pt.cells, Pt.slots] at h1 h2 h3 h4 h5 X hn hPc ⊢
  obtain ⟨methY, cY, hmY, hcY, -, hlY, -, -, -, -⟩ := Cond.code_spec hn h2
  obtain ⟨kY, hkY, -⟩ := className_of_methodNamed hn
  have hinitY : kY.init = .initialized := Cond.initialized_spec (findClass_of_methodNamed hn) hkY h3
  have h : At U g.method c below := by rw [hg]; exact X.here
  have hlocals9 : W9 + (maxL + 11) + (headSpec ws rm).room.locals ≤ R.locals := hlocals
  have happ : (headSpec ws rm).appliesLoose y e.platform (U.calling g mk a) = true :=
    Spec.appliesLoose_calling (g := g) h hdg hn hkY hinitY
      (X.room_calling (g := g) (R' := (headSpec ws rm).room) hsize hmY hcY hframes (by rw [hlY]; omega) h4 h5) h1
  obtain ⟨mid, hmid⟩ := h.above
  have hfr : (U.setTop g).frames = (.java g :: mid) ++ below := by rw [State.frames_setTop' g h.top, hmid]; rfl
  obtain ⟨o, s₂, hsteps, -, hend, hq⟩ := Steps.callFree hM p X.admits X.cas X.clock (acts := []) hfr happ hPc trivial
  have hq' : vx_Q Qc XC mc ms free a (U.calling g mk a) o s₂ := hq
  rw [State.frames_setTop' g h.top] at hend
  obtain ⟨g₀, hg0⟩ := Option.isSome_iff_exists.mp h.top
  obtain ⟨r, hr⟩ := State.topJava?_eq_some.mp hg0
  have hr' : (({ U with heap := s₂.heap, slotsUsed := s₂.slotsUsed } : State).setVm s₂.vm).frames = .java g₀ :: r := hr
  rcases hq' with ⟨hqc, L, hfe, hL⟩ | ⟨q, rfl, E, ce, L, hx, hce, hcv, hcl, hW₂, hsm, hL⟩
  · obtain ⟨⟨v, rfl⟩, hW₂, e2, q2, q3, q4, q5, q6⟩ := id hfe
    have e3 : s₂ = ({ (U.calling g mk a).setFrames s₂.frames with heap := s₂.heap, slotsUsed := s₂.slotsUsed } : State).setVm s₂.vm := by
      have : s₂ = ({ s₂ with vm := (U.calling g mk a).vm } : State).setVm s₂.vm := rfl
      rw [e2] at this
      exact this
    obtain ⟨c₂, i₂, len₂, hc₂, hd₂, hf₂⟩ := hend
    have hW' : U.WarmedH s₂.vm := hW₂
    have hcc : c₂ = c := by
      have h1 : s₂.code? g.method = U.code? g.method := by
        rw [State.code?_eq, State.code?_eq, hW'.alike.method?]
      exact Option.some.inj (hc₂.symm.trans (h1.trans h.code))
    subst hcc
    have hlen : len₂ = len := by rw [hdg] at hd₂; cases hd₂; rfl
    subst hlen
    have hs₂ : s₂ = (({ U with heap := s₂.heap, slotsUsed := s₂.slotsUsed } : State).setVm s₂.vm).setTop { g with pc := g.pc + len₂, stack := v.toList ++ g.stack } := by
      refine e3.trans ?_
      rw [hf₂, State.calling_eq h.top, State.setFrames_setFrames, State.setTop_of_frames _ hr', hr]
      rfl
    have hsame : U.sameButNew ({ U with heap := s₂.heap, slotsUsed := s₂.slotsUsed } : State) L mc ms := by
      refine ⟨?_, q2, q3, q4, q5, q6⟩
      obtain ⟨t, ht, -⟩ := State.frames_cons hr
      show ({ U with heap := s₂.heap, slotsUsed := s₂.slotsUsed } : State) = { U.setFrames U.frames with heap := s₂.heap, slotsUsed := s₂.slotsUsed }
      rw [State.setFrames_self ht]
    subst hg
    refine Or.inl ⟨v, ⟨(({ U with heap := s₂.heap, slotsUsed := s₂.slotsUsed } : State).setVm s₂.vm), Ls ++ L, c0 + mc, s0 + ms⟩,
      ⟨X.admits, X.cas, X.clock, X.frames, X.room, X.hears, X.method, X.code, (X.here.setHeapUsed s₂.heap s₂.slotsUsed).setVm hW'.alike, X.tail, State.WarmedH.trans X.warmed hW', X.limits, X.bytes, X.same.trans (hsame.setVm s.vm)⟩,
      ⟨g, mk, s₂, L, rfl, rfl, hqc, rfl, hL, rfl, rfl⟩, ?_⟩
    show Steps p.tables e below _ ((({ U with heap := s₂.heap, slotsUsed := s₂.slotsUsed } : State).setVm s₂.vm).setTop { g with pc := g.pc + len₂, stack := v.toList ++ g.stack })
    rw [← hs₂]
    exact hsteps
  · obtain ⟨e2, q2, q3, q4, q5, q6⟩ := id hsm
    have e3 : s₂ = ({ (U.calling g mk a).setFrames s₂.frames with heap := s₂.heap, slotsUsed := s₂.slotsUsed } : State).setVm s₂.vm := by
      have : s₂ = ({ s₂ with vm := (U.calling g mk a).vm } : State).setVm s₂.vm := rfl
      rw [e2] at this
      exact this
    have hf₂ : s₂.frames = .throwing q :: .java g :: U.frames.tail := hend
    have hW' : U.WarmedH s₂.vm := hW₂
    have hs₂ : s₂ = ((({ U with heap := s₂.heap, slotsUsed := s₂.slotsUsed } : State).setVm s₂.vm).setTop g).pushFrame (.throwing q) := by
      refine e3.trans ?_
      rw [hf₂, State.calling_eq h.top, State.setFrames_setFrames, State.pushFrame, State.frames_setTop _ hr', State.setTop_of_frames _ hr', State.setFrames_setFrames, hr]
      rfl
    have hsame : U.sameButNew ({ U with heap := s₂.heap, slotsUsed := s₂.slotsUsed } : State) L mc ms := by
      refine ⟨?_, q2, q3, q4, q5, q6⟩
      obtain ⟨t, ht, -⟩ := State.frames_cons hr
      show ({ U with heap := s₂.heap, slotsUsed := s₂.slotsUsed } : State) = { U.setFrames U.frames with heap := s₂.heap, slotsUsed := s₂.slotsUsed }
      rw [State.setFrames_self ht]
    subst hg
    refine Or.inr ⟨q, ⟨(({ U with heap := s₂.heap, slotsUsed := s₂.slotsUsed } : State).setVm s₂.vm), Ls ++ L, c0 + mc, s0 + ms⟩,
      ⟨X.admits, X.cas, X.clock, X.frames, X.room, X.hears, X.method, X.code, (X.here.setHeapUsed s₂.heap s₂.slotsUsed).setVm hW'.alike, X.tail, State.WarmedH.trans X.warmed hW', X.limits, X.bytes, X.same.trans (hsame.setVm s.vm)⟩,
      ⟨g, mk, s₂, L, E, ce, rfl, rfl, hx, hce, hcv, hcl, rfl, hL, rfl, rfl⟩, ?_⟩
    show Steps p.tables e below _ (((({ U with heap := s₂.heap, slotsUsed := s₂.slotsUsed } : State).setVm s₂.vm).setTop g).pushFrame (.throwing q))
    rw [← hs₂]
    exact hsteps
end Payer
section Calls
variable {p : Program} {l : Launch} {e : Env} {R : Room} {s : State} {m : MethodId} {args : Array Value} {below : List Frame} {meth : Method} {c : Code} {T : State} {locs : List Loc} {cells slots : Nat}
theorem vx_callV (X : Stand p l e R s m args below meth c T locs cells slots) (hexec : p.tables.exec = Jvm.exec) {own C : String} {index : Nat} {y : MethodName} {bytes : ByteArray} {maxL : Nat} {ret : Option FieldType}
    (hown : s.vm.findClass own = some m.cls) (hlink : (Cond.methodLink own index y).before args s = true) (hinst : (Cond.instanceMethod y).before args s = true) (hsel : (Cond.selects C y y).before args s = true)
    (hcode : (Cond.code y bytes maxL ret).before args s = true) (hy : y.cls ≠ "java/lang/invoke/MethodHandle" ∧ y.cls ≠ "java/lang/invoke/VarHandle")
    {W9 : Nat} {Pre : Pt → Array Value → Prop} {Post : Pt → Array Value → Option Value → Pt → Prop} {PostX : Pt → Array Value → Addr → Pt → Prop} (hK : vx_Back l R p e below s args y 3 W9 Pre Post PostX)
    {b : Addr} {cellB : Cell} (hcell : T.heap[b]? = some cellB) (hobj : cellB.vm.isStatics = false) (hcls : s.vm.findClass C = some cellB.cls)
    {g : JFrame} (hg : g.method = m) (hsize : g.locals.size = c.maxLocals) {argsL rest : List Value} (hlen : ∀ sig, parseMethodDescriptor y.desc = some sig → argsL.length = sig.parameters.length)
    (hstack : g.stack = argsL.reverse ++ .ref b :: rest) (hW : 2 * g.monitorRoom + (rest.map fun v => v.category).sum ≤ W9) (hdg : decode c.code g.pc = .ok (.invokevirtual index, 3))
    (hpre : ∀ vm₁, s.WarmedH vm₁ → Pre ⟨T.setVm vm₁, locs, cells, slots⟩ (Value.ref b :: argsL).toArray) :
    (∃ (v : Option Value) (vm₁ : Vm) (B : Pt), s.WarmedH vm₁ ∧ Stand p l e R s m args below meth c B.U B.locs B.cells B.slots ∧ Post ⟨T.setVm vm₁, locs, cells, slots⟩ (Value.ref b :: argsL).toArray v B ∧
      ∀ target, Steps p.tables e below (B.U.setTop { g with pc := g.pc + 3, stack := v.toList ++ rest }) target → Steps p.tables e below (T.setTop g) target) ∨
    (∃ (q : Addr) (vm₁ : Vm) (B : Pt), s.WarmedH vm₁ ∧ Stand p l e R s m args below meth c B.U B.locs B.cells B.slots ∧ PostX ⟨T.setVm vm₁, locs, cells, slots⟩ (Value.ref b :: argsL).toArray q B ∧
      Steps p.tables e below (T.setTop g) ((B.U.setTop { g with stack := rest }).pushFrame (.throwing q))) := by
  obtain ⟨mk, methM, hnamed, hmethM, hstM, habM⟩ := Cond.instanceMethod_spec hinst
  obtain ⟨methM', cM, hmethM', -, -, -, -, -, -, hsigM⟩ := Cond.code_spec hnamed hcode
  cases hmethM.symm.trans hmethM'
  obtain ⟨c2, r2, m2, q1, q2, q3, q4, kP, hkP, hkPi⟩ := Cond.selects_spec hsel
  cases hcls.symm.trans q1
  cases (State.methodFound?_of_named hnamed hy).symm.trans q2
  cases hnamed.symm.trans q3
  have hselP : selectMethod e.platform s.vm cellB.cls mk = .method mk := by rw [Launch.admits_selectMethod X.admits]; exact q4
  obtain ⟨vm₁, X₁, hstep₁⟩ := X.invokevirtual hexec hown hlink hnamed hmethM hstM hkP hkPi hy (a := b) (cell := cellB) hcell
    (fun z h => by rw [h] at hobj; cases hobj) hselP hmethM habM hkP hkPi (g := g) hg (argsL := argsL) (rest := rest) (hlen _ hsigM) hstack hdg
  rcases hK m meth c ⟨T.setVm vm₁, locs, cells, slots⟩ { g with stack := rest } (.invokevirtual index) mk (Value.ref b :: argsL).toArray X₁ hg hsize hdg hW (X₁.named hnamed) (hpre vm₁ X₁.warmed) with ⟨v, B, X', hpost, hsteps⟩ | ⟨q, B, X', hpost, hsteps⟩
  · exact Or.inl ⟨v, vm₁, B, X₁.warmed, X', hpost, fun target h => hstep₁ _ fun acts => by rw [doInvoke_state]; exact hsteps.trans h⟩
  · exact Or.inr ⟨q, vm₁, B, X₁.warmed, X', hpost, hstep₁ _ fun acts => by rw [doInvoke_state]; exact hsteps⟩
theorem vx_callS (X : Stand p l e R s m args below meth c T locs cells slots) (hexec : p.tables.exec = Jvm.exec) {own : String} {index : Nat} {y : MethodName} {bytes : ByteArray} {maxL : Nat} {ret : Option FieldType}
    (hown : s.vm.findClass own = some m.cls) (hlink : (Cond.methodLink own index y).before args s = true) (hstat : (Cond.static y).before args s = true) (hinit : (Cond.initialized y.cls).before args s = true)
    (hcode : (Cond.code y bytes maxL ret).before args s = true) (hy : y.cls ≠ "java/lang/invoke/MethodHandle" ∧ y.cls ≠ "java/lang/invoke/VarHandle")
    {W9 : Nat} {Pre : Pt → Array Value → Prop} {Post : Pt → Array Value → Option Value → Pt → Prop} {PostX : Pt → Array Value → Addr → Pt → Prop} (hK : vx_Back l R p e below s args y 3 W9 Pre Post PostX)
    {g : JFrame} (hg : g.method = m) (hsize : g.locals.size = c.maxLocals) {argsL rest : List Value} (hlen : ∀ sig, parseMethodDescriptor y.desc = some sig → argsL.length = sig.parameters.length)
    (hstack : g.stack = argsL.reverse ++ rest) (hW : 2 * g.monitorRoom + (rest.map fun v => v.category).sum ≤ W9) (hdg : decode c.code g.pc = .ok (.invokestatic index, 3))
    (hpre : ∀ vm₁, s.WarmedH vm₁ → Pre ⟨T.setVm vm₁, locs, cells, slots⟩ argsL.toArray) :
    (∃ (v : Option Value) (vm₁ : Vm) (B : Pt), s.WarmedH vm₁ ∧ Stand p l e R s m args below meth c B.U B.locs B.cells B.slots ∧ Post ⟨T.setVm vm₁, locs, cells, slots⟩ argsL.toArray v B ∧
      ∀ target, Steps p.tables e below (B.U.setTop { g with pc := g.pc + 3, stack := v.toList ++ rest }) target → Steps p.tables e below (T.setTop g) target) ∨
    (∃ (q : Addr) (vm₁ : Vm) (B : Pt), s.WarmedH vm₁ ∧ Stand p l e R s m args below meth c B.U B.locs B.cells B.slots ∧ PostX ⟨T.setVm vm₁, locs, cells, slots⟩ argsL.toArray q B ∧
      Steps p.tables e below (T.setTop g) ((B.U.setTop { g with stack := rest }).pushFrame (.throwing q))) := by
  obtain ⟨mk, hnamed⟩ := Cond.code_named hcode
  obtain ⟨methM, cM, hmethM, -, -, -, -, -, -, hsigM⟩ := Cond.code_spec hnamed hcode
  have hstatic : methM.isStatic = true := Cond.static_spec hnamed hmethM hstat
  obtain ⟨kP, hkP, -⟩ := className_of_methodNamed hnamed
  have hinitP : kP.init = .initialized := Cond.initialized_spec (findClass_of_methodNamed hnamed) hkP hinit
  obtain ⟨vm₁, X₁, hstep₁⟩ := X.invokestatic hexec hown hlink hnamed hmethM hstatic hkP hinitP hy (g := g) hg (argsL := argsL) (rest := rest) (hlen _ hsigM) hstack hdg
  rcases hK m meth c ⟨T.setVm vm₁, locs, cells, slots⟩ { g with stack := rest } (.invokestatic index) mk argsL.toArray X₁ hg hsize hdg hW (X₁.named hnamed) (hpre vm₁ X₁.warmed) with ⟨v, B, X', hpost, hsteps⟩ | ⟨q, B, X', hpost, hsteps⟩
  · exact Or.inl ⟨v, vm₁, B, X₁.warmed, X', hpost, fun target h => hstep₁ _ fun acts => by rw [doInvoke_state]; exact hsteps.trans h⟩
  · exact Or.inr ⟨q, vm₁, B, X₁.warmed, X', hpost, hstep₁ _ fun acts => by rw [doInvoke_state]; exact hsteps⟩
end Calls
theorem vx_cls {s : State} {T : State} {vm₁ : Vm} {E : String} {k : ClassId} (hW : s.WarmedH vm₁) (h : (T.setVm vm₁).vm.findClass E = some k) : s.vm.findClass E = some k := by
  have h1 : vm₁.findClass E = some k := h
  rw [hW.alike.findClass] at h1
  exact h1
/-- the method's frame g, with q thrown over it -/
def vx_W (p : Program) (l : Launch) (e : Env) (R : Room) (s : State) (m : MethodId) (args : Array Value) (below : List Frame) (meth : Method) (c : Code) (H : Heap) (locs : List Loc) (cells slots : Nat) (Q : State → Prop) (g : JFrame) (q : Addr) : Prop :=
  ∀ T : State, T.heap = H → Stand p l e R s m args below meth c T locs cells slots → ∃ t, Steps p.tables e below ((T.setTop g).pushFrame (.throwing q)) t ∧ Q t
def vx_Run (p : Program) (l : Launch) (e : Env) (R : Room) (s : State) (m : MethodId) (args : Array Value) (below : List Frame) (meth : Method) (c : Code) (H : Heap) (locs : List Loc) (cells slots mc ms : Nat) (g : JFrame) (rest : List Value) (Qa : State → Outcome → State → Prop) (XC : String → State → State → Prop) (free : Addr → Prop) : Prop :=
  ∀ T : State, T.heap = H → Stand p l e R s m args below meth c T locs cells slots →
    (∃ (v : Option Value) (st₀ t T' : State) (L : List Loc), st₀.heap = H ∧ Stand p l e R s m args below meth c T' (locs ++ L) (cells + mc) (slots + ms) ∧ (∀ q ∈ L, free q.base) ∧ T'.heap = t.heap ∧ T'.vm = t.vm ∧ Qa st₀ (.returned v) t ∧
      Goes p e below T g T' { g with pc := g.pc + 3, stack := v.toList ++ rest }) ∨
    (∃ (q : Addr) (st₀ t T' : State) (L : List Loc) (E : String) (ce : Cell), st₀.heap = H ∧ Stand p l e R s m args below meth c T' (locs ++ L) (cells + mc) (slots + ms) ∧ (∀ z ∈ L, free z.base) ∧ T'.heap = t.heap ∧ T'.vm = t.vm ∧ XC E st₀ t ∧ t.heap[q]? = some ce ∧ ce.vm = .none ∧ s.vm.findClass E = some ce.cls ∧
      Steps p.tables e below (T.setTop g) ((T'.setTop { g with stack := rest }).pushFrame (.throwing q)))
def vx_X {S : Type} (px : S → Prop) (B : String → S → State → Prop) (A : Nat → Prop) : String → State → State → Prop := fun E st t => ∃ u : S, px u ∧ B E u t ∧ va_F A st t
section Runs
variable {p : Program} {l : Launch} {e : Env} {R : Room} {s : State} {m : MethodId} {args : Array Value} {below : List Frame} {meth : Method} {c : Code} {H : Heap} {locs : List Loc} {cells slots : Nat}
variable {y : MethodName} {bytes cc : ByteArray} {maxL nL mc ms n index : Nat} {ret : Option FieldType} {ws : List Cond} {rm : Room} {Pc : Array Value → State → Prop} {Qc : Array Value → State → Outcome → State → Prop} {XC : String → State → State → Prop} {free : Addr → Prop} {Ts : List Cond} {own C : String} {b : Addr} {As rest : List Value} {g : JFrame}
theorem vx_callBack (cb : CallB R s args own index y bytes maxL ret ws rm mc ms n) (hM : vx_Met l y ws rm Pc Qc XC mc ms free) (hbl : FrameBlind Pc) : vx_Back l R p e below s args y 3 8 (PreOf R mc ms Pc) (PostOf Qc mc ms free) (vx_Post XC mc ms free) := by
  obtain ⟨hrc, hrs, hfr, hlo, hws, hcw, -, hini, -⟩ := cb
  exact vx_back (bytes := bytes) (maxL := maxL) (ret := ret) hM hbl hrc hrs hfr hlo hws hcw (fun a' U hW => word_at hW (Or.inl (by first | rfl | simp [Cond.onTables, Cond.keeps, Cond.steady])) hini)
theorem vx_runV (S : CallFix p m c cc nL s args Ts own) (hM : vx_Met l y ws rm Pc Qc XC mc ms free) (cw : CallW R s args own C index y bytes maxL ret ws rm mc ms n) (hp : PreV s H C b Pc As)
    (hg : g.method = m) (hn : As.length = n) (hsize : g.locals.size = nL) (hstack : g.stack = As.reverse ++ .ref b :: rest) (hW : 2 * g.monitorRoom + (rest.map fun v => v.category).sum ≤ 8) (hdg : decode cc g.pc = .ok (.invokevirtual index, 3)) (hf : cells + mc ≤ R.cells ∧ slots + ms ≤ R.slots) :
    vx_Run p l e R s m args below meth c H locs cells slots mc ms g rest (Qc (Value.ref b :: As).toArray) XC free := by
  have hK : vx_Back l R p e below s args y 3 8 (PreOf R mc ms Pc) (PostOf Qc mc ms free) (vx_Post XC mc ms free) := vx_callBack cw.1 hM hp.1
  obtain ⟨⟨-, -, -, -, -, -, hcode, -, hy, hlen, hl⟩, hin, hse⟩ := cw
  obtain ⟨hx, hb, hml, ho, -⟩ := S
  obtain ⟨-, ⟨cellB, hcB, hoB, hclB⟩, hPc⟩ := hp
  intro T hT X
  rcases vx_callV X hx (C := C) (bytes := bytes) (maxL := maxL) (ret := ret) ho hl hin hse hcode hy hK (by rw [hT]; exact hcB) hoB hclB hg (hsize.trans hml.symm) (argsL := As) (rest := rest) (fun sig h => hn.trans (hlen sig h)) hstack hW (by rw [hb]; exact hdg)
    (fun vm₁ hW₁ => ⟨hf.1, hf.2, hPc (T.setVm vm₁) hT hW₁⟩) with ⟨v, vm₁, ⟨U', l2, c2, s2⟩, hW₁, X', ⟨g', mk, t, L, e1, e2, hq, h1, hL, h2, h3⟩, st⟩ | ⟨q, vm₁, ⟨U', l2, c2, s2⟩, hW₁, X', ⟨g', mk, t, L, E, ce, e1, e2, hq, hce, hcv, hcl, h1, hL, h2, h3⟩, st⟩
  · dsimp only [Pt.U, Pt.locs, Pt.cells, Pt.slots] at X' e1 e2 h1 h2 h3 st
    subst h1; subst h2; subst h3
    exact Or.inl ⟨v, (T.setVm vm₁).calling g' mk (Value.ref b :: As).toArray, t, U', L, hT, X', hL, e1, e2, hq, st⟩
  · dsimp only [Pt.U, Pt.locs, Pt.cells, Pt.slots] at X' e1 e2 h1 h2 h3 st hcl
    subst h1; subst h2; subst h3
    exact Or.inr ⟨q, (T.setVm vm₁).calling g' mk (Value.ref b :: As).toArray, t, U', L, E, ce, hT, X', hL, e1, e2, hq, hce, hcv, vx_cls hW₁ hcl, st⟩
theorem vx_runS (S : CallFix p m c cc nL s args Ts own) (hM : vx_Met l y ws rm Pc Qc XC mc ms free) (cw : CallB R s args own index y bytes maxL ret ws rm mc ms n ∧ (Cond.static y).before args s = true) (hp : PreS s H Pc As)
    (hg : g.method = m) (hn : As.length = n) (hsize : g.locals.size = nL) (hstack : g.stack = As.reverse ++ rest) (hW : 2 * g.monitorRoom + (rest.map fun v => v.category).sum ≤ 8) (hdg : decode cc g.pc = .ok (.invokestatic index, 3)) (hf : cells + mc ≤ R.cells ∧ slots + ms ≤ R.slots) :
    vx_Run p l e R s m args below meth c H locs cells slots mc ms g rest (Qc As.toArray) XC free := by
  have hK : vx_Back l R p e below s args y 3 8 (PreOf R mc ms Pc) (PostOf Qc mc ms free) (vx_Post XC mc ms free) := vx_callBack cw.1 hM hp.1
  obtain ⟨⟨-, -, -, -, -, -, hcode, hini, hy, hlen, hl⟩, hstt⟩ := cw
  obtain ⟨hx, hb, hml, ho, -⟩ := S
  intro T hT X
  rcases vx_callS X hx (bytes := bytes) (maxL := maxL) (ret := ret) ho hl hstt hini hcode hy hK hg (hsize.trans hml.symm) (argsL := As) (rest := rest) (fun sig h => hn.trans (hlen sig h)) hstack hW (by rw [hb]; exact hdg)
    (fun vm₁ hW₁ => ⟨hf.1, hf.2, hp.2 (T.setVm vm₁) hT hW₁⟩) with ⟨v, vm₁, ⟨U', l2, c2, s2⟩, hW₁, X', ⟨g', mk, t, L, e1, e2, hq, h1, hL, h2, h3⟩, st⟩ | ⟨q, vm₁, ⟨U', l2, c2, s2⟩, hW₁, X', ⟨g', mk, t, L, E, ce, e1, e2, hq, hce, hcv, hcl, h1, hL, h2, h3⟩, st⟩
  · dsimp only [Pt.U, Pt.locs, Pt.cells, Pt.slots] at X' e1 e2 h1 h2 h3 st
    subst h1; subst h2; subst h3
    exact Or.inl ⟨v, (T.setVm vm₁).calling g' mk As.toArray, t, U', L, hT, X', hL, e1, e2, hq, st⟩
  · dsimp only [Pt.U, Pt.locs, Pt.cells, Pt.slots] at X' e1 e2 h1 h2 h3 st hcl
    subst h1; subst h2; subst h3
    exact Or.inr ⟨q, (T.setVm vm₁).calling g' mk As.toArray, t, U', L, E, ce, hT, X', hL, e1, e2, hq, hce, hcv, vx_cls hW₁ hcl, st⟩
end Runs
section Rows
variable {p : Program} {l : Launch} {e : Env} {R : Room} {s : State} {m : MethodId} {args : Array Value} {below : List Frame} {meth : Method} {c : Code} {H : Heap} {locs : List Loc} {cells slots : Nat} {Q : State → Prop}
variable {mc ms : Nat} {free : Addr → Prop} {A0 A1 : Nat → Prop} {H0 : Heap} {a : Array Value} {pc : Nat} {ls : Array Slot} {st0 rest : List Value}
theorem vx_keep {st₀ t T' : State} {L : List Loc} (h0 : st₀.heap = H) (e1 : T'.heap = t.heap) (hS : va_S A0 H0 H locs) (hA : ∀ q, q < H.size → A1 q → A0 q) (hf : ∀ q, free q → A0 q) (hL : ∀ q ∈ L, free q.base) (hF : va_F A1 st₀ t) :
    H.size ≤ T'.heap.size ∧ (∀ q : Nat, q < H.size → ¬ A1 q → T'.heap[q]? = H[q]?) ∧ va_S A0 H0 T'.heap (locs ++ L) := by
  obtain ⟨hz, hk⟩ := hF
  rw [h0] at hz hk
  exact ⟨by rw [e1]; exact hz, fun q h1 h2 => by rw [e1]; exact hk q h1 h2,
    ⟨Nat.le_trans hS.1 (by rw [e1]; exact hz), fun q h1 h2 => by rw [e1, hk q (Nat.lt_of_lt_of_le h1 hS.1) (fun z => h2 (hA q (Nat.lt_of_lt_of_le h1 hS.1) z))]; exact hS.2.1 q h1 h2, fun q hq => by
      rcases List.mem_append.mp hq with h | h
      · exact hS.2.2 q h
      · exact hf _ (hL q h)⟩⟩
theorem vx_calli {S SX : Type} {post : Int32 → S → Prop} {px : SX → Prop} {B : S → State → Prop} {BX : String → SX → State → Prop} {AX : Nat → Prop} (hr : vx_Run p l e R s m args below meth c H locs cells slots mc ms (F0 m pc ls st0) rest (va_Qi post B A1 a) (vx_X px BX AX) free) (hS : va_S A0 H0 H locs) (hA : ∀ q, q < H.size → A1 q → A0 q) (hf : ∀ q, free q → A0 q) (hAX : ∀ q, q < H.size → AX q → A0 q)
    (kx : ∀ (E : String) (ce : Cell) (q9 : Addr) (u : SX) (t : State) (H1 : Heap) (locs1 : List Loc), t.heap = H1 → s.vm.Alike t.vm → px u → BX E u t → H.size ≤ H1.size → (∀ q : Nat, q < H.size → ¬ AX q → H1[q]? = H[q]?) → va_S A0 H0 H1 locs1 → H1[q9]? = some ce → ce.vm = .none → s.vm.findClass E = some ce.cls → vx_W p l e R s m args below meth c H1 locs1 (cells + mc) (slots + ms) Q (F0 m pc ls rest) q9)
    (kk : ∀ (r : Int32) (u : S) (t : State) (H1 : Heap) (locs1 : List Loc), t.heap = H1 → s.vm.Alike t.vm → post r u → B u t → H.size ≤ H1.size → (∀ q : Nat, q < H.size → ¬ A1 q → H1[q]? = H[q]?) → va_S A0 H0 H1 locs1 → W p l e R s m args below meth c H1 locs1 (cells + mc) (slots + ms) Q (F0 m (pc + 3) ls (.int r :: rest))) : W p l e R s m args below meth c H locs cells slots Q (F0 m pc ls st0) := by
  intro T hT X
  rcases hr T hT X with ⟨v, st₀, t, T', L, h0, X', hL, e1, e2, ⟨⟨r, u, hv, hp, hb⟩, hF⟩, st⟩ | ⟨q, st₀, t, T', L, E, ce, h0, X', hL, e1, e2, ⟨u, hp, hb, hF⟩, hce, hcv, hcl, st⟩
  · cases hv
    obtain ⟨k1, k2, k3⟩ := vx_keep h0 e1 hS hA hf hL hF
    obtain ⟨t2, a1, b1⟩ := kk r u t T'.heap (locs ++ L) e1.symm (by rw [← e2]; exact X'.warmed.alike) hp hb k1 k2 k3 T' rfl X'
    exact ⟨t2, st t2 a1, b1⟩
  · obtain ⟨k1, k2, k3⟩ := vx_keep h0 e1 hS hAX hf hL hF
    obtain ⟨t2, a1, b1⟩ := kx E ce q u t T'.heap (locs ++ L) e1.symm (by rw [← e2]; exact X'.warmed.alike) hp hb k1 k2 k3 (by rw [e1]; exact hce) hcv hcl T' rfl X'
    exact ⟨t2, st.trans a1, b1⟩
theorem vx_calll {S SX : Type} {post : Int64 → S → Prop} {px : SX → Prop} {B : S → State → Prop} {BX : String → SX → State → Prop} {AX : Nat → Prop} (hr : vx_Run p l e R s m args below meth c H locs cells slots mc ms (F0 m pc ls st0) rest (va_Ql post B A1 a) (vx_X px BX AX) free) (hS : va_S A0 H0 H locs) (hA : ∀ q, q < H.size → A1 q → A0 q) (hf : ∀ q, free q → A0 q) (hAX : ∀ q, q < H.size → AX q → A0 q)
    (kx : ∀ (E : String) (ce : Cell) (q9 : Addr) (u : SX) (t : State) (H1 : Heap) (locs1 : List Loc), t.heap = H1 → s.vm.Alike t.vm → px u → BX E u t → H.size ≤ H1.size → (∀ q : Nat, q < H.size → ¬ AX q → H1[q]? = H[q]?) → va_S A0 H0 H1 locs1 → H1[q9]? = some ce → ce.vm = .none → s.vm.findClass E = some ce.cls → vx_W p l e R s m args below meth c H1 locs1 (cells + mc) (slots + ms) Q (F0 m pc ls rest) q9)
    (kk : ∀ (r : Int64) (u : S) (t : State) (H1 : Heap) (locs1 : List Loc), t.heap = H1 → s.vm.Alike t.vm → post r u → B u t → H.size ≤ H1.size → (∀ q : Nat, q < H.size → ¬ A1 q → H1[q]? = H[q]?) → va_S A0 H0 H1 locs1 → W p l e R s m args below meth c H1 locs1 (cells + mc) (slots + ms) Q (F0 m (pc + 3) ls (.long r :: rest))) : W p l e R s m args below meth c H locs cells slots Q (F0 m pc ls st0) := by
  intro T hT X
  rcases hr T hT X with ⟨v, st₀, t, T', L, h0, X', hL, e1, e2, ⟨⟨r, u, hv, hp, hb⟩, hF⟩, st⟩ | ⟨q, st₀, t, T', L, E, ce, h0, X', hL, e1, e2, ⟨u, hp, hb, hF⟩, hce, hcv, hcl, st⟩
  · cases hv
    obtain ⟨k1, k2, k3⟩ := vx_keep h0 e1 hS hA hf hL hF
    obtain ⟨t2, a1, b1⟩ := kk r u t T'.heap (locs ++ L) e1.symm (by rw [← e2]; exact X'.warmed.alike) hp hb k1 k2 k3 T' rfl X'
    exact ⟨t2, st t2 a1, b1⟩
  · obtain ⟨k1, k2, k3⟩ := vx_keep h0 e1 hS hAX hf hL hF
    obtain ⟨t2, a1, b1⟩ := kx E ce q u t T'.heap (locs ++ L) e1.symm (by rw [← e2]; exact X'.warmed.alike) hp hb k1 k2 k3 (by rw [e1]; exact hce) hcv hcl T' rfl X'
    exact ⟨t2, st.trans a1, b1⟩
theorem vx_callf {S SX : Type} {post : UInt32 → S → Prop} {px : SX → Prop} {B : S → State → Prop} {BX : String → SX → State → Prop} {AX : Nat → Prop} (hr : vx_Run p l e R s m args below meth c H locs cells slots mc ms (F0 m pc ls st0) rest (va_Qf post B A1 a) (vx_X px BX AX) free) (hS : va_S A0 H0 H locs) (hA : ∀ q, q < H.size → A1 q → A0 q) (hf : ∀ q, free q → A0 q) (hAX : ∀ q, q < H.size → AX q → A0 q)
    (kx : ∀ (E : String) (ce : Cell) (q9 : Addr) (u : SX) (t : State) (H1 : Heap) (locs1 : List Loc), t.heap = H1 → s.vm.Alike t.vm → px u → BX E u t → H.size ≤ H1.size → (∀ q : Nat, q < H.size → ¬ AX q → H1[q]? = H[q]?) → va_S A0 H0 H1 locs1 → H1[q9]? = some ce → ce.vm = .none → s.vm.findClass E = some ce.cls → vx_W p l e R s m args below meth c H1 locs1 (cells + mc) (slots + ms) Q (F0 m pc ls rest) q9)
    (kk : ∀ (r : UInt32) (u : S) (t : State) (H1 : Heap) (locs1 : List Loc), t.heap = H1 → s.vm.Alike t.vm → post r u → B u t → H.size ≤ H1.size → (∀ q : Nat, q < H.size → ¬ A1 q → H1[q]? = H[q]?) → va_S A0 H0 H1 locs1 → W p l e R s m args below meth c H1 locs1 (cells + mc) (slots + ms) Q (F0 m (pc + 3) ls (.float r :: rest))) : W p l e R s m args below meth c H locs cells slots Q (F0 m pc ls st0) := by
  intro T hT X
  rcases hr T hT X with ⟨v, st₀, t, T', L, h0, X', hL, e1, e2, ⟨⟨r, u, hv, hp, hb⟩, hF⟩, st⟩ | ⟨q, st₀, t, T', L, E, ce, h0, X', hL, e1, e2, ⟨u, hp, hb, hF⟩, hce, hcv, hcl, st⟩
  · cases hv
    obtain ⟨k1, k2, k3⟩ := vx_keep h0 e1 hS hA hf hL hF
    obtain ⟨t2, a1, b1⟩ := kk r u t T'.heap (locs ++ L) e1.symm (by rw [← e2]; exact X'.warmed.alike) hp hb k1 k2 k3 T' rfl X'
    exact ⟨t2, st t2 a1, b1⟩
  · obtain ⟨k1, k2, k3⟩ := vx_keep h0 e1 hS hAX hf hL hF
    obtain ⟨t2, a1, b1⟩ := kx E ce q u t T'.heap (locs ++ L) e1.symm (by rw [← e2]; exact X'.warmed.alike) hp hb k1 k2 k3 (by rw [e1]; exact hce) hcv hcl T' rfl X'
    exact ⟨t2, st.trans a1, b1⟩
theorem vx_calld {S SX : Type} {post : UInt64 → S → Prop} {px : SX → Prop} {B : S → State → Prop} {BX : String → SX → State → Prop} {AX : Nat → Prop} (hr : vx_Run p l e R s m args below meth c H locs cells slots mc ms (F0 m pc ls st0) rest (va_Qd post B A1 a) (vx_X px BX AX) free) (hS : va_S A0 H0 H locs) (hA : ∀ q, q < H.size → A1 q → A0 q) (hf : ∀ q, free q → A0 q) (hAX : ∀ q, q < H.size → AX q → A0 q)
    (kx : ∀ (E : String) (ce : Cell) (q9 : Addr) (u : SX) (t : State) (H1 : Heap) (locs1 : List Loc), t.heap = H1 → s.vm.Alike t.vm → px u → BX E u t → H.size ≤ H1.size → (∀ q : Nat, q < H.size → ¬ AX q → H1[q]? = H[q]?) → va_S A0 H0 H1 locs1 → H1[q9]? = some ce → ce.vm = .none → s.vm.findClass E = some ce.cls → vx_W p l e R s m args below meth c H1 locs1 (cells + mc) (slots + ms) Q (F0 m pc ls rest) q9)
    (kk : ∀ (r : UInt64) (u : S) (t : State) (H1 : Heap) (locs1 : List Loc), t.heap = H1 → s.vm.Alike t.vm → post r u → B u t → H.size ≤ H1.size → (∀ q : Nat, q < H.size → ¬ A1 q → H1[q]? = H[q]?) → va_S A0 H0 H1 locs1 → W p l e R s m args below meth c H1 locs1 (cells + mc) (slots + ms) Q (F0 m (pc + 3) ls (.double r :: rest))) : W p l e R s m args below meth c H locs cells slots Q (F0 m pc ls st0) := by
  intro T hT X
  rcases hr T hT X with ⟨v, st₀, t, T', L, h0, X', hL, e1, e2, ⟨⟨r, u, hv, hp, hb⟩, hF⟩, st⟩ | ⟨q, st₀, t, T', L, E, ce, h0, X', hL, e1, e2, ⟨u, hp, hb, hF⟩, hce, hcv, hcl, st⟩
  · cases hv
    obtain ⟨k1, k2, k3⟩ := vx_keep h0 e1 hS hA hf hL hF
    obtain ⟨t2, a1, b1⟩ := kk r u t T'.heap (locs ++ L) e1.symm (by rw [← e2]; exact X'.warmed.alike) hp hb k1 k2 k3 T' rfl X'
    exact ⟨t2, st t2 a1, b1⟩
  · obtain ⟨k1, k2, k3⟩ := vx_keep h0 e1 hS hAX hf hL hF
    obtain ⟨t2, a1, b1⟩ := kx E ce q u t T'.heap (locs ++ L) e1.symm (by rw [← e2]; exact X'.warmed.alike) hp hb k1 k2 k3 (by rw [e1]; exact hce) hcv hcl T' rfl X'
    exact ⟨t2, st.trans a1, b1⟩
theorem vx_callv {S SX : Type} {post : S → Prop} {px : SX → Prop} {B : S → State → Prop} {BX : String → SX → State → Prop} {AX : Nat → Prop} (hr : vx_Run p l e R s m args below meth c H locs cells slots mc ms (F0 m pc ls st0) rest (va_Qv post B A1 a) (vx_X px BX AX) free) (hS : va_S A0 H0 H locs) (hA : ∀ q, q < H.size → A1 q → A0 q) (hf : ∀ q, free q → A0 q) (hAX : ∀ q, q < H.size → AX q → A0 q)
    (kx : ∀ (E : String) (ce : Cell) (q9 : Addr) (u : SX) (t : State) (H1 : Heap) (locs1 : List Loc), t.heap = H1 → s.vm.Alike t.vm → px u → BX E u t → H.size ≤ H1.size → (∀ q : Nat, q < H.size → ¬ AX q → H1[q]? = H[q]?) → va_S A0 H0 H1 locs1 → H1[q9]? = some ce → ce.vm = .none → s.vm.findClass E = some ce.cls → vx_W p l e R s m args below meth c H1 locs1 (cells + mc) (slots + ms) Q (F0 m pc ls rest) q9)
    (kk : ∀ (u : S) (t : State) (H1 : Heap) (locs1 : List Loc), t.heap = H1 → s.vm.Alike t.vm → post u → B u t → H.size ≤ H1.size → (∀ q : Nat, q < H.size → ¬ A1 q → H1[q]? = H[q]?) → va_S A0 H0 H1 locs1 → W p l e R s m args below meth c H1 locs1 (cells + mc) (slots + ms) Q (F0 m (pc + 3) ls (rest))) : W p l e R s m args below meth c H locs cells slots Q (F0 m pc ls st0) := by
  intro T hT X
  rcases hr T hT X with ⟨v, st₀, t, T', L, h0, X', hL, e1, e2, ⟨⟨u, hv, hp, hb⟩, hF⟩, st⟩ | ⟨q, st₀, t, T', L, E, ce, h0, X', hL, e1, e2, ⟨u, hp, hb, hF⟩, hce, hcv, hcl, st⟩
  · cases hv
    obtain ⟨k1, k2, k3⟩ := vx_keep h0 e1 hS hA hf hL hF
    obtain ⟨t2, a1, b1⟩ := kk u t T'.heap (locs ++ L) e1.symm (by rw [← e2]; exact X'.warmed.alike) hp hb k1 k2 k3 T' rfl X'
    exact ⟨t2, st t2 a1, b1⟩
  · obtain ⟨k1, k2, k3⟩ := vx_keep h0 e1 hS hAX hf hL hF
    obtain ⟨t2, a1, b1⟩ := kx E ce q u t T'.heap (locs ++ L) e1.symm (by rw [← e2]; exact X'.warmed.alike) hp hb k1 k2 k3 (by rw [e1]; exact hce) hcv hcl T' rfl X'
    exact ⟨t2, st.trans a1, b1⟩
/-- caught by the row x of this method's table; the rows ahead don't take it -/
theorem vx_catch {own name : String} {E : String} {ce : Cell} {q : Addr} (hown : s.vm.findClass own = some m.cls) (pre : List ExceptionTableEntry) (x : ExceptionTableEntry) (suf : List ExceptionTableEntry) (hsplit : c.exceptionTable.toList = pre ++ x :: suf)
    (hpass : ∀ z ∈ pre, covers z pc = false ∨ (z.catchType ≠ 0 ∧ ∃ nm : String, (Cond.classLink own z.catchType nm).before args s = true ∧ va_Nc E nm s)) (hx : covers x pc = true) (h0 : x.catchType ≠ 0)
    (hlink : (Cond.classLink own x.catchType name).before args s = true) (hcast : (Cond.castable E name).before args s = true) (hcell : H[q]? = some ce) (hv : ce.vm = .none) (hcl : s.vm.findClass E = some ce.cls)
    (kk : W p l e R s m args below meth c H locs cells slots Q (F0 m x.handlerPc ls [.ref q])) : vx_W p l e R s m args below meth c H locs cells slots Q (F0 m pc ls rest) q := by
  intro T hT X
  have hpl : e.platform.magicAccessors = ({} : Platform).magicAccessors := by rw [X.admits.platform]
  obtain ⟨c3, c4, hc3, hc4, hasg⟩ := Cond.castable_spec hcast
  cases Option.some.inj (hc3.symm.trans hcl)
  obtain ⟨c5, hc5, hcl5⟩ := Cond.classLink_spec hown hlink e.platform hpl
  cases Option.some.inj (hc4.symm.trans hc5)
  obtain ⟨vm', X', st⟩ := X.thenCaughtThrough q (g := F0 m pc ls rest) rfl (Steps.refl _) (by rw [hT]; exact hcell) (by rw [hv]; rfl) (by obtain ⟨k9, h9, -⟩ := Vm.findClass_spec hcl; exact ⟨k9, h9⟩) pre x suf hsplit
    (fun z hz => by
      rcases hpass z hz with h | ⟨hz0, nm, hl1, hn1⟩
      · exact Or.inl h
      · obtain ⟨c6, hc6, hcl6⟩ := Cond.classLink_spec hown hl1 e.platform hpl
        obtain ⟨a8, b8, h1, h2, h3⟩ := hn1
        cases Option.some.inj (h1.symm.trans hcl)
        cases Option.some.inj (h2.symm.trans hc6)
        exact Or.inr ⟨hz0, _, hcl6, h3⟩) hx (Or.inr ⟨h0, c4, hcl5, hasg⟩)
  obtain ⟨t, a1, b1⟩ := kk (T.setVm vm') hT X'
  exact ⟨t, st.trans a1, b1⟩
end Rows
section Ends
variable {p : Program} {l : Launch} {e : Env} {R : Room} {s : State} {m : MethodId} {args : Array Value} {below : List Frame} {meth : Method} {c : Code} {H : Heap} {locs : List Loc} {cells slots : Nat} {Q : State → Prop}
variable {mc ms : Nat} {free : Addr → Prop} {A0 A1 : Nat → Prop} {H0 : Heap} {a : Array Value} {ls : Array Slot} {st0 rest : List Value}
variable {Qc : Array Value → State → Outcome → State → Prop} {XC : String → State → State → Prop}
/-- what a body that may throw owes at its end -/
def vx_MQ (below : List Frame) (Qc : Array Value → State → Outcome → State → Prop) (XC : String → State → State → Prop) (a : Array Value) (s : State) (mc ms : Nat) (free : Addr → Prop) : State → Prop := fun t =>
  ∃ o, t.status = .running ∧ Ended t below o ∧ vx_Q Qc XC mc ms free a s o t
theorem vx_ret {g : JFrame} {mc ms : Nat} (k : W p l e R s m args below meth c H locs cells slots (MQ below Qc args s mc ms free) g) : W p l e R s m args below meth c H locs cells slots (vx_MQ below Qc XC args s mc ms free) g := by
  intro T hT X
  obtain ⟨t, a1, o, b1, b2, b3, b4⟩ := k T hT X
  exact ⟨t, a1, o, b1, b2, Or.inl ⟨b3, b4⟩⟩
/-- not caught here: it goes on to the caller -/
theorem vx_widen {g : JFrame} {q : Addr} {k n : Nat} (h1 : cells ≤ k) (h2 : slots ≤ n) (kk : vx_W p l e R s m args below meth c H locs k n Q g q) : vx_W p l e R s m args below meth c H locs cells slots Q g q := fun T hT X => kk T hT (stand_widen X h1 h2)
theorem vx_out {pc : Nat} {E : String} {ce : Cell} {q : Addr} {mc ms : Nat} (hout : ∀ x ∈ c.exceptionTable.toList, covers x pc = false) (hlocks : meth.locks = false) (hcell : H[q]? = some ce) (hv : ce.vm = .none) (hcl : s.vm.findClass E = some ce.cls)
    (hx : ∀ t : State, t.heap = H → s.vm.Alike t.vm → XC E s t) (hf : ∀ z ∈ locs, free z.base) (hc : cells ≤ mc) (hs : slots ≤ ms) :
    vx_W p l e R s m args below meth c H locs cells slots (vx_MQ below Qc XC args s mc ms free) (F0 m pc ls rest) q := by
  intro T hT X
  obtain ⟨st1, hrun, hend, hW, hsm⟩ := X.leaveThrown q (g := F0 m pc ls rest) rfl rfl rfl hout hlocks
  have hcell9 : (T.setFrames (.throwing q :: below)).heap[q]? = some ce := by
    show T.heap[q]? = some ce
    rw [hT]; exact hcell
  exact ⟨_, st1, .threw q, hrun, hend, Or.inr ⟨q, rfl, E, ce, locs, hx _ hT hW.alike, hcell9, hv, hcl, hW, hsm.mono hc hs, hf⟩⟩
theorem vx_frame {U : State} {k n : Nat} (h : s.sameButNew ({ U with vm := s.vm } : State) locs k n) : s.heap.size ≤ U.heap.size ∧ ∀ q : Nat, q < s.heap.size → (∀ z ∈ locs, z.base ≠ q) → U.heap[q]? = s.heap[q]? := by
  obtain ⟨-, h2, -, -, -, h6⟩ := h
  refine ⟨h2, fun q hq hz => ?_⟩
  obtain ⟨c9, e1, e2, e3, e4⟩ := h6 q _ (Array.getElem?_eq_getElem hq)
  have hs : c9.slots = (s.heap[q]).slots := Array.ext_getElem? fun i => e4 i fun hm => hz _ hm rfl
  have h9 : c9 = s.heap[q] := by
    rw [hs] at e2
    exact e2
  have e5 : U.heap[q]? = some c9 := e1
  rw [e5, h9, Array.getElem?_eq_getElem hq]
/-- the words of a throw but the four that speak of the heap -/
def vx_no (w : Cond) : Bool := decide (w ≠ .isRef (.static Bundle.tN "UNASSIGNED_STACK" Bundle.steD)) && decide (w ≠ .isRef (.static Bundle.tN "SUPPRESSED_SENTINEL" Bundle.listD)) && decide (w ≠ .laysStatic Bundle.tN "UNASSIGNED_STACK" Bundle.steD) && decide (w ≠ .laysStatic Bundle.tN "SUPPRESSED_SENTINEL" Bundle.listD)
def vx_at0 (own : String) (ic : Nat) (X : String) (names : List String) : List Cond := (Bundle.ownAtoms0 own ic X names).filter vx_no
def vx_atS (own : String) (ic : Nat) (X : String) (names : List String) : List Cond := (Bundle.ownAtoms own ic X names).filter vx_no
/-- a word that the tables alone decide, or a good one -/
def vx_ot (w : Cond) : Bool := w.onTables || goodWord w
theorem vx_ot_at {args a' : Array Value} {s U : State} {w : Cond} (hW : s.WarmedH U.vm) (hvm : s.vm = U.vm) (hg : vx_ot w = true) (h : w.before args s = true) : w.before a' U = true := by
  simp only [vx_ot, Bool.or_eq_true] at hg
  rcases hg with hg | hg
  · exact va_tabs hg hvm h
  · exact word_at hW (good_of_word hg) h
/-- a list's words: the good ones out of the method's own list, the others by premises of their own -/
theorem vx_hat {args : Array Value} {s : State} {L B : List Cond} (h1 : ∀ w ∈ L.filter goodWord, w.before args s = true) (h2 : ∀ w ∈ L.filter (fun w => !goodWord w), w ∈ B) (h3 : ∀ w ∈ B, w.before args s = true) : ∀ w ∈ L, w.before args s = true := by
  intro w hw
  by_cases g : goodWord w = true
  · exact h1 w (List.mem_filter.mpr ⟨hw, g⟩)
  · refine h3 w (h2 w (List.mem_filter.mpr ⟨hw, ?_⟩))
    show (!goodWord w) = true
    cases hgw : goodWord w
    · rfl
    · exact absurd hgw g
theorem vx_c {args : Array Value} {s : State} {w : Cond} {B : List Cond} (h : w.before args s = true) (t : ∀ w ∈ B, w.before args s = true) : ∀ w' ∈ w :: B, w'.before args s = true := fun w' h' => (List.mem_cons.mp h').elim (fun e => by rw [e]; exact h) (t w')
theorem vx_n {args : Array Value} {s : State} : ∀ w ∈ ([] : List Cond), w.before args s = true := fun _ h => nomatch h
theorem vx_own {args : Array Value} {s : State} {L : List Cond} (h1 : ∀ w ∈ L.filter vx_no, w.before args s = true)
    (hU : (Cond.isRef (.static Bundle.tN "UNASSIGNED_STACK" Bundle.steD)).before args s = true) (hN : (Cond.isRef (.static Bundle.tN "SUPPRESSED_SENTINEL" Bundle.listD)).before args s = true)
    (lU : (Cond.laysStatic Bundle.tN "UNASSIGNED_STACK" Bundle.steD).before args s = true) (lN : (Cond.laysStatic Bundle.tN "SUPPRESSED_SENTINEL" Bundle.listD).before args s = true) : ∀ w ∈ L, w.before args s = true := by
  intro w hw
  by_cases e1 : w = .isRef (.static Bundle.tN "UNASSIGNED_STACK" Bundle.steD)
  · rw [e1]; exact hU
  · by_cases e2 : w = .isRef (.static Bundle.tN "SUPPRESSED_SENTINEL" Bundle.listD)
    · rw [e2]; exact hN
    · by_cases e3 : w = .laysStatic Bundle.tN "UNASSIGNED_STACK" Bundle.steD
      · rw [e3]; exact lU
      · by_cases e4 : w = .laysStatic Bundle.tN "SUPPRESSED_SENTINEL" Bundle.listD
        · rw [e4]; exact lN
        · exact h1 w (List.mem_filter.mpr ⟨hw, by unfold vx_no; rw [decide_eq_true e1, decide_eq_true e2, decide_eq_true e3, decide_eq_true e4]; rfl⟩)
/-- where a static field lies, its class's statics cell in H -/
def vx_L (C n d : String) (A : Nat → Prop) (U : State) (H : Heap) : Prop := ∃ (c : ClassId) (k : Class) (i : Nat) (f : Field) (a : Nat) (cell : Cell), U.vm.findClass C = some c ∧ U.fieldFound? C n d = some (c, k, i, f) ∧ f.isStatic = true ∧ k.statics = some a ∧ H[a]? = some cell ∧ cell.vm.isStatics = true ∧ cell.cls = c ∧ f.slot < cell.slots.size ∧ k.staticTypes[f.slot]? = some f.type ∧ ¬ A a
theorem vx_L.moved {C n d : String} {A : Nat → Prop} {u U : State} {H : Heap} (hvm : u.vm.Alike U.vm) (h : vx_L C n d A u H) : vx_L C n d A U H := by
  obtain ⟨c, k, i, f, a, cell, h1, h2, h3, h4, h5, h6, h7, h8, h9, h10⟩ := h
  obtain ⟨k', hi', he⟩ := State.fieldFound?_setVm hvm h2
  exact ⟨c, k', i, f, a, cell, by rw [hvm.findClass]; exact h1, hi', h3, by rw [he]; exact h4, h5, h6, h7, h8, by rw [he]; exact h9, h10⟩
theorem vx_L.kept {C n d : String} {A : Nat → Prop} {U : State} {H H1 : Heap} (h : vx_L C n d A U H) (hq : ∀ a : Nat, a < H.size → ¬ A a → H1[a]? = H[a]?) : vx_L C n d A U H1 := by
  obtain ⟨c, k, i, f, a, cell, h1, h2, h3, h4, h5, h6, h7, h8, h9, h10⟩ := h
  exact ⟨c, k, i, f, a, cell, h1, h2, h3, h4, by rw [hq a (Array.getElem?_eq_some_iff.mp h5).1 h10]; exact h5, h6, h7, h8, h9, h10⟩
theorem vx_L.narrow {C n d : String} {A B : Nat → Prop} {U : State} {H : Heap} (h : vx_L C n d A U H) (hAB : ∀ q, B q → A q) : vx_L C n d B U H := by
  obtain ⟨c, k, i, f, a, cell, h1, h2, h3, h4, h5, h6, h7, h8, h9, h10⟩ := h
  exact ⟨c, k, i, f, a, cell, h1, h2, h3, h4, h5, h6, h7, h8, h9, fun z => h10 (hAB _ z)⟩
theorem vx_L.word {C n d : String} {A : Nat → Prop} {s : State} {args : Array Value} (h : vx_L C n d A s s.heap) : (Cond.laysStatic C n d).before args s = true := by
  obtain ⟨c, k, i, f, a, cell, h1, h2, h3, h4, h5, h6, h7, h8, h9, -⟩ := h
  show (Cond.laysStatic C n d).holds args s none s [] = true
  exact Cond.laysStatic_of h1 h2 h3 h4 h5 h6 h7 h8 h9
/-- .. and what it holds: null or some reference -/
def vx_Zq (C n d : String) (A : Nat → Prop) (U : State) (H : Heap) : Prop := va_Zq C n d A U H ∧ vx_L C n d A U H
theorem vx_Zq.moved {C n d : String} {A : Nat → Prop} {u U : State} {H : Heap} (hvm : u.vm.Alike U.vm) (h : vx_Zq C n d A u H) : vx_Zq C n d A U H := ⟨va_Zq.moved hvm h.1, vx_L.moved hvm h.2⟩
theorem vx_Zq.kept {C n d : String} {A : Nat → Prop} {U : State} {H H1 : Heap} (h : vx_Zq C n d A U H) (hq : ∀ a : Nat, a < H.size → ¬ A a → H1[a]? = H[a]?) : vx_Zq C n d A U H1 := ⟨va_Zq.kept h.1 hq, vx_L.kept h.2 hq⟩
theorem vx_Zq.narrow {C n d : String} {A B : Nat → Prop} {U : State} {H : Heap} (h : vx_Zq C n d A U H) (hAB : ∀ q, B q → A q) : vx_Zq C n d B U H := ⟨va_Zq.narrow h.1 hAB, vx_L.narrow h.2 hAB⟩
theorem vx_Zqof {args : Array Value} {s : State} {C n d : String} {A : Nat → Prop} (hl : (Cond.laysStatic C n d).before args s = true) (hini : (Cond.initialized C).before args s = true) (h : (Cond.isRef (.static C n d)).before args s = true) (hA : ∀ a : Nat, a < s.heap.size → ¬ A a) : vx_Zq C n d A s s.heap := by
  refine ⟨va_Zqof hl hini h hA, ?_⟩
  obtain ⟨c, k, i, f, a, cell, h1, h2, h3, h4, h5, h6, h7, h8, h9⟩ := Cond.laysStatic_spec hl
  exact ⟨c, k, i, f, a, cell, h1, h2, h3, h4, h5, h6, h7, h8, h9, hA a (Array.getElem?_eq_some_iff.mp h5).1⟩
theorem vx_isRef {C n d : String} {v : Value} {A : Nat → Prop} {s : State} {args : Array Value} (h : va_Z C n d v A s s.heap) (hv : v.isRef = true) : (Cond.isRef (.static C n d)).before args s = true := by
  obtain ⟨cf, kf, fi, f, a, cell, h1, h2, h3, h4, h5, h6, h7, -⟩ := h
  have he : (Term.static C n d).eval args s none [] s = some v := by
    simp [Term.eval, State.fieldNamed?, h1, h2, h4, h5, h6, h7]
  simp only [Cond.before, Cond.holds, Cond.value, he]
  cases v <;> simp_all [Value.isRef]
theorem vx_isRefq {C n d : String} {A : Nat → Prop} {s : State} {args : Array Value} (h : va_Zq C n d A s s.heap) : (Cond.isRef (.static C n d)).before args s = true := by
  rcases h with h | ⟨t, h⟩
  · exact vx_isRef h rfl
  · exact vx_isRef h rfl
/-- the same frame, seen from here: as if the method were called anew in this heap -/
theorem vx_rebase {T : State} (X : Stand p l e R s m args below meth c T locs cells slots) {R' : Room} (hf : R'.frames ≤ R.frames) (hl : R'.locals ≤ R.locals) (hc : cells + R'.cells ≤ R.cells) (hs : slots + R'.slots ≤ R.slots) :
    Stand p l e R' ((T.setVm s.vm).setFrames (.invoking m args :: below)) m args below meth c T [] 0 0 := by
  have htop : (T.setVm s.vm).topJava?.isSome := X.here.top
  have hF : ((T.setVm s.vm).setFrames (.invoking m args :: below)).frames = .invoking m args :: below := State.frames_setFrames _ (State.cur_lt_of_top htop)
  obtain ⟨g₀, hg0⟩ := Option.isSome_iff_exists.mp htop
  obtain ⟨r, hr⟩ := State.topJava?_eq_some.mp hg0
  have hl9 : e.platform.stackLimits (T.setVm s.vm).me = e.platform.stackLimits s.me := X.limits
  have hb9 : (T.setVm s.vm).me.stackBytes = s.me.stackBytes := X.bytes
  refine ⟨X.admits, X.cas, X.clock, hF, ?_, X.hears, X.method, X.code, X.here, X.tail, X.warmed, ?_, ?_, ?_⟩
  · have h := X.room
    have hU : ((T.setVm s.vm).setFrames (.invoking m args :: below)).localsInUse = s.localsInUse := by
      rw [State.localsInUse_invoking hF (meth := meth) (c := c) X.method X.code, State.localsInUse_invoking X.frames X.method X.code]
    simp only [State.hasRoom, Bool.and_eq_true, decide_eq_true_eq] at h ⊢
    obtain ⟨⟨⟨⟨h1, h2, h3, h4, h5, h6⟩, h7⟩, h8⟩, h9⟩ := h
    rw [X.frames, List.length_cons] at h2 h3
    have q1 := X.heapSize
    have q2 := X.used
    simp only [hF, hU, List.length_cons, State.stackLimits_setFrames, State.stackBytes_setFrames, hl9, hb9]
    refine ⟨⟨⟨⟨by omega, by omega, by omega, by omega, by omega, h6⟩, ?_⟩, ?_⟩, X.book⟩
    · show T.heap.size + R'.cells ≤ e.platform.maxCells
      omega
    · show T.slotsUsed + R'.slots ≤ e.platform.maxSlots
      omega
  · rw [State.stackLimits_setFrames]; rfl
  · rw [State.stackBytes_setFrames]; rfl
  · refine ⟨?_, Nat.le_refl _, Nat.le_refl _, ?_, ?_, fun a c9 h9 => ⟨c9, h9, rfl, rfl, fun _ _ => rfl⟩⟩
    · obtain ⟨t, ht, -⟩ := State.frames_cons hr
      show T.setVm s.vm = { ((T.setVm s.vm).setFrames (.invoking m args :: below)).setFrames (T.setVm s.vm).frames with heap := T.heap, slotsUsed := T.slotsUsed }
      rw [State.setFrames_setFrames, State.setFrames_self ht]
      rfl
    · show T.slotsUsed = T.slotsUsed + ((T.heap.toList.drop T.heap.size).map (·.slots.size)).sum
      rw [List.drop_eq_nil_of_le (Nat.le_of_eq Array.length_toList)]
      rfl
    · show ((T.heap.toList.drop T.heap.size).map (·.slots.size)).sum ≤ 0
      rw [List.drop_eq_nil_of_le (Nat.le_of_eq Array.length_toList)]
      exact Nat.le_refl _
/-- 'throw new E()': new; dup; invokespecial; athrow -/
theorem vx_throw0 {cc : ByteArray} {pc : Nat} (hexec : p.tables.exec = Jvm.exec) (hb : c.code = cc) (hl : l.stackTraces = false) {own cls : String} {names : List String} {ik ic mc ms : Nat} {A : Nat → Prop}
    (hown : s.vm.findClass own = some m.cls) (hcls : Bundle.fit cls = true) (hnames : ∀ n ∈ names, Bundle.fit n = true)
    (hk : (Cond.classLink own ik cls).before args s = true) (hini : (Cond.initialized cls).before args s = true) (hat : ∀ w ∈ vx_at0 own ic cls names, w.before args s = true)
    (hgood : ∀ w ∈ Cond.classLink own ik cls :: Cond.initialized cls :: vx_at0 own ic cls names, vx_ot w = true)
    (hU : vx_Zq Bundle.tN "UNASSIGNED_STACK" Bundle.steD A s s.heap) (hN : vx_Zq Bundle.tN "SUPPRESSED_SENTINEL" Bundle.listD A s s.heap) (hS : va_S A s.heap H locs) (hsize : ls.size = c.maxLocals)
    (d0 : decode cc pc = .ok (.new ik, 3)) (d3 : decode cc (pc + 3) = .ok (.dup, 1)) (d4 : decode cc (pc + 4) = .ok (.invokespecial ic, 3)) (d7 : decode cc (pc + 7) = .ok (.athrow, 1))
    (hout : ∀ x ∈ c.exceptionTable.toList, covers x (pc + 7) = false)
    (hRframes : names.length + 3 < R.frames) (hRlocals : (rest.map fun v => v.category).sum + (13 * (names.length + 1) + 42) ≤ R.locals) (hRcells : cells + 1 ≤ R.cells) (hRslots : slots + 6 ≤ R.slots) (hlocks : meth.locks = false)
    (hx : ∀ t : State, s.vm.Alike t.vm → H.size ≤ t.heap.size → (∀ q : Nat, q < H.size → t.heap[q]? = H[q]?) → XC cls s t)
    (hf : ∀ z ∈ locs, free z.base) (hc : cells + 1 ≤ mc) (hs : slots + 6 ≤ ms) :
    W p l e R s m args below meth c H locs cells slots (vx_MQ below Qc XC args s mc ms free) (F0 m pc ls rest) := by
  intro T hT X
  have htr : e.platform.stackTraces = false := (show e.platform.stackTraces = l.stackTraces by rw [X.admits.platform]).trans hl
  have Y := vx_rebase X (R' := { frames := R.frames, locals := R.locals, cells := 1, slots := 6 }) (Nat.le_refl _) (Nat.le_refl _) hRcells hRslots
  obtain ⟨s', hA⟩ : ∃ z, z = (T.setVm s.vm).setFrames (.invoking m args :: below) := ⟨_, rfl⟩
  rw [← hA] at Y
  have hvm : s'.vm = s.vm := by rw [hA]; rfl
  have hhp : s'.heap = H := by rw [hA]; exact hT
  have hW0 : s.WarmedH s'.vm := by rw [hvm]; exact State.WarmedH.refl s
  have hat' : ∀ w ∈ vx_at0 own ic cls names, w.before args s' = true := fun w hw => vx_ot_at hW0 hvm.symm (hgood w (List.mem_cons_of_mem _ (List.mem_cons_of_mem _ hw))) (hat w hw)
  have hk' : (Cond.classLink own ik cls).before args s' = true := vx_ot_at hW0 hvm.symm (hgood _ List.mem_cons_self) hk
  have hini' : (Cond.initialized cls).before args s' = true := vx_ot_at hW0 hvm.symm (hgood _ (List.mem_cons_of_mem _ List.mem_cons_self)) hini
  have hU' : vx_Zq Bundle.tN "UNASSIGNED_STACK" Bundle.steD A s' s'.heap := by rw [hhp]; exact vx_Zq.moved hW0.alike (hU.kept hS.2.1)
  have hN' : vx_Zq Bundle.tN "SUPPRESSED_SENTINEL" Bundle.listD A s' s'.heap := by rw [hhp]; exact vx_Zq.moved hW0.alike (hN.kept hS.2.1)
  have h : ∀ w ∈ Bundle.ownAtoms0 own ic cls names, w.before args s' = true := vx_own hat' (vx_isRefq hU'.1) (vx_isRefq hN'.1) hU'.2.word hN'.2.word
  have hown' : s'.vm.findClass own = some m.cls := by rw [hvm]; exact hown
  have hins : (Cond.instantiable cls 6).before args s' = true := h _ (by simp [Bundle.ownAtoms0])
  obtain ⟨vm₁, cX, kX, hfX, hkX, -, -, X₁, st1⟩ := Y.newCold hexec (own := own) (C := cls) (index := ik) (n := 6) hown' hk' hins hini'
    (g := F0 m pc ls rest) rfl (by rw [hb]; exact d0) (Nat.le_refl _) (Nat.le_refl _)
  generalize hT1 : (T.setVm vm₁).pushCell { cls := cX, slots := kX.instanceTypes.map defaultValue, vm := .none } = T1 at X₁ st1
  have hcat : (Value.ref T.heap.size).category = 1 := rfl
  have hcellA : T1.heap[T.heap.size]? = some (freshCell cX kX) := by rw [← hT1]; exact State.heap_pushCell_size _ _
  have d3' : decode c.code (pc + 3) = .ok (.dup, 1) := by rw [hb]; exact d3
  obtain ⟨U, hsteps, hrun, hend, hW, hsame, ce, hce, hO⟩ := X₁.ctorThrow0 hexec htr (own := own) (cls := cls) (names := names) (ic := ic) hown' hcls hnames h (fun x hx => nomatch hx) hfX hkX hcellA (by rw [hhp, hT]; exact Nat.le_refl _)
    (g := { method := m, pc := pc + 4, locals := ls, stack := .ref T.heap.size :: .ref T.heap.size :: rest, locked := none }) rfl hsize rfl rfl (rest := rest) rfl
    (by rw [hb]; exact d4) (by rw [hb]; exact d7) hout hRframes (by simp only [List.map_cons, List.sum_cons, hcat]; omega) hlocks
  obtain ⟨f1, f2⟩ := vx_frame hsame
  rw [hhp] at f1 f2
  have hWs : s.WarmedH U.vm := State.WarmedH.trans hW0 hW
  have hcl : s.vm.findClass cls = some ce.cls := by
    have h9 := hO.cls
    rw [hvm] at h9
    exact h9
  have hall : s.sameButNew ({ U with vm := s.vm } : State) locs mc ms := by
    subst hA
    obtain ⟨e1, e2⟩ := hsame
    rw [State.setFrames_setFrames] at e1
    have h2 : (T.setVm s.vm).sameButNew ({ U with vm := s.vm } : State) [] (0 + 1) (0 + 6) := ⟨e1, e2⟩
    have h3 := X.same.trans h2
    rw [List.append_nil] at h3
    exact h3.mono hc hs
  refine ⟨U, ?_, .threw T.heap.size, hrun, hend, Or.inr ⟨T.heap.size, rfl, cls, ce, locs, hx U hWs.alike f1 (fun q hq => f2 q hq (fun z hz => nomatch hz)), hce, hO.vm, hcl, hWs, hall, hf⟩⟩
  refine st1 _ ?_
  show Steps p.tables e below (T1.setTop { method := m, pc := pc + 3, locals := ls, stack := .ref T.heap.size :: rest, locked := none }) _
  jvm_step X₁.here [X₁.here.top, hexec, d3', Value.category]
  exact hsteps
/-- 'throw new E("text")': new; dup; ldc; invokespecial; athrow -/
theorem vx_throwS {cc : ByteArray} {pc : Nat} (hexec : p.tables.exec = Jvm.exec) (hb : c.code = cc) (hl : l.stackTraces = false) {own cls text : String} {names : List String} {ik is ic mc ms sa : Nat} {A : Nat → Prop}
    (hown : s.vm.findClass own = some m.cls) (hcls : Bundle.fit cls = true) (hnames : ∀ n ∈ names, Bundle.fit n = true)
    (hk : (Cond.classLink own ik cls).before args s = true) (hini : (Cond.initialized cls).before args s = true) (hstr : vk_R own is text sa s) (hat : ∀ w ∈ vx_atS own ic cls names, w.before args s = true)
    (hgood : ∀ w ∈ Cond.classLink own ik cls :: Cond.initialized cls :: vx_atS own ic cls names, vx_ot w = true)
    (hU : vx_Zq Bundle.tN "UNASSIGNED_STACK" Bundle.steD A s s.heap) (hN : vx_Zq Bundle.tN "SUPPRESSED_SENTINEL" Bundle.listD A s s.heap) (hS : va_S A s.heap H locs) (hsize : ls.size = c.maxLocals)
    (d0 : decode cc pc = .ok (.new ik, 3)) (d3 : decode cc (pc + 3) = .ok (.dup, 1)) (d4 : decode cc (pc + 4) = .ok (.ldc is, 2)) (d6 : decode cc (pc + 6) = .ok (.invokespecial ic, 3)) (d9 : decode cc (pc + 9) = .ok (.athrow, 1))
    (hout : ∀ x ∈ c.exceptionTable.toList, covers x (pc + 9) = false)
    (hRframes : names.length + 3 < R.frames) (hRlocals : (rest.map fun v => v.category).sum + (13 * (names.length + 1) + 43) ≤ R.locals) (hRcells : cells + 1 ≤ R.cells) (hRslots : slots + 6 ≤ R.slots) (hlocks : meth.locks = false)
    (hx : ∀ t : State, s.vm.Alike t.vm → H.size ≤ t.heap.size → (∀ q : Nat, q < H.size → t.heap[q]? = H[q]?) → XC cls s t)
    (hf : ∀ z ∈ locs, free z.base) (hc : cells + 1 ≤ mc) (hs : slots + 6 ≤ ms) :
    W p l e R s m args below meth c H locs cells slots (vx_MQ below Qc XC args s mc ms free) (F0 m pc ls rest) := by
  intro T hT X
  have htr : e.platform.stackTraces = false := (show e.platform.stackTraces = l.stackTraces by rw [X.admits.platform]).trans hl
  have Y := vx_rebase X (R' := { frames := R.frames, locals := R.locals, cells := 1, slots := 6 }) (Nat.le_refl _) (Nat.le_refl _) hRcells hRslots
  obtain ⟨s', hA⟩ : ∃ z, z = (T.setVm s.vm).setFrames (.invoking m args :: below) := ⟨_, rfl⟩
  rw [← hA] at Y
  have hvm : s'.vm = s.vm := by rw [hA]; rfl
  have hhp : s'.heap = H := by rw [hA]; exact hT
  have hW0 : s.WarmedH s'.vm := by rw [hvm]; exact State.WarmedH.refl s
  have hat' : ∀ w ∈ vx_atS own ic cls names, w.before args s' = true := fun w hw => vx_ot_at hW0 hvm.symm (hgood w (List.mem_cons_of_mem _ (List.mem_cons_of_mem _ hw))) (hat w hw)
  have hk' : (Cond.classLink own ik cls).before args s' = true := vx_ot_at hW0 hvm.symm (hgood _ List.mem_cons_self) hk
  have hini' : (Cond.initialized cls).before args s' = true := vx_ot_at hW0 hvm.symm (hgood _ (List.mem_cons_of_mem _ List.mem_cons_self)) hini
  have hU' : vx_Zq Bundle.tN "UNASSIGNED_STACK" Bundle.steD A s' s'.heap := by rw [hhp]; exact vx_Zq.moved hW0.alike (hU.kept hS.2.1)
  have hN' : vx_Zq Bundle.tN "SUPPRESSED_SENTINEL" Bundle.listD A s' s'.heap := by rw [hhp]; exact vx_Zq.moved hW0.alike (hN.kept hS.2.1)
  have h : ∀ w ∈ Bundle.ownAtoms own ic cls names, w.before args s' = true := vx_own hat' (vx_isRefq hU'.1) (vx_isRefq hN'.1) hU'.2.word hN'.2.word
  have hown' : s'.vm.findClass own = some m.cls := by rw [hvm]; exact hown
  have hins : (Cond.instantiable cls 6).before args s' = true := h _ (by simp [Bundle.ownAtoms])
  obtain ⟨vm₁, cX, kX, hfX, hkX, -, -, X₁, st1⟩ := Y.newCold hexec (own := own) (C := cls) (index := ik) (n := 6) hown' hk' hins hini'
    (g := F0 m pc ls rest) rfl (by rw [hb]; exact d0) (Nat.le_refl _) (Nat.le_refl _)
  generalize hT1 : (T.setVm vm₁).pushCell { cls := cX, slots := kX.instanceTypes.map defaultValue, vm := .none } = T1 at X₁ st1
  have hcat : (Value.ref T.heap.size).category = 1 := rfl
  have hcellA : T1.heap[T.heap.size]? = some (freshCell cX kX) := by rw [← hT1]; exact State.heap_pushCell_size _ _
  have d3' : decode c.code (pc + 3) = .ok (.dup, 1) := by rw [hb]; exact d3
  have d4' : decode c.code (pc + 4) = .ok (.ldc is, 2) := by rw [hb]; exact d4
  have hstr' : vk_R own is text sa s' := vk_R.warm hW0 hstr
  obtain ⟨U, hsteps, hrun, hend, hW, hsame, ce, hce, hO⟩ := X₁.ctorThrowS hexec htr (own := own) (cls := cls) (names := names) (ic := ic) hown' hcls hnames h (fun x hx => nomatch hx) hfX hkX hcellA (by rw [hhp, hT]; exact Nat.le_refl _) (msg := .ref sa) rfl
    (g := { method := m, pc := pc + 6, locals := ls, stack := .ref sa :: .ref T.heap.size :: .ref T.heap.size :: rest, locked := none }) rfl hsize rfl rfl (rest := rest) rfl
    (by rw [hb]; exact d6) (by rw [hb]; exact d9) hout hRframes (by simp only [List.map_cons, List.sum_cons, hcat]; omega) hlocks
  obtain ⟨f1, f2⟩ := vx_frame hsame
  rw [hhp] at f1 f2
  have hWs : s.WarmedH U.vm := State.WarmedH.trans hW0 hW
  have hcl : s.vm.findClass cls = some ce.cls := by
    have h9 := hO.cls
    rw [hvm] at h9
    exact h9
  have hall : s.sameButNew ({ U with vm := s.vm } : State) locs mc ms := by
    subst hA
    obtain ⟨e1, e2⟩ := hsame
    rw [State.setFrames_setFrames] at e1
    have h2 : (T.setVm s.vm).sameButNew ({ U with vm := s.vm } : State) [] (0 + 1) (0 + 6) := ⟨e1, e2⟩
    have h3 := X.same.trans h2
    rw [List.append_nil] at h3
    exact h3.mono hc hs
  refine ⟨U, ?_, .threw T.heap.size, hrun, hend, Or.inr ⟨T.heap.size, rfl, cls, ce, locs, hx U hWs.alike f1 (fun q hq => f2 q hq (fun z hz => nomatch hz)), hce, hO.vm, hcl, hWs, hall, hf⟩⟩
  refine st1 _ ?_
  show Steps p.tables e below (T1.setTop { method := m, pc := pc + 3, locals := ls, stack := .ref T.heap.size :: rest, locked := none }) _
  jvm_step X₁.here [X₁.here.top, hexec, d3', Value.category]
  exact X₁.ldcString hexec (own := own) (text := text) (index := is) (a := sa) hown' hstr'.1 hstr'.2
    (g := { method := m, pc := pc + 4, locals := ls, stack := .ref T.heap.size :: .ref T.heap.size :: rest, locked := none }) rfl d4' _ hsteps
/-- 'throw new E("text")', the text by a wide index -/
theorem vx_throwSW {cc : ByteArray} {pc : Nat} (hexec : p.tables.exec = Jvm.exec) (hb : c.code = cc) (hl : l.stackTraces = false) {own cls text : String} {names : List String} {ik is ic mc ms sa : Nat} {A : Nat → Prop}
    (hown : s.vm.findClass own = some m.cls) (hcls : Bundle.fit cls = true) (hnames : ∀ n ∈ names, Bundle.fit n = true)
    (hk : (Cond.classLink own ik cls).before args s = true) (hini : (Cond.initialized cls).before args s = true) (hstr : vk_R own is text sa s) (hat : ∀ w ∈ vx_atS own ic cls names, w.before args s = true)
    (hgood : ∀ w ∈ Cond.classLink own ik cls :: Cond.initialized cls :: vx_atS own ic cls names, vx_ot w = true)
    (hU : vx_Zq Bundle.tN "UNASSIGNED_STACK" Bundle.steD A s s.heap) (hN : vx_Zq Bundle.tN "SUPPRESSED_SENTINEL" Bundle.listD A s s.heap) (hS : va_S A s.heap H locs) (hsize : ls.size = c.maxLocals)
    (d0 : decode cc pc = .ok (.new ik, 3)) (d3 : decode cc (pc + 3) = .ok (.dup, 1)) (d4 : decode cc (pc + 4) = .ok (.ldc_w is, 3)) (d7 : decode cc (pc + 7) = .ok (.invokespecial ic, 3)) (d10 : decode cc (pc + 10) = .ok (.athrow, 1))
    (hout : ∀ x ∈ c.exceptionTable.toList, covers x (pc + 10) = false)
    (hRframes : names.length + 3 < R.frames) (hRlocals : (rest.map fun v => v.category).sum + (13 * (names.length + 1) + 43) ≤ R.locals) (hRcells : cells + 1 ≤ R.cells) (hRslots : slots + 6 ≤ R.slots) (hlocks : meth.locks = false)
    (hx : ∀ t : State, s.vm.Alike t.vm → H.size ≤ t.heap.size → (∀ q : Nat, q < H.size → t.heap[q]? = H[q]?) → XC cls s t)
    (hf : ∀ z ∈ locs, free z.base) (hc : cells + 1 ≤ mc) (hs : slots + 6 ≤ ms) :
    W p l e R s m args below meth c H locs cells slots (vx_MQ below Qc XC args s mc ms free) (F0 m pc ls rest) := by
  intro T hT X
  have htr : e.platform.stackTraces = false := (show e.platform.stackTraces = l.stackTraces by rw [X.admits.platform]).trans hl
  have Y := vx_rebase X (R' := { frames := R.frames, locals := R.locals, cells := 1, slots := 6 }) (Nat.le_refl _) (Nat.le_refl _) hRcells hRslots
  obtain ⟨s', hA⟩ : ∃ z, z = (T.setVm s.vm).setFrames (.invoking m args :: below) := ⟨_, rfl⟩
  rw [← hA] at Y
  have hvm : s'.vm = s.vm := by rw [hA]; rfl
  have hhp : s'.heap = H := by rw [hA]; exact hT
  have hW0 : s.WarmedH s'.vm := by rw [hvm]; exact State.WarmedH.refl s
  have hat' : ∀ w ∈ vx_atS own ic cls names, w.before args s' = true := fun w hw => vx_ot_at hW0 hvm.symm (hgood w (List.mem_cons_of_mem _ (List.mem_cons_of_mem _ hw))) (hat w hw)
  have hk' : (Cond.classLink own ik cls).before args s' = true := vx_ot_at hW0 hvm.symm (hgood _ List.mem_cons_self) hk
  have hini' : (Cond.initialized cls).before args s' = true := vx_ot_at hW0 hvm.symm (hgood _ (List.mem_cons_of_mem _ List.mem_cons_self)) hini
  have hU' : vx_Zq Bundle.tN "UNASSIGNED_STACK" Bundle.steD A s' s'.heap := by rw [hhp]; exact vx_Zq.moved hW0.alike (hU.kept hS.2.1)
  have hN' : vx_Zq Bundle.tN "SUPPRESSED_SENTINEL" Bundle.listD A s' s'.heap := by rw [hhp]; exact vx_Zq.moved hW0.alike (hN.kept hS.2.1)
  have h : ∀ w ∈ Bundle.ownAtoms own ic cls names, w.before args s' = true := vx_own hat' (vx_isRefq hU'.1) (vx_isRefq hN'.1) hU'.2.word hN'.2.word
  have hown' : s'.vm.findClass own = some m.cls := by rw [hvm]; exact hown
  have hins : (Cond.instantiable cls 6).before args s' = true := h _ (by simp [Bundle.ownAtoms])
  obtain ⟨vm₁, cX, kX, hfX, hkX, -, -, X₁, st1⟩ := Y.newCold hexec (own := own) (C := cls) (index := ik) (n := 6) hown' hk' hins hini'
    (g := F0 m pc ls rest) rfl (by rw [hb]; exact d0) (Nat.le_refl _) (Nat.le_refl _)
  generalize hT1 : (T.setVm vm₁).pushCell { cls := cX, slots := kX.instanceTypes.map defaultValue, vm := .none } = T1 at X₁ st1
  have hcat : (Value.ref T.heap.size).category = 1 := rfl
  have hcellA : T1.heap[T.heap.size]? = some (freshCell cX kX) := by rw [← hT1]; exact State.heap_pushCell_size _ _
  have d3' : decode c.code (pc + 3) = .ok (.dup, 1) := by rw [hb]; exact d3
  have d4' : decode c.code (pc + 4) = .ok (.ldc_w is, 3) := by rw [hb]; exact d4
  have hstr' : vk_R own is text sa s' := vk_R.warm hW0 hstr
  obtain ⟨U, hsteps, hrun, hend, hW, hsame, ce, hce, hO⟩ := X₁.ctorThrowS hexec htr (own := own) (cls := cls) (names := names) (ic := ic) hown' hcls hnames h (fun x hx => nomatch hx) hfX hkX hcellA (by rw [hhp, hT]; exact Nat.le_refl _) (msg := .ref sa) rfl
    (g := { method := m, pc := pc + 7, locals := ls, stack := .ref sa :: .ref T.heap.size :: .ref T.heap.size :: rest, locked := none }) rfl hsize rfl rfl (rest := rest) rfl
    (by rw [hb]; exact d7) (by rw [hb]; exact d10) hout hRframes (by simp only [List.map_cons, List.sum_cons, hcat]; omega) hlocks
  obtain ⟨f1, f2⟩ := vx_frame hsame
  rw [hhp] at f1 f2
  have hWs : s.WarmedH U.vm := State.WarmedH.trans hW0 hW
  have hcl : s.vm.findClass cls = some ce.cls := by
    have h9 := hO.cls
    rw [hvm] at h9
    exact h9
  have hall : s.sameButNew ({ U with vm := s.vm } : State) locs mc ms := by
    subst hA
    obtain ⟨e1, e2⟩ := hsame
    rw [State.setFrames_setFrames] at e1
    have h2 : (T.setVm s.vm).sameButNew ({ U with vm := s.vm } : State) [] (0 + 1) (0 + 6) := ⟨e1, e2⟩
    have h3 := X.same.trans h2
    rw [List.append_nil] at h3
    exact h3.mono hc hs
  refine ⟨U, ?_, .threw T.heap.size, hrun, hend, Or.inr ⟨T.heap.size, rfl, cls, ce, locs, hx U hWs.alike f1 (fun q hq => f2 q hq (fun z hz => nomatch hz)), hce, hO.vm, hcl, hWs, hall, hf⟩⟩
  refine st1 _ ?_
  show Steps p.tables e below (T1.setTop { method := m, pc := pc + 3, locals := ls, stack := .ref T.heap.size :: rest, locked := none }) _
  jvm_step X₁.here [X₁.here.top, hexec, d3', Value.category]
  exact X₁.ldcStringW hexec (own := own) (text := text) (index := is) (a := sa) hown' hstr'.1 hstr'.2
    (g := { method := m, pc := pc + 4, locals := ls, stack := .ref T.heap.size :: .ref T.heap.size :: rest, locked := none }) rfl d4' _ hsteps
end Ends
section Bodies
variable {l : Launch}
theorem vx_ofW {y : MethodName} {ws ws' : List Cond} {rm : Room} {Pc : Array Value → State → Prop} {Qc : Array Value → State → Outcome → State → Prop} {XC : String → State → State → Prop} {mc ms : Nat} {free : Addr → Prop} {cc : ByteArray} {maxL : Nat} {ret : Option FieldType}
    (hy : plainName y.cls = true) (hw : ws = Cond.code y cc maxL ret :: ws')
    (body : ∀ p e s m args below meth c s₁, BodyLoose p l y (headSpec ws rm) cc maxL ret e s m args below meth c s₁ → c.maxLocals = maxL → (∀ x ∈ c.exceptionTable.toList, False) → Pc args s →
      W p l e (headSpec ws rm).room s m args below meth c s.heap [] 0 0 (vx_MQ below Qc XC args s mc ms free) (entryFrame m args maxL)) : vx_Met l y ws rm Pc Qc XC mc ms free := by
  refine MetFree.of_bodyS (code := cc) (maxLocals := maxL) (ret := ret) hy ?_ ?_
  · intro args s m h hn
    obtain ⟨meth, c, h1, h2, h3, h4, h5, h6, -, -⟩ := Cond.code_spec hn (atoms_spec (ws := ws) h _ (by rw [hw]; exact List.mem_cons_self))
    exact ⟨meth, c, h1, h2, h3, h4, h5, h6⟩
  · intro p e s m args below meth c s₁ B hml hP _
    have hh0 : s₁.heap = s.heap := by rw [B.state]; rfl
    have ht : ∀ x ∈ c.exceptionTable.toList, False := by
      obtain ⟨meth9, c9, h1, h2, -, -, -, -, h7, -⟩ := Cond.code_spec B.named (atoms_spec (ws := ws) B.pre _ (by rw [hw]; exact List.mem_cons_self))
      cases Option.some.inj (h1.symm.trans B.method)
      cases Option.some.inj (h2.symm.trans (Stand.of_body B).code)
      intro x hx
      rw [Array.isEmpty_iff.mp h7] at hx
      cases hx
    obtain ⟨t, a1, o, b1, b2, b3⟩ := body p e s m args below meth c s₁ B hml ht hP s₁ hh0 (Stand.of_body B)
    exact ⟨t, o, a1, b1, b2, b3⟩
/-- the table of a body with handlers -/
theorem vx_table {p : Program} {x y : MethodName} {S : Spec} {cc bytes : ByteArray} {maxL maxL' : Nat} {ret ret' : Option FieldType} {e : Env} {s s₁ : State} {m : MethodId} {args : Array Value} {below : List Frame} {meth : Method} {c : Code} {hh : List (Nat × Nat × Nat × Nat)}
    (B : BodyLoose p l y S cc maxL ret e s m args below meth c s₁) (h : (Cond.codeWith y bytes maxL' ret' hh).before args s = true) : c.exceptionTable.toList = tableOf hh := by
  obtain ⟨m9, meth9, c9, hn9, h1, h2, -, -, h6, -⟩ := Cond.codeWith_spec h
  cases Option.some.inj (hn9.symm.trans B.named)
  cases Option.some.inj (h1.symm.trans B.method)
  cases Option.some.inj (h2.symm.trans (Stand.of_body B).code)
  rw [← h6, table_eq]
end Bodies
end VXA
/-! ===== END ===== -/
/-! ===== BEGIN a static call of a method with an exception table ===== -/
section VXS
variable {p : Program} {l : Launch} {e : Env} {R : Room} {s : State} {m : MethodId} {args : Array Value} {below : List Frame} {meth : Method} {c : Code} {T : State} {H : Heap} {locs : List Loc} {cells slots : Nat}
abbrev vx_CSW (R : Room) (s : State) (args : Array Value) (own : String) (index : Nat) (y : MethodName) (bytes : ByteArray) (maxL : Nat) (ret : Option FieldType) (hh : List (Nat × Nat × Nat × Nat)) (ws : List Cond) (rm : Room) (mc ms n : Nat) : Prop :=
  (rm.cells = mc ∧ rm.slots = ms ∧ rm.frames + 1 ≤ R.frames ∧ 8 + (maxL + 11) + rm.locals ≤ R.locals ∧ (∀ w ∈ ws, ∀ (a' : Array Value) (U : State), s.WarmedH U.vm → w.before a' U = true) ∧ Cond.codeWith y bytes maxL ret hh ∈ ws) ∧
  (Cond.codeWith y bytes maxL ret hh).before args s = true ∧ (Cond.initialized y.cls).before args s = true ∧ (y.cls ≠ "java/lang/invoke/MethodHandle" ∧ y.cls ≠ "java/lang/invoke/VarHandle") ∧
  (∀ sig, parseMethodDescriptor y.desc = some sig → n = sig.parameters.length) ∧ (Cond.methodLink own index y).before args s = true ∧ (Cond.static y).before args s = true
theorem vx_cwSW {own : String} {index maxL mc ms : Nat} {y : MethodName} {bytes : ByteArray} {ret : Option FieldType} {hh : List (Nat × Nat × Nat × Nat)} {Ts ws ws' : List Cond} {rm : Room} (n : Nat) (ht : ∀ w ∈ Ts, w.before args s = true) (hT : GoodIn Ts (va_wsS own index y ws)) (hw : ws = Cond.codeWith y bytes maxL ret hh :: ws') (hrc : rm.cells = mc) (hrs : rm.slots = ms)
    (hd : y.cls ≠ "java/lang/invoke/MethodHandle" ∧ y.cls ≠ "java/lang/invoke/VarHandle" ∧ (parseMethodDescriptor y.desc).map (fun d => d.parameters.length) = some n) (hR : rm.frames + 1 ≤ R.frames ∧ 8 + (maxL + 11) + rm.locals ≤ R.locals) :
    vx_CSW R s args own index y bytes maxL ret hh ws rm mc ms n := by
  have ok : ∀ w ∈ va_wsS own index y ws, w.before args s = true := fun w h => ht w (hT w h).1
  have hG : GoodIn Ts ws := fun w h => hT w (by unfold va_wsS; exact List.mem_append_right _ h)
  have hc : Cond.codeWith y bytes maxL ret hh ∈ ws := by rw [hw]; exact List.mem_cons_self
  refine ⟨⟨hrc, hrs, hR.1, hR.2, pay_in ht hG, hc⟩, ht _ (hG _ hc).1, ok _ (by simp [va_wsS]), ⟨hd.1, hd.2.1⟩, fun sig h => ?_, ok _ (by simp [va_wsS]), ok _ (by simp [va_wsS])⟩
  have h2 := hd.2.2
  rw [h] at h2
  exact (Option.some.inj h2).symm
theorem vx_callSW (X : Stand p l e R s m args below meth c T locs cells slots) (hexec : p.tables.exec = Jvm.exec) {own : String} {index : Nat} {y : MethodName} {bytes : ByteArray} {maxL : Nat} {ret : Option FieldType} {hh : List (Nat × Nat × Nat × Nat)}
    (hown : s.vm.findClass own = some m.cls) (hlink : (Cond.methodLink own index y).before args s = true) (hstat : (Cond.static y).before args s = true) (hinit : (Cond.initialized y.cls).before args s = true)
    (hcode : (Cond.codeWith y bytes maxL ret hh).before args s = true) (hy : y.cls ≠ "java/lang/invoke/MethodHandle" ∧ y.cls ≠ "java/lang/invoke/VarHandle")
    {W9 : Nat} {Pre : Pt → Array Value → Prop} {Post : Pt → Array Value → Option Value → Pt → Prop} (hK : Back l R p e below s args y 3 W9 Pre Post)
    {g : JFrame} (hg : g.method = m) (hsize : g.locals.size = c.maxLocals) {argsL rest : List Value} (hlen : ∀ sig, parseMethodDescriptor y.desc = some sig → argsL.length = sig.parameters.length)
    (hstack : g.stack = argsL.reverse ++ rest) (hW : 2 * g.monitorRoom + (rest.map fun v => v.category).sum ≤ W9) (hdg : decode c.code g.pc = .ok (.invokestatic index, 3))
    (hpre : ∀ vm₁, s.WarmedH vm₁ → Pre ⟨T.setVm vm₁, locs, cells, slots⟩ argsL.toArray) :
    ∃ (v : Option Value) (vm₁ : Vm) (B : Pt), s.WarmedH vm₁ ∧ Stand p l e R s m args below meth c B.U B.locs B.cells B.slots ∧ Post ⟨T.setVm vm₁, locs, cells, slots⟩ argsL.toArray v B ∧
      ∀ target, Steps p.tables e below (B.U.setTop { g with pc := g.pc + 3, stack := v.toList ++ rest }) target → Steps p.tables e below (T.setTop g) target := by
  obtain ⟨mk, methM, cM, hnamed, hmethM, -, -, -, -, -, -, hsigM⟩ := Cond.codeWith_spec hcode
  have hstatic : methM.isStatic = true := Cond.static_spec hnamed hmethM hstat
  obtain ⟨kP, hkP, -⟩ := className_of_methodNamed hnamed
  have hinitP : kP.init = .initialized := Cond.initialized_spec (findClass_of_methodNamed hnamed) hkP hinit
  obtain ⟨vm₁, X₁, hstep₁⟩ := X.invokestatic hexec hown hlink hnamed hmethM hstatic hkP hinitP hy (g := g) hg (argsL := argsL) (rest := rest) (hlen _ hsigM) hstack hdg
  obtain ⟨v, B, X', hpost, hsteps⟩ := hK m meth c ⟨T.setVm vm₁, locs, cells, slots⟩ { g with stack := rest } (.invokestatic index) mk argsL.toArray X₁ hg hsize hdg hW (X₁.named hnamed) (hpre vm₁ X₁.warmed)
  exact ⟨v, vm₁, B, X₁.warmed, X', hpost, fun target h => hstep₁ _ fun acts => by rw [doInvoke_state]; exact hsteps.trans h⟩
theorem vx_runSW {y : MethodName} {bytes cc : ByteArray} {maxL nL mc ms n index : Nat} {ret : Option FieldType} {hh : List (Nat × Nat × Nat × Nat)} {ws : List Cond} {rm : Room} {Pc : Array Value → State → Prop} {Qc : Array Value → State → Outcome → State → Prop} {free : Addr → Prop} {Ts : List Cond} {own : String} {As rest : List Value} {g : JFrame}
    (S : CallFix p m c cc nL s args Ts own) (hM : Met l y ws rm Pc Qc mc ms free) (cw : vx_CSW R s args own index y bytes maxL ret hh ws rm mc ms n) (hp : PreS s H Pc As)
    (hg : g.method = m) (hn : As.length = n) (hsize : g.locals.size = nL) (hstack : g.stack = As.reverse ++ rest) (hW : 2 * g.monitorRoom + (rest.map fun v => v.category).sum ≤ 8) (hdg : decode cc g.pc = .ok (.invokestatic index, 3)) (hf : cells + mc ≤ R.cells ∧ slots + ms ≤ R.slots) :
    va_Run p l e R s m args below meth c H locs cells slots mc ms g rest (Qc As.toArray) (free) := by
  obtain ⟨⟨hrc, hrs, hfr, hlo, hws, hcw⟩, hcode, hini, hy, hlen, hl, hstt⟩ := cw
  have hK : Back l R p e below s args y 3 8 (PreOf R mc ms Pc) (PostOf Qc mc ms free) := va_backW (hh := hh) (bytes := bytes) (maxL := maxL) (ret := ret) hM hp.1 hrc hrs hfr hlo hws hcw (fun a' U hW => word_at hW (Or.inl (by first | rfl | simp [Cond.onTables, Cond.keeps, Cond.steady])) hini)
  obtain ⟨hx, hb, hml, ho, -⟩ := S
  intro T hT X
  obtain ⟨v, vm₁, ⟨U', l2, c2, s2⟩, hW₁, X', ⟨g', mk, t, L, e1, e2, hq, h1, hL, h2, h3⟩, st⟩ := vx_callSW X hx (hh := hh) (bytes := bytes) (maxL := maxL) (ret := ret) ho hl hstt hini hcode hy hK hg (hsize.trans hml.symm) (argsL := As) (rest := rest) (fun sig h => hn.trans (hlen sig h)) hstack hW (by rw [hb]; exact hdg)
    (fun vm₁ hW₁ => ⟨hf.1, hf.2, hp.2 (T.setVm vm₁) hT hW₁⟩)
  dsimp only [Pt.U, Pt.locs, Pt.cells, Pt.slots] at X' e1 e2 h1 h2 h3 st
  subst h1; subst h2; subst h3
  exact ⟨v, (T.setVm vm₁).calling g' mk As.toArray, t, U', L, hT, X', hL, e1, e2, hq, st⟩
/-- not caught here, past rows that name other classes: it goes on to the caller -/
theorem vx_outP {p : Program} {l : Launch} {e : Env} {R : Room} {s : State} {m : MethodId} {args : Array Value} {below : List Frame} {meth : Method} {c : Code} {H : Heap} {locs : List Loc} {cells slots : Nat} {free : Addr → Prop} {ls : Array Slot} {rest : List Value} {Qc : Array Value → State → Outcome → State → Prop} {XC : String → State → State → Prop}
    {pc : Nat} {own E : String} {ce : Cell} {q : Addr} {mc ms : Nat} (hown : s.vm.findClass own = some m.cls) (hlocks : meth.locks = false)
    (hpass : ∀ z ∈ c.exceptionTable.toList, covers z pc = false ∨ (z.catchType ≠ 0 ∧ ∃ nm : String, (Cond.classLink own z.catchType nm).before args s = true ∧ va_Nc E nm s)) (hcell : H[q]? = some ce) (hv : ce.vm = .none) (hcl : s.vm.findClass E = some ce.cls)
    (hx : ∀ t : State, t.heap = H → s.vm.Alike t.vm → XC E s t) (hf : ∀ z ∈ locs, free z.base) (hc : cells ≤ mc) (hs : slots ≤ ms) :
    vx_W p l e R s m args below meth c H locs cells slots (vx_MQ below Qc XC args s mc ms free) (F0 m pc ls rest) q := by
  intro T hT X
  have hpl : e.platform.magicAccessors = ({} : Platform).magicAccessors := by rw [X.admits.platform]
  obtain ⟨vm', hW', X', st⟩ := X.outThrough hlocks q (g := F0 m pc ls rest) rfl rfl rfl (cell := ce) (by rw [hT]; exact hcell) (by rw [hv]; rfl)
    (by obtain ⟨k9, h9, -⟩ := Vm.findClass_spec hcl; exact ⟨k9, h9⟩) (fun z hz => by
      rcases hpass z hz with h | ⟨hz0, nm, hl1, hn1⟩
      · exact Or.inl h
      · obtain ⟨c6, hc6, hcl6⟩ := Cond.classLink_spec hown hl1 e.platform hpl
        obtain ⟨a8, b8, h1, h2, h3⟩ := hn1
        cases Option.some.inj (h1.symm.trans hcl)
        cases Option.some.inj (h2.symm.trans hc6)
        exact Or.inr ⟨hz0, _, hcl6, h3⟩)
  obtain ⟨g₀, hfr⟩ := X'.frames_eq
  have hcell9 : ((T.setVm vm').setFrames (.throwing q :: below)).heap[q]? = some ce := by
    show T.heap[q]? = some ce
    rw [hT]; exact hcell
  have hend : Ended ((T.setVm vm').setFrames (.throwing q :: below)) below (.threw q) := State.frames_setFrames _ (State.cur_lt_of_frames hfr)
  refine ⟨(T.setVm vm').setFrames (.throwing q :: below), ?_, .threw q, X'.here.running, hend, Or.inr ⟨q, rfl, E, ce, locs, hx _ hT (X'.ends _).1.alike, hcell9, hv, hcl, (X'.ends _).1, (X'.ends _).2.mono hc hs, hf⟩⟩
  rw [X.pushThrowing_eq]
  exact st
/-- a thing of a world lies in the heap -/
theorem vx_lt {D : va_G} {cl : List vw_C} {ws : va_W} {H1 : Heap} (h : va_P D cl ws H1) {k : Nat} {q : Nat × va_E} (hk : ws[k]? = some q) : q.1 < H1.size := (h k q hk).lt
end VXS
/-! ===== END ===== -/
/-! ===== BEGIN methods with a table of their own: called by a name, returning or throwing ===== -/
section VXH
/-! vx_backW, vx_callVX, vx_callSX, vx_callVW, vx_runVW, vx_runVX, vx_runSX, vx_ofWH follow the same proofs as their sisters above (Free/Laws.lean, Shelf42/LK1.lean); vx_outP calls Shelf42/NT130.lean (outThrough). -/
section
variable {l : Launch} {R : Room} {p : Program} {e : Env} {below : List Frame} {s : State} {sargs : Array Value} {y : MethodName} {len W9 : Nat}
theorem vx_backW {ws : List Cond} {rm : Room} {Pc : Array Value → State → Prop} {Qc : Array Value → State → Outcome → State → Prop} {XC : String → State → State → Prop} {mc ms : Nat} {free : Addr → Prop} {bytes : ByteArray} {maxL : Nat} {ret : Option FieldType} {hh : List (Nat × Nat × Nat × Nat)}
    (hM : vx_Met l y ws rm Pc Qc XC mc ms free) (hblind : FrameBlind Pc) (hrc : rm.cells = mc) (hrs : rm.slots = ms)
    (hframes : rm.frames + 1 ≤ R.frames) (hlocals : W9 + (maxL + 11) + rm.locals ≤ R.locals)
    (hws : ∀ w ∈ ws, ∀ a' U, s.WarmedH U.vm → w.before a' U = true) (hcode : Cond.codeWith y bytes maxL ret hh ∈ ws) (hinit : ∀ a' U, s.WarmedH U.vm → (Cond.initialized y.cls).before a' U = true) :
    vx_Back l R p e below s sargs y len W9 (PreOf R mc ms Pc) (PostOf Qc mc ms free) (vx_Post XC mc ms free) := by
  intro m meth c A g ig mk a X hg hsize hdg hW hn hp
  have h1 : (headSpec ws rm).pre.before a A.U = true := atoms_intro fun w hw => hws w hw _ _ X.warmed
  have h2 : (Cond.codeWith y bytes maxL ret hh).before a A.U = true := hws _ hcode _ _ X.warmed
  have h3 : (Cond.initialized y.cls).before a A.U = true := hinit _ _ X.warmed
  have h4 : A.cells + (headSpec ws rm).room.cells ≤ R.cells := by rw [show (headSpec ws rm).room.cells = mc from hrc]; exact hp.1
  have h5 : A.slots + (headSpec ws rm).room.slots ≤ R.slots := by rw [show (headSpec ws rm).room.slots = ms from hrs]; exact hp.2.1
  have hPc : Pc a (A.U.calling g mk a) := hblind _ _ _ _ hp.2.2
  obtain ⟨U, Ls, c0, s0⟩ := A
  dsimp only [Pt.U, Pt.locs, Pt.cells, Pt.slots] at h1 h2 h3 h4 h5 X hn hPc ⊢
  obtain ⟨m9, methY, cY, hn9, hmY, hcY, -, hlY, -⟩ := Cond.codeWith_spec h2
  cases Option.some.inj (hn9.symm.trans hn)
  obtain ⟨kY, hkY, -⟩ := className_of_methodNamed hn
  have hinitY : kY.init = .initialized := Cond.initialized_spec (findClass_of_methodNamed hn) hkY h3
  have h : At U g.method c below := by rw [hg]; exact X.here
  have hlocals9 : W9 + (maxL + 11) + (headSpec ws rm).room.locals ≤ R.locals := hlocals
  have happ : (headSpec ws rm).appliesLoose y e.platform (U.calling g mk a) = true :=
    Spec.appliesLoose_calling (g := g) h hdg hn hkY hinitY
      (X.room_calling (g := g) (R' := (headSpec ws rm).room) hsize hmY hcY hframes (by rw [hlY]; omega) h4 h5) h1
  obtain ⟨mid, hmid⟩ := h.above
  have hfr : (U.setTop g).frames = (.java g :: mid) ++ below := by rw [State.frames_setTop' g h.top, hmid]; rfl
  obtain ⟨o, s₂, hsteps, -, hend, hq⟩ := Steps.callFree hM p X.admits X.cas X.clock (acts := []) hfr happ hPc trivial
  have hq' : vx_Q Qc XC mc ms free a (U.calling g mk a) o s₂ := hq
  rw [State.frames_setTop' g h.top] at hend
  obtain ⟨g₀, hg0⟩ := Option.isSome_iff_exists.mp h.top
  obtain ⟨r, hr⟩ := State.topJava?_eq_some.mp hg0
  have hr' : (({ U with heap := s₂.heap, slotsUsed := s₂.slotsUsed } : State).setVm s₂.vm).frames = .java g₀ :: r := hr
  rcases hq' with ⟨hqc, L, hfe, hL⟩ | ⟨q, rfl, E, ce, L, hx, hce, hcv, hcl, hW₂, hsm, hL⟩
  · obtain ⟨⟨v, rfl⟩, hW₂, e2, q2, q3, q4, q5, q6⟩ := id hfe
    have e3 : s₂ = ({ (U.calling g mk a).setFrames s₂.frames with heap := s₂.heap, slotsUsed := s₂.slotsUsed } : State).setVm s₂.vm := by
      have : s₂ = ({ s₂ with vm := (U.calling g mk a).vm } : State).setVm s₂.vm := rfl
      rw [e2] at this
      exact this
    obtain ⟨c₂, i₂, len₂, hc₂, hd₂, hf₂⟩ := hend
    have hW' : U.WarmedH s₂.vm := hW₂
    have hcc : c₂ = c := by
      have h1 : s₂.code? g.method = U.code? g.method := by
        rw [State.code?_eq, State.code?_eq, hW'.alike.method?]
      exact Option.some.inj (hc₂.symm.trans (h1.trans h.code))
    subst hcc
    have hlen : len₂ = len := by rw [hdg] at hd₂; cases hd₂; rfl
    subst hlen
    have hs₂ : s₂ = (({ U with heap := s₂.heap, slotsUsed := s₂.slotsUsed } : State).setVm s₂.vm).setTop { g with pc := g.pc + len₂, stack := v.toList ++ g.stack } := by
      refine e3.trans ?_
      rw [hf₂, State.calling_eq h.top, State.setFrames_setFrames, State.setTop_of_frames _ hr', hr]
      rfl
    have hsame : U.sameButNew ({ U with heap := s₂.heap, slotsUsed := s₂.slotsUsed } : State) L mc ms := by
      refine ⟨?_, q2, q3, q4, q5, q6⟩
      obtain ⟨t, ht, -⟩ := State.frames_cons hr
      show ({ U with heap := s₂.heap, slotsUsed := s₂.slotsUsed } : State) = { U.setFrames U.frames with heap := s₂.heap, slotsUsed := s₂.slotsUsed }
      rw [State.setFrames_self ht]
    subst hg
    refine Or.inl ⟨v, ⟨(({ U with heap := s₂.heap, slotsUsed := s₂.slotsUsed } : State).setVm s₂.vm), Ls ++ L, c0 + mc, s0 + ms⟩,
      ⟨X.admits, X.cas, X.clock, X.frames, X.room, X.hears, X.method, X.code, (X.here.setHeapUsed s₂.heap s₂.slotsUsed).setVm hW'.alike, X.tail, State.WarmedH.trans X.warmed hW', X.limits, X.bytes, X.same.trans (hsame.setVm s.vm)⟩,
      ⟨g, mk, s₂, L, rfl, rfl, hqc, rfl, hL, rfl, rfl⟩, ?_⟩
    show Steps p.tables e below _ ((({ U with heap := s₂.heap, slotsUsed := s₂.slotsUsed } : State).setVm s₂.vm).setTop { g with pc := g.pc + len₂, stack := v.toList ++ g.stack })
    rw [← hs₂]
    exact hsteps
  · obtain ⟨e2, q2, q3, q4, q5, q6⟩ := id hsm
    have e3 : s₂ = ({ (U.calling g mk a).setFrames s₂.frames with heap := s₂.heap, slotsUsed := s₂.slotsUsed } : State).setVm s₂.vm := by
      have : s₂ = ({ s₂ with vm := (U.calling g mk a).vm } : State).setVm s₂.vm := rfl
      rw [e2] at this
      exact this
    have hf₂ : s₂.frames = .throwing q :: .java g :: U.frames.tail := hend
    have hW' : U.WarmedH s₂.vm := hW₂
    have hs₂ : s₂ = ((({ U with heap := s₂.heap, slotsUsed := s₂.slotsUsed } : State).setVm s₂.vm).setTop g).pushFrame (.throwing q) := by
      refine e3.trans ?_
      rw [hf₂, State.calling_eq h.top, State.setFrames_setFrames, State.pushFrame, State.frames_setTop _ hr', State.setTop_of_frames _ hr', State.setFrames_setFrames, hr]
      rfl
    have hsame : U.sameButNew ({ U with heap := s₂.heap, slotsUsed := s₂.slotsUsed } : State) L mc ms := by
      refine ⟨?_, q2, q3, q4, q5, q6⟩
      obtain ⟨t, ht, -⟩ := State.frames_cons hr
      show ({ U with heap := s₂.heap, slotsUsed := s₂.slotsUsed } : State) = { U.setFrames U.frames with heap := s₂.heap, slotsUsed := s₂.slotsUsed }
      rw [State.setFrames_self ht]
    subst hg
    refine Or.inr ⟨q, ⟨(({ U with heap := s₂.heap, slotsUsed := s₂.slotsUsed } : State).setVm s₂.vm), Ls ++ L, c0 + mc, s0 + ms⟩,
      ⟨X.admits, X.cas, X.clock, X.frames, X.room, X.hears, X.method, X.code, (X.here.setHeapUsed s₂.heap s₂.slotsUsed).setVm hW'.alike, X.tail, State.WarmedH.trans X.warmed hW', X.limits, X.bytes, X.same.trans (hsame.setVm s.vm)⟩,
      ⟨g, mk, s₂, L, E, ce, rfl, rfl, hx, hce, hcv, hcl, rfl, hL, rfl, rfl⟩, ?_⟩
    show Steps p.tables e below _ (((({ U with heap := s₂.heap, slotsUsed := s₂.slotsUsed } : State).setVm s₂.vm).setTop g).pushFrame (.throwing q))
    rw [← hs₂]
    exact hsteps
end
variable {p : Program} {l : Launch} {e : Env} {R : Room} {s : State} {m : MethodId} {args : Array Value} {below : List Frame} {meth : Method} {c : Code} {T : State} {H : Heap} {locs : List Loc} {cells slots : Nat}
theorem vx_callVX (X : Stand p l e R s m args below meth c T locs cells slots) (hexec : p.tables.exec = Jvm.exec) {own C : String} {index : Nat} {y : MethodName} {bytes : ByteArray} {maxL : Nat} {ret : Option FieldType} {hh : List (Nat × Nat × Nat × Nat)}
    (hown : s.vm.findClass own = some m.cls) (hlink : (Cond.methodLink own index y).before args s = true) (hinst : (Cond.instanceMethod y).before args s = true) (hsel : (Cond.selects C y y).before args s = true)
    (hcode : (Cond.codeWith y bytes maxL ret hh).before args s = true) (hy : y.cls ≠ "java/lang/invoke/MethodHandle" ∧ y.cls ≠ "java/lang/invoke/VarHandle")
    {W9 : Nat} {Pre : Pt → Array Value → Prop} {Post : Pt → Array Value → Option Value → Pt → Prop} {PostX : Pt → Array Value → Addr → Pt → Prop} (hK : vx_Back l R p e below s args y 3 W9 Pre Post PostX)
    {b : Addr} {cellB : Cell} (hcell : T.heap[b]? = some cellB) (hobj : cellB.vm.isStatics = false) (hcls : s.vm.findClass C = some cellB.cls)
    {g : JFrame} (hg : g.method = m) (hsize : g.locals.size = c.maxLocals) {argsL rest : List Value} (hlen : ∀ sig, parseMethodDescriptor y.desc = some sig → argsL.length = sig.parameters.length)
    (hstack : g.stack = argsL.reverse ++ .ref b :: rest) (hW : 2 * g.monitorRoom + (rest.map fun v => v.category).sum ≤ W9) (hdg : decode c.code g.pc = .ok (.invokevirtual index, 3))
    (hpre : ∀ vm₁, s.WarmedH vm₁ → Pre ⟨T.setVm vm₁, locs, cells, slots⟩ (Value.ref b :: argsL).toArray) :
    (∃ (v : Option Value) (vm₁ : Vm) (B : Pt), s.WarmedH vm₁ ∧ Stand p l e R s m args below meth c B.U B.locs B.cells B.slots ∧ Post ⟨T.setVm vm₁, locs, cells, slots⟩ (Value.ref b :: argsL).toArray v B ∧
      ∀ target, Steps p.tables e below (B.U.setTop { g with pc := g.pc + 3, stack := v.toList ++ rest }) target → Steps p.tables e below (T.setTop g) target) ∨
    (∃ (q : Addr) (vm₁ : Vm) (B : Pt), s.WarmedH vm₁ ∧ Stand p l e R s m args below meth c B.U B.locs B.cells B.slots ∧ PostX ⟨T.setVm vm₁, locs, cells, slots⟩ (Value.ref b :: argsL).toArray q B ∧
      Steps p.tables e below (T.setTop g) ((B.U.setTop { g with stack := rest }).pushFrame (.throwing q))) := by
  obtain ⟨mk, methM, hnamed, hmethM, hstM, habM⟩ := Cond.instanceMethod_spec hinst
  obtain ⟨m8, methM', cM, hn8, hmethM', -, -, -, -, -, -, hsigM⟩ := Cond.codeWith_spec hcode
  cases Option.some.inj (hn8.symm.trans hnamed)
  cases hmethM.symm.trans hmethM'
  obtain ⟨c2, r2, m2, q1, q2, q3, q4, kP, hkP, hkPi⟩ := Cond.selects_spec hsel
  cases hcls.symm.trans q1
  cases (State.methodFound?_of_named hnamed hy).symm.trans q2
  cases hnamed.symm.trans q3
  have hselP : selectMethod e.platform s.vm cellB.cls mk = .method mk := by rw [Launch.admits_selectMethod X.admits]; exact q4
  obtain ⟨vm₁, X₁, hstep₁⟩ := X.invokevirtual hexec hown hlink hnamed hmethM hstM hkP hkPi hy (a := b) (cell := cellB) hcell
    (fun z h => by rw [h] at hobj; cases hobj) hselP hmethM habM hkP hkPi (g := g) hg (argsL := argsL) (rest := rest) (hlen _ hsigM) hstack hdg
  rcases hK m meth c ⟨T.setVm vm₁, locs, cells, slots⟩ { g with stack := rest } (.invokevirtual index) mk (Value.ref b :: argsL).toArray X₁ hg hsize hdg hW (X₁.named hnamed) (hpre vm₁ X₁.warmed) with ⟨v, B, X', hpost, hsteps⟩ | ⟨q, B, X', hpost, hsteps⟩
  · exact Or.inl ⟨v, vm₁, B, X₁.warmed, X', hpost, fun target h => hstep₁ _ fun acts => by rw [doInvoke_state]; exact hsteps.trans h⟩
  · exact Or.inr ⟨q, vm₁, B, X₁.warmed, X', hpost, hstep₁ _ fun acts => by rw [doInvoke_state]; exact hsteps⟩
theorem vx_callSX (X : Stand p l e R s m args below meth c T locs cells slots) (hexec : p.tables.exec = Jvm.exec) {own : String} {index : Nat} {y : MethodName} {bytes : ByteArray} {maxL : Nat} {ret : Option FieldType} {hh : List (Nat × Nat × Nat × Nat)}
    (hown : s.vm.findClass own = some m.cls) (hlink : (Cond.methodLink own index y).before args s = true) (hstat : (Cond.static y).before args s = true) (hinit : (Cond.initialized y.cls).before args s = true)
    (hcode : (Cond.codeWith y bytes maxL ret hh).before args s = true) (hy : y.cls ≠ "java/lang/invoke/MethodHandle" ∧ y.cls ≠ "java/lang/invoke/VarHandle")
    {W9 : Nat} {Pre : Pt → Array Value → Prop} {Post : Pt → Array Value → Option Value → Pt → Prop} {PostX : Pt → Array Value → Addr → Pt → Prop} (hK : vx_Back l R p e below s args y 3 W9 Pre Post PostX)
    {g : JFrame} (hg : g.method = m) (hsize : g.locals.size = c.maxLocals) {argsL rest : List Value} (hlen : ∀ sig, parseMethodDescriptor y.desc = some sig → argsL.length = sig.parameters.length)
    (hstack : g.stack = argsL.reverse ++ rest) (hW : 2 * g.monitorRoom + (rest.map fun v => v.category).sum ≤ W9) (hdg : decode c.code g.pc = .ok (.invokestatic index, 3))
    (hpre : ∀ vm₁, s.WarmedH vm₁ → Pre ⟨T.setVm vm₁, locs, cells, slots⟩ argsL.toArray) :
    (∃ (v : Option Value) (vm₁ : Vm) (B : Pt), s.WarmedH vm₁ ∧ Stand p l e R s m args below meth c B.U B.locs B.cells B.slots ∧ Post ⟨T.setVm vm₁, locs, cells, slots⟩ argsL.toArray v B ∧
      ∀ target, Steps p.tables e below (B.U.setTop { g with pc := g.pc + 3, stack := v.toList ++ rest }) target → Steps p.tables e below (T.setTop g) target) ∨
    (∃ (q : Addr) (vm₁ : Vm) (B : Pt), s.WarmedH vm₁ ∧ Stand p l e R s m args below meth c B.U B.locs B.cells B.slots ∧ PostX ⟨T.setVm vm₁, locs, cells, slots⟩ argsL.toArray q B ∧
      Steps p.tables e below (T.setTop g) ((B.U.setTop { g with stack := rest }).pushFrame (.throwing q))) := by
  obtain ⟨mk, methM, cM, hnamed, hmethM, -, -, -, -, -, -, hsigM⟩ := Cond.codeWith_spec hcode
  have hstatic : methM.isStatic = true := Cond.static_spec hnamed hmethM hstat
  obtain ⟨kP, hkP, -⟩ := className_of_methodNamed hnamed
  have hinitP : kP.init = .initialized := Cond.initialized_spec (findClass_of_methodNamed hnamed) hkP hinit
  obtain ⟨vm₁, X₁, hstep₁⟩ := X.invokestatic hexec hown hlink hnamed hmethM hstatic hkP hinitP hy (g := g) hg (argsL := argsL) (rest := rest) (hlen _ hsigM) hstack hdg
  rcases hK m meth c ⟨T.setVm vm₁, locs, cells, slots⟩ { g with stack := rest } (.invokestatic index) mk argsL.toArray X₁ hg hsize hdg hW (X₁.named hnamed) (hpre vm₁ X₁.warmed) with ⟨v, B, X', hpost, hsteps⟩ | ⟨q, B, X', hpost, hsteps⟩
  · exact Or.inl ⟨v, vm₁, B, X₁.warmed, X', hpost, fun target h => hstep₁ _ fun acts => by rw [doInvoke_state]; exact hsteps.trans h⟩
  · exact Or.inr ⟨q, vm₁, B, X₁.warmed, X', hpost, hstep₁ _ fun acts => by rw [doInvoke_state]; exact hsteps⟩
theorem vx_callVW (X : Stand p l e R s m args below meth c T locs cells slots) (hexec : p.tables.exec = Jvm.exec) {own C : String} {index : Nat} {y : MethodName} {bytes : ByteArray} {maxL : Nat} {ret : Option FieldType} {hh : List (Nat × Nat × Nat × Nat)}
    (hown : s.vm.findClass own = some m.cls) (hlink : (Cond.methodLink own index y).before args s = true) (hinst : (Cond.instanceMethod y).before args s = true) (hsel : (Cond.selects C y y).before args s = true)
    (hcode : (Cond.codeWith y bytes maxL ret hh).before args s = true) (hy : y.cls ≠ "java/lang/invoke/MethodHandle" ∧ y.cls ≠ "java/lang/invoke/VarHandle")
    {W9 : Nat} {Pre : Pt → Array Value → Prop} {Post : Pt → Array Value → Option Value → Pt → Prop} (hK : Back l R p e below s args y 3 W9 Pre Post)
    {b : Addr} {cellB : Cell} (hcell : T.heap[b]? = some cellB) (hobj : cellB.vm.isStatics = false) (hcls : s.vm.findClass C = some cellB.cls)
    {g : JFrame} (hg : g.method = m) (hsize : g.locals.size = c.maxLocals) {argsL rest : List Value} (hlen : ∀ sig, parseMethodDescriptor y.desc = some sig → argsL.length = sig.parameters.length)
    (hstack : g.stack = argsL.reverse ++ .ref b :: rest) (hW : 2 * g.monitorRoom + (rest.map fun v => v.category).sum ≤ W9) (hdg : decode c.code g.pc = .ok (.invokevirtual index, 3))
    (hpre : ∀ vm₁, s.WarmedH vm₁ → Pre ⟨T.setVm vm₁, locs, cells, slots⟩ (Value.ref b :: argsL).toArray) :
    ∃ (v : Option Value) (vm₁ : Vm) (B : Pt), s.WarmedH vm₁ ∧ Stand p l e R s m args below meth c B.U B.locs B.cells B.slots ∧ Post ⟨T.setVm vm₁, locs, cells, slots⟩ (Value.ref b :: argsL).toArray v B ∧
      ∀ target, Steps p.tables e below (B.U.setTop { g with pc := g.pc + 3, stack := v.toList ++ rest }) target → Steps p.tables e below (T.setTop g) target := by
  obtain ⟨mk, methM, hnamed, hmethM, hstM, habM⟩ := Cond.instanceMethod_spec hinst
  obtain ⟨m8, methM', cM, hn8, hmethM', -, -, -, -, -, -, hsigM⟩ := Cond.codeWith_spec hcode
  cases Option.some.inj (hn8.symm.trans hnamed)
  cases hmethM.symm.trans hmethM'
  obtain ⟨c2, r2, m2, q1, q2, q3, q4, kP, hkP, hkPi⟩ := Cond.selects_spec hsel
  cases hcls.symm.trans q1
  cases (State.methodFound?_of_named hnamed hy).symm.trans q2
  cases hnamed.symm.trans q3
  have hselP : selectMethod e.platform s.vm cellB.cls mk = .method mk := by rw [Launch.admits_selectMethod X.admits]; exact q4
  obtain ⟨vm₁, X₁, hstep₁⟩ := X.invokevirtual hexec hown hlink hnamed hmethM hstM hkP hkPi hy (a := b) (cell := cellB) hcell
    (fun z h => by rw [h] at hobj; cases hobj) hselP hmethM habM hkP hkPi (g := g) hg (argsL := argsL) (rest := rest) (hlen _ hsigM) hstack hdg
  obtain ⟨v, B, X', hpost, hsteps⟩ := hK m meth c ⟨T.setVm vm₁, locs, cells, slots⟩ { g with stack := rest } (.invokevirtual index) mk (Value.ref b :: argsL).toArray X₁ hg hsize hdg hW (X₁.named hnamed) (hpre vm₁ X₁.warmed)
  exact ⟨v, vm₁, B, X₁.warmed, X', hpost, fun target h => hstep₁ _ fun acts => by rw [doInvoke_state]; exact hsteps.trans h⟩
abbrev vx_CVW (R : Room) (s : State) (args : Array Value) (own C : String) (index : Nat) (y : MethodName) (bytes : ByteArray) (maxL : Nat) (ret : Option FieldType) (hh : List (Nat × Nat × Nat × Nat)) (ws : List Cond) (rm : Room) (mc ms n : Nat) : Prop :=
  (rm.cells = mc ∧ rm.slots = ms ∧ rm.frames + 1 ≤ R.frames ∧ 8 + (maxL + 11) + rm.locals ≤ R.locals ∧ (∀ w ∈ ws, ∀ (a' : Array Value) (U : State), s.WarmedH U.vm → w.before a' U = true) ∧ Cond.codeWith y bytes maxL ret hh ∈ ws) ∧
  (Cond.codeWith y bytes maxL ret hh).before args s = true ∧ (Cond.initialized y.cls).before args s = true ∧ (y.cls ≠ "java/lang/invoke/MethodHandle" ∧ y.cls ≠ "java/lang/invoke/VarHandle") ∧
  (∀ sig, parseMethodDescriptor y.desc = some sig → n = sig.parameters.length) ∧ (Cond.methodLink own index y).before args s = true ∧ (Cond.instanceMethod y).before args s = true ∧ (Cond.selects C y y).before args s = true
theorem vx_cwVW {own C : String} {index maxL mc ms : Nat} {y : MethodName} {bytes : ByteArray} {ret : Option FieldType} {hh : List (Nat × Nat × Nat × Nat)} {Ts ws ws' : List Cond} {rm : Room} (n : Nat) (ht : ∀ w ∈ Ts, w.before args s = true) (hT : GoodIn Ts (wsV own index C y ws)) (hw : ws = Cond.codeWith y bytes maxL ret hh :: ws') (hrc : rm.cells = mc) (hrs : rm.slots = ms)
    (hd : y.cls = C ∧ y.cls ≠ "java/lang/invoke/MethodHandle" ∧ y.cls ≠ "java/lang/invoke/VarHandle" ∧ (parseMethodDescriptor y.desc).map (fun d => d.parameters.length) = some n) (hR : rm.frames + 1 ≤ R.frames ∧ 8 + (maxL + 11) + rm.locals ≤ R.locals) :
    vx_CVW R s args own C index y bytes maxL ret hh ws rm mc ms n := by
  obtain ⟨hC, hd⟩ := hd
  subst hC
  have ok : ∀ w ∈ wsV own index y.cls y ws, w.before args s = true := fun w h => ht w (hT w h).1
  have hG : GoodIn Ts ws := fun w h => hT w (by unfold wsV; exact List.mem_append_right _ h)
  have hc : Cond.codeWith y bytes maxL ret hh ∈ ws := by rw [hw]; exact List.mem_cons_self
  refine ⟨⟨hrc, hrs, hR.1, hR.2, pay_in ht hG, hc⟩, ht _ (hG _ hc).1, ok _ (by simp [wsV]), ⟨hd.1, hd.2.1⟩, fun sig h => ?_, ok _ (by simp [wsV]), ok _ (by simp [wsV]), ok _ (by simp [wsV])⟩
  have h2 := hd.2.2
  rw [h] at h2
  exact (Option.some.inj h2).symm
theorem vx_runVW {y : MethodName} {bytes cc : ByteArray} {maxL nL mc ms n index : Nat} {ret : Option FieldType} {hh : List (Nat × Nat × Nat × Nat)} {ws : List Cond} {rm : Room} {Pc : Array Value → State → Prop} {Qc : Array Value → State → Outcome → State → Prop} {free : Addr → Prop} {Ts : List Cond} {own C : String} {b : Addr} {As rest : List Value} {g : JFrame}
    (S : CallFix p m c cc nL s args Ts own) (hM : Met l y ws rm Pc Qc mc ms free) (cw : vx_CVW R s args own C index y bytes maxL ret hh ws rm mc ms n) (hp : PreV s H C b Pc As)
    (hg : g.method = m) (hn : As.length = n) (hsize : g.locals.size = nL) (hstack : g.stack = As.reverse ++ .ref b :: rest) (hW : 2 * g.monitorRoom + (rest.map fun v => v.category).sum ≤ 8) (hdg : decode cc g.pc = .ok (.invokevirtual index, 3)) (hf : cells + mc ≤ R.cells ∧ slots + ms ≤ R.slots) :
    va_Run p l e R s m args below meth c H locs cells slots mc ms g rest (Qc (Value.ref b :: As).toArray) free := by
  obtain ⟨⟨hrc, hrs, hfr, hlo, hws, hcw⟩, hcode, hini, hy, hlen, hl, hin, hse⟩ := cw
  have hK : Back l R p e below s args y 3 8 (PreOf R mc ms Pc) (PostOf Qc mc ms free) := va_backW (hh := hh) (bytes := bytes) (maxL := maxL) (ret := ret) hM hp.1 hrc hrs hfr hlo hws hcw (fun a' U hW => word_at hW (Or.inl (by first | rfl | simp [Cond.onTables, Cond.keeps, Cond.steady])) hini)
  obtain ⟨hx, hb, hml, ho, -⟩ := S
  obtain ⟨-, ⟨cellB, hcB, hoB, hclB⟩, hPc⟩ := hp
  intro T hT X
  obtain ⟨v, vm₁, ⟨U', l2, c2, s2⟩, hW₁, X', ⟨g', mk, t, L, e1, e2, hq, h1, hL, h2, h3⟩, st⟩ := vx_callVW X hx (C := C) (hh := hh) (bytes := bytes) (maxL := maxL) (ret := ret) ho hl hin hse hcode hy hK (by rw [hT]; exact hcB) hoB hclB hg (hsize.trans hml.symm) (argsL := As) (rest := rest) (fun sig h => hn.trans (hlen sig h)) hstack hW (by rw [hb]; exact hdg)
    (fun vm₁ hW₁ => ⟨hf.1, hf.2, hPc (T.setVm vm₁) hT hW₁⟩)
  dsimp only [Pt.U, Pt.locs, Pt.cells, Pt.slots] at X' e1 e2 h1 h2 h3 st
  subst h1; subst h2; subst h3
  exact ⟨v, (T.setVm vm₁).calling g' mk (Value.ref b :: As).toArray, t, U', L, hT, X', hL, e1, e2, hq, st⟩
section
variable {y : MethodName} {bytes cc : ByteArray} {maxL nL mc ms n index : Nat} {ret : Option FieldType} {ws : List Cond} {rm : Room} {Pc : Array Value → State → Prop} {Qc : Array Value → State → Outcome → State → Prop} {XC : String → State → State → Prop} {free : Addr → Prop} {Ts : List Cond} {own C : String} {b : Addr} {As rest : List Value} {g : JFrame}
theorem vx_runVX {hh : List (Nat × Nat × Nat × Nat)} (S : CallFix p m c cc nL s args Ts own) (hM : vx_Met l y ws rm Pc Qc XC mc ms free) (cw : vx_CVW R s args own C index y bytes maxL ret hh ws rm mc ms n) (hp : PreV s H C b Pc As)
    (hg : g.method = m) (hn : As.length = n) (hsize : g.locals.size = nL) (hstack : g.stack = As.reverse ++ .ref b :: rest) (hW : 2 * g.monitorRoom + (rest.map fun v => v.category).sum ≤ 8) (hdg : decode cc g.pc = .ok (.invokevirtual index, 3)) (hf : cells + mc ≤ R.cells ∧ slots + ms ≤ R.slots) :
    vx_Run p l e R s m args below meth c H locs cells slots mc ms g rest (Qc (Value.ref b :: As).toArray) XC free := by
  obtain ⟨⟨hrc, hrs, hfr, hlo, hws, hcw⟩, hcode, hini, hy, hlen, hl, hin, hse⟩ := cw
  have hK : vx_Back l R p e below s args y 3 8 (PreOf R mc ms Pc) (PostOf Qc mc ms free) (vx_Post XC mc ms free) := vx_backW (hh := hh) (bytes := bytes) (maxL := maxL) (ret := ret) hM hp.1 hrc hrs hfr hlo hws hcw (fun a' U hW => word_at hW (Or.inl (by first | rfl | simp [Cond.onTables, Cond.keeps, Cond.steady])) hini)
  obtain ⟨hx, hb, hml, ho, -⟩ := S
  obtain ⟨-, ⟨cellB, hcB, hoB, hclB⟩, hPc⟩ := hp
  intro T hT X
  rcases vx_callVX X hx (C := C) (hh := hh) (bytes := bytes) (maxL := maxL) (ret := ret) ho hl hin hse hcode hy hK (by rw [hT]; exact hcB) hoB hclB hg (hsize.trans hml.symm) (argsL := As) (rest := rest) (fun sig h => hn.trans (hlen sig h)) hstack hW (by rw [hb]; exact hdg)
    (fun vm₁ hW₁ => ⟨hf.1, hf.2, hPc (T.setVm vm₁) hT hW₁⟩) with ⟨v, vm₁, ⟨U', l2, c2, s2⟩, hW₁, X', ⟨g', mk, t, L, e1, e2, hq, h1, hL, h2, h3⟩, st⟩ | ⟨q, vm₁, ⟨U', l2, c2, s2⟩, hW₁, X', ⟨g', mk, t, L, E, ce, e1, e2, hq, hce, hcv, hcl, h1, hL, h2, h3⟩, st⟩
  · dsimp only [Pt.U, Pt.locs, Pt.cells, Pt.slots] at X' e1 e2 h1 h2 h3 st
    subst h1; subst h2; subst h3
    exact Or.inl ⟨v, (T.setVm vm₁).calling g' mk (Value.ref b :: As).toArray, t, U', L, hT, X', hL, e1, e2, hq, st⟩
  · dsimp only [Pt.U, Pt.locs, Pt.cells, Pt.slots] at X' e1 e2 h1 h2 h3 st hcl
    subst h1; subst h2; subst h3
    exact Or.inr ⟨q, (T.setVm vm₁).calling g' mk (Value.ref b :: As).toArray, t, U', L, E, ce, hT, X', hL, e1, e2, hq, hce, hcv, vx_cls hW₁ hcl, st⟩
theorem vx_runSX {hh : List (Nat × Nat × Nat × Nat)} (S : CallFix p m c cc nL s args Ts own) (hM : vx_Met l y ws rm Pc Qc XC mc ms free) (cw : vx_CSW R s args own index y bytes maxL ret hh ws rm mc ms n) (hp : PreS s H Pc As)
    (hg : g.method = m) (hn : As.length = n) (hsize : g.locals.size = nL) (hstack : g.stack = As.reverse ++ rest) (hW : 2 * g.monitorRoom + (rest.map fun v => v.category).sum ≤ 8) (hdg : decode cc g.pc = .ok (.invokestatic index, 3)) (hf : cells + mc ≤ R.cells ∧ slots + ms ≤ R.slots) :
    vx_Run p l e R s m args below meth c H locs cells slots mc ms g rest (Qc As.toArray) XC free := by
  obtain ⟨⟨hrc, hrs, hfr, hlo, hws, hcw⟩, hcode, hini, hy, hlen, hl, hstt⟩ := cw
  have hK : vx_Back l R p e below s args y 3 8 (PreOf R mc ms Pc) (PostOf Qc mc ms free) (vx_Post XC mc ms free) := vx_backW (hh := hh) (bytes := bytes) (maxL := maxL) (ret := ret) hM hp.1 hrc hrs hfr hlo hws hcw (fun a' U hW => word_at hW (Or.inl (by first | rfl | simp [Cond.onTables, Cond.keeps, Cond.steady])) hini)
  obtain ⟨hx, hb, hml, ho, -⟩ := S
  intro T hT X
  rcases vx_callSX X hx (hh := hh) (bytes := bytes) (maxL := maxL) (ret := ret) ho hl hstt hini hcode hy hK hg (hsize.trans hml.symm) (argsL := As) (rest := rest) (fun sig h => hn.trans (hlen sig h)) hstack hW (by rw [hb]; exact hdg)
    (fun vm₁ hW₁ => ⟨hf.1, hf.2, hp.2 (T.setVm vm₁) hT hW₁⟩) with ⟨v, vm₁, ⟨U', l2, c2, s2⟩, hW₁, X', ⟨g', mk, t, L, e1, e2, hq, h1, hL, h2, h3⟩, st⟩ | ⟨q, vm₁, ⟨U', l2, c2, s2⟩, hW₁, X', ⟨g', mk, t, L, E, ce, e1, e2, hq, hce, hcv, hcl, h1, hL, h2, h3⟩, st⟩
  · dsimp only [Pt.U, Pt.locs, Pt.cells, Pt.slots] at X' e1 e2 h1 h2 h3 st
    subst h1; subst h2; subst h3
    exact Or.inl ⟨v, (T.setVm vm₁).calling g' mk As.toArray, t, U', L, hT, X', hL, e1, e2, hq, st⟩
  · dsimp only [Pt.U, Pt.locs, Pt.cells, Pt.slots] at X' e1 e2 h1 h2 h3 st hcl
    subst h1; subst h2; subst h3
    exact Or.inr ⟨q, (T.setVm vm₁).calling g' mk As.toArray, t, U', L, E, ce, hT, X', hL, e1, e2, hq, hce, hcv, vx_cls hW₁ hcl, st⟩
end
end VXH
theorem vx_ofWH {l : Launch} {y : MethodName} {ws ws' : List Cond} {rm : Room} {Pc : Array Value → State → Prop} {Qc : Array Value → State → Outcome → State → Prop} {XC : String → State → State → Prop} {mc ms : Nat} {free : Addr → Prop} {cc : ByteArray} {maxL : Nat} {ret : Option FieldType} {hh : List (Nat × Nat × Nat × Nat)}
    (hy : plainName y.cls = true) (hw : ws = Cond.codeWith y cc maxL ret hh :: ws')
    (body : ∀ p e s m args below meth c s₁, BodyLoose p l y (headSpec ws rm) cc maxL ret e s m args below meth c s₁ → c.maxLocals = maxL → Pc args s →
      W p l e (headSpec ws rm).room s m args below meth c s.heap [] 0 0 (vx_MQ below Qc XC args s mc ms free) (entryFrame m args maxL)) : vx_Met l y ws rm Pc Qc XC mc ms free := by
  refine MetFree.of_bodyS (code := cc) (maxLocals := maxL) (ret := ret) hy ?_ ?_
  · intro args s m h hn
    obtain ⟨m9, meth, c, hn9, h1, h2, h3, h4, -, h5, h6, -⟩ := Cond.codeWith_spec (atoms_spec (ws := ws) h _ (by rw [hw]; exact List.mem_cons_self))
    cases hn.symm.trans hn9
    exact ⟨meth, c, h1, h2, h3, h4, h5, h6⟩
  · intro p e s m args below meth c s₁ B hml hP _
    have hh0 : s₁.heap = s.heap := by rw [B.state]; rfl
    obtain ⟨t, a1, o, b1, b2, b3⟩ := body p e s m args below meth c s₁ B hml hP s₁ hh0 (Stand.of_body B)
    exact ⟨t, o, a1, b1, b2, b3⟩
/-! ===== END ===== -/

/-! ===== BEGIN printed: names, fields, word lists, decode rows ===== -/
def RX0 : String := "PegBox$ClaimBook"
def TX0 : u_T := fun k => match k with
  | 0 => ("PegBox$ClaimBook", "kinds", "[I", true)
  | 1 => ("PegBox$ClaimBook", "amounts", "[I", true)
  | 2 => ("PegBox$ClaimBook", "offers", "[I", true)
  | 3 => ("PegBox$ClaimBook", "settled", "[I", true)
  | _ => ("PegBox$ClaimBook", "count", "I", false)
def tyX0 : Nat → FieldType := fun k => match k with
  | 0 => .array .int
  | 1 => .array .int
  | 2 => .array .int
  | 3 => .array .int
  | _ => .int
abbrev wsX00 : List Cond := u_ws RX0 TX0 5
theorem nmX0 : ∀ a, a < 5 → ∀ b, b < 5 → a ≠ b → (TX0 a).2.1 ≠ (TX0 b).2.1 := by decide +kernel
theorem tyX0_ok : ∀ k, k < 5 → parseFieldDescriptor (TX0 k).2.2.1 = some (tyX0 k) := by decide +kernel
abbrev cX0_init : ByteArray := prog_2_method_1_code
def yX0_init : MethodName := ⟨RX0, "<init>", "()V"⟩
abbrev cX0_settledSum : ByteArray := prog_2_method_2_code
def yX0_settledSum : MethodName := ⟨RX0, "settledSum", "(II)I"⟩
abbrev cX0_openSum : ByteArray := prog_2_method_3_code
def yX0_openSum : MethodName := ⟨RX0, "openSum", "()I"⟩
def RX1 : String := "PegBox$EarnOut"
def TX1 : u_T := fun k => match k with
  | 0 => ("PegBox$EarnOut", "targets", "[I", true)
  | 1 => ("PegBox$EarnOut", "amounts", "[I", true)
  | 2 => ("PegBox$EarnOut", "met", "[Z", true)
  | 3 => ("PegBox$EarnOut", "isCarried", "Z", false)
  | 4 => ("PegBox$EarnOut", "isSpedUp", "Z", false)
  | 5 => ("PegBox$EarnOut", "told", "I", false)
  | 6 => ("PegBox$EarnOut", "resultSum", "I", false)
  | _ => ("PegBox$EarnOut", "targetSum", "I", false)
def tyX1 : Nat → FieldType := fun k => match k with
  | 0 => .array .int
  | 1 => .array .int
  | 2 => .array .boolean
  | 3 => .boolean
  | 4 => .boolean
  | 5 => .int
  | 6 => .int
  | _ => .int
abbrev wsX10 : List Cond := u_ws RX1 TX1 8
theorem nmX1 : ∀ a, a < 8 → ∀ b, b < 8 → a ≠ b → (TX1 a).2.1 ≠ (TX1 b).2.1 := by decide +kernel
theorem tyX1_ok : ∀ k, k < 8 → parseFieldDescriptor (TX1 k).2.2.1 = some (tyX1 k) := by decide +kernel
abbrev cX1_init : ByteArray := prog_3_method_1_code
def yX1_init : MethodName := ⟨RX1, "<init>", "()V"⟩
abbrev cX1_tell : ByteArray := prog_3_method_2_code
def yX1_tell : MethodName := ⟨RX1, "tell", "(I)I"⟩
abbrev cX1_hasten : ByteArray := prog_3_method_3_code
def yX1_hasten : MethodName := ⟨RX1, "hasten", "()I"⟩
abbrev cX1_meet : ByteArray := prog_3_method_4_code
def yX1_meet : MethodName := ⟨RX1, "meet", "(II)I"⟩
def RX2 : String := "PegBox$Escrow"
def TX2 : u_T := fun k => match k with
  | 0 => ("PegBox$Escrow", "amounts", "[I", true)
  | _ => ("PegBox$Escrow", "days", "[I", true)
def tyX2 : Nat → FieldType := fun k => match k with
  | 0 => .array .int
  | _ => .array .int
abbrev wsX20 : List Cond := u_ws RX2 TX2 2
theorem nmX2 : ∀ a, a < 2 → ∀ b, b < 2 → a ≠ b → (TX2 a).2.1 ≠ (TX2 b).2.1 := by decide +kernel
theorem tyX2_ok : ∀ k, k < 2 → parseFieldDescriptor (TX2 k).2.2.1 = some (tyX2 k) := by decide +kernel
abbrev cX2_init : ByteArray := prog_4_method_1_code
def yX2_init : MethodName := ⟨RX2, "<init>", "()V"⟩
abbrev cX2_total : ByteArray := prog_4_method_2_code
def yX2_total : MethodName := ⟨RX2, "total", "()I"⟩
abbrev cX2_totalAfter : ByteArray := prog_4_method_3_code
def yX2_totalAfter : MethodName := ⟨RX2, "totalAfter", "(I)I"⟩
def RX3 : String := "PegBox$Kinds"
def TX3 : u_T := fun k => match k with
  | 0 => ("PegBox$Kinds", "leasts", "[I", true)
  | 1 => ("PegBox$Kinds", "baskets", "[I", true)
  | 2 => ("PegBox$Kinds", "wholes", "[Z", true)
  | 3 => ("PegBox$Kinds", "caps", "[I", true)
  | _ => ("PegBox$Kinds", "lastDays", "[I", true)
def tyX3 : Nat → FieldType := fun k => match k with
  | 0 => .array .int
  | 1 => .array .int
  | 2 => .array .boolean
  | 3 => .array .int
  | _ => .array .int
abbrev wsX30 : List Cond := u_ws RX3 TX3 5
theorem nmX3 : ∀ a, a < 5 → ∀ b, b < 5 → a ≠ b → (TX3 a).2.1 ≠ (TX3 b).2.1 := by decide +kernel
theorem tyX3_ok : ∀ k, k < 5 → parseFieldDescriptor (TX3 k).2.2.1 = some (tyX3 k) := by decide +kernel
abbrev cX3_init : ByteArray := prog_5_method_1_code
def yX3_init : MethodName := ⟨RX3, "<init>", "()V"⟩
abbrev cX3_limit : ByteArray := prog_5_method_2_code
def yX3_limit : MethodName := ⟨RX3, "limit", "(II)I"⟩
abbrev cX3_pastBasket : ByteArray := prog_5_method_3_code
def yX3_pastBasket : MethodName := ⟨RX3, "pastBasket", "(II)I"⟩
def RX4 : String := "PegBox"
def TX4 : u_T := fun k => match k with
  | 0 => ("PegBox", "escrow", "LPegBox$Escrow;", true)
  | 1 => ("PegBox", "kinds", "LPegBox$Kinds;", true)
  | 2 => ("PegBox", "book", "LPegBox$ClaimBook;", true)
  | 3 => ("PegBox", "earnOut", "LPegBox$EarnOut;", true)
  | 4 => ("PegBox", "price", "I", false)
  | 5 => ("PegBox", "peg", "I", false)
  | 6 => ("PegBox", "collar", "I", false)
  | 7 => ("PegBox", "day", "I", false)
  | 8 => ("PegBox", "finalPrice", "I", false)
  | 9 => ("PegBox", "held", "I", false)
  | 10 => ("PegBox", "paid", "I", false)
  | 11 => ("PegBox", "returned", "I", false)
  | 12 => ("PegBox", "setOff", "I", false)
  | _ => ("PegBox", "owed", "I", false)
def tyX4 : Nat → FieldType := fun k => match k with
  | 0 => .object "PegBox$Escrow"
  | 1 => .object "PegBox$Kinds"
  | 2 => .object "PegBox$ClaimBook"
  | 3 => .object "PegBox$EarnOut"
  | 4 => .int
  | 5 => .int
  | 6 => .int
  | 7 => .int
  | 8 => .int
  | 9 => .int
  | 10 => .int
  | 11 => .int
  | 12 => .int
  | _ => .int
abbrev wsX40 : List Cond := u_ws RX4 TX4 14
theorem nmX4 : ∀ a, a < 14 → ∀ b, b < 14 → a ≠ b → (TX4 a).2.1 ≠ (TX4 b).2.1 := by decide +kernel
theorem tyX4_ok : ∀ k, k < 14 → parseFieldDescriptor (TX4 k).2.2.1 = some (tyX4 k) := by decide +kernel
abbrev cX4_init : ByteArray := prog_1_method_1_code
def yX4_init : MethodName := ⟨RX4, "<init>", "()V"⟩
abbrev cX4_setPrice : ByteArray := prog_1_method_2_code
def yX4_setPrice : MethodName := ⟨RX4, "setPrice", "(III)V"⟩
abbrev cX4_setPart : ByteArray := prog_1_method_3_code
def yX4_setPart : MethodName := ⟨RX4, "setPart", "(III)V"⟩
abbrev cX4_setKind : ByteArray := prog_1_method_4_code
def yX4_setKind : MethodName := ⟨RX4, "setKind", "(IIIZII)V"⟩
abbrev cX4_setYear : ByteArray := prog_1_method_5_code
def yX4_setYear : MethodName := ⟨RX4, "setYear", "(III)V"⟩
abbrev cX4_setCarry : ByteArray := prog_1_method_6_code
def yX4_setCarry : MethodName := ⟨RX4, "setCarry", "(Z)V"⟩
abbrev cX4_close : ByteArray := prog_1_method_7_code
def yX4_close : MethodName := ⟨RX4, "close", "(III)I"⟩
abbrev cX4_advance : ByteArray := prog_1_method_8_code
def yX4_advance : MethodName := ⟨RX4, "advance", "(I)I"⟩
abbrev cX4_claim : ByteArray := prog_1_method_9_code
def yX4_claim : MethodName := ⟨RX4, "claim", "(II)I"⟩
abbrev cX4_offer : ByteArray := prog_1_method_10_code
def yX4_offer : MethodName := ⟨RX4, "offer", "(II)I"⟩
abbrev cX4_decide : ByteArray := prog_1_method_12_code
def yX4_decide : MethodName := ⟨RX4, "decide", "(II)I"⟩
abbrev cX4_report : ByteArray := prog_1_method_13_code
def yX4_report : MethodName := ⟨RX4, "report", "(I)I"⟩
abbrev cX4_speedUp : ByteArray := prog_1_method_14_code
def yX4_speedUp : MethodName := ⟨RX4, "speedUp", "()I"⟩
abbrev cX4_day : ByteArray := prog_1_method_15_code
def yX4_day : MethodName := ⟨RX4, "day", "()I"⟩
abbrev cX4_finalPrice : ByteArray := prog_1_method_16_code
def yX4_finalPrice : MethodName := ⟨RX4, "finalPrice", "()I"⟩
abbrev cX4_held : ByteArray := prog_1_method_17_code
def yX4_held : MethodName := ⟨RX4, "held", "()I"⟩
abbrev cX4_paid : ByteArray := prog_1_method_18_code
def yX4_paid : MethodName := ⟨RX4, "paid", "()I"⟩
abbrev cX4_returned : ByteArray := prog_1_method_19_code
def yX4_returned : MethodName := ⟨RX4, "returned", "()I"⟩
abbrev cX4_setOff : ByteArray := prog_1_method_20_code
def yX4_setOff : MethodName := ⟨RX4, "setOff", "()I"⟩
abbrev cX4_owed : ByteArray := prog_1_method_21_code
def yX4_owed : MethodName := ⟨RX4, "owed", "()I"⟩
abbrev cX4_due : ByteArray := prog_1_method_22_code
def yX4_due : MethodName := ⟨RX4, "due", "()I"⟩
abbrev cX4_outstanding : ByteArray := prog_1_method_23_code
def yX4_outstanding : MethodName := ⟨RX4, "outstanding", "()I"⟩
abbrev cX4_dueOf : ByteArray := prog_1_method_24_code
def yX4_dueOf : MethodName := ⟨RX4, "dueOf", "(I)I"⟩
abbrev cX4_claims : ByteArray := prog_1_method_25_code
def yX4_claims : MethodName := ⟨RX4, "claims", "()I"⟩
abbrev cX4_settledAt : ByteArray := prog_1_method_26_code
def yX4_settledAt : MethodName := ⟨RX4, "settledAt", "(I)I"⟩
abbrev cX4_isMet : ByteArray := prog_1_method_27_code
def yX4_isMet : MethodName := ⟨RX4, "isMet", "(I)Z"⟩
abbrev cX4_checkNumber : ByteArray := prog_1_method_28_code
def yX4_checkNumber : MethodName := ⟨RX4, "checkNumber", "(II)V"⟩
abbrev cX4_checkRange : ByteArray := prog_1_method_29_code
def yX4_checkRange : MethodName := ⟨RX4, "checkRange", "(III)V"⟩
abbrev cX4_checkOpen : ByteArray := prog_1_method_30_code
def yX4_checkOpen : MethodName := ⟨RX4, "checkOpen", "(I)V"⟩
abbrev cX4_checkNotClosed : ByteArray := prog_1_method_31_code
def yX4_checkNotClosed : MethodName := ⟨RX4, "checkNotClosed", "()V"⟩
abbrev cX4_checkClosed : ByteArray := prog_1_method_32_code
def yX4_checkClosed : MethodName := ⟨RX4, "checkClosed", "()V"⟩
abbrev cX4_beyondCollar : ByteArray := prog_1_method_33_code
def yX4_beyondCollar : MethodName := ⟨RX4, "beyondCollar", "(I)I"⟩
abbrev cX4_dueOfKind : ByteArray := prog_1_method_34_code
def yX4_dueOfKind : MethodName := ⟨RX4, "dueOfKind", "(I)I"⟩
abbrev cX4_dueInAll : ByteArray := prog_1_method_35_code
def yX4_dueInAll : MethodName := ⟨RX4, "dueInAll", "()I"⟩
abbrev cX4_leftOutstanding : ByteArray := prog_1_method_36_code
def yX4_leftOutstanding : MethodName := ⟨RX4, "leftOutstanding", "()I"⟩
abbrev cX4_payOut : ByteArray := prog_1_method_37_code
def yX4_payOut : MethodName := ⟨RX4, "payOut", "()I"⟩
abbrev cX4_free : ByteArray := prog_1_method_38_code
def yX4_free : MethodName := ⟨RX4, "free", "()V"⟩
abbrev cX4_owe : ByteArray := prog_1_method_39_code
def yX4_owe : MethodName := ⟨RX4, "owe", "(I)I"⟩
def RX5 : String := "PegBoxModel"
def TX5 : u_T := fun k => match k with
  | _ => ("", "", "", false)
def tyX5 : Nat → FieldType := fun k => match k with
  | _ => .int
abbrev wsX50 : List Cond := u_ws RX5 TX5 0
theorem nmX5 : ∀ a, a < 0 → ∀ b, b < 0 → a ≠ b → (TX5 a).2.1 ≠ (TX5 b).2.1 := by decide +kernel
theorem tyX5_ok : ∀ k, k < 0 → parseFieldDescriptor (TX5 k).2.2.1 = some (tyX5 k) := by decide +kernel
def RJ9 : String := "java/lang/Math"
def TJ9 : u_T := fun k => match k with
  | _ => ("", "", "", false)
def tyJ9 : Nat → FieldType := fun k => match k with
  | _ => .int
abbrev wsJ90 : List Cond := u_ws RJ9 TJ9 0
theorem nmJ9 : ∀ a, a < 0 → ∀ b, b < 0 → a ≠ b → (TJ9 a).2.1 ≠ (TJ9 b).2.1 := by decide +kernel
theorem tyJ9_ok : ∀ k, k < 0 → parseFieldDescriptor (TJ9 k).2.2.1 = some (tyJ9 k) := by decide +kernel
abbrev cJ9_max_7cf53 : ByteArray := prog_12_method_65_code
def yJ9_max_7cf53 : MethodName := ⟨RJ9, "max", "(II)I"⟩
abbrev cJ9_min_7cf53 : ByteArray := prog_12_method_69_code
def yJ9_min_7cf53 : MethodName := ⟨RJ9, "min", "(II)I"⟩
def RJ0 : String := "java/lang/String"
def TJ0 : u_T := fun k => match k with
  | _ => ("", "", "", false)
def tyJ0 : Nat → FieldType := fun k => match k with
  | _ => .int
abbrev wsJ00 : List Cond := u_ws RJ0 TJ0 0
theorem nmJ0 : ∀ a, a < 0 → ∀ b, b < 0 → a ≠ b → (TJ0 a).2.1 ≠ (TJ0 b).2.1 := by decide +kernel
theorem tyJ0_ok : ∀ k, k < 0 → parseFieldDescriptor (TJ0 k).2.2.1 = some (tyJ0 k) := by decide +kernel
def RL : String := "PegBoxLaw"
abbrev cL_told : ByteArray := method_2_code
def yL_told : MethodName := ⟨RL, "told", "([II)I"⟩
abbrev cL_terms : ByteArray := method_3_code
def yL_terms : MethodName := ⟨RL, "terms", "(LPegBox;[I)V"⟩
abbrev cL_does : ByteArray := method_4_code
def yL_does : MethodName := ⟨RL, "does", "(LPegBox;III)Z"⟩
abbrev cL_isWhole : ByteArray := method_5_code
def yL_isWhole : MethodName := ⟨RL, "isWhole", "(LPegBox;)Z"⟩
abbrev cL_law : ByteArray := code
def yL_law : MethodName := ⟨RL, "law", "([I)Z"⟩
def wsX0_init : List Cond := .code yX0_init cX0_init 1 none :: ([.methodLink RX0 3 objectInit, .instanceMethod objectInit, .code objectInit ⟨#[0xb1]⟩ 1 none, .arrayClass .int, .fieldLink RX0 9 "PegBox$ClaimBook" "kinds" "[I", .fieldLink RX0 15 "PegBox$ClaimBook" "amounts" "[I", .fieldLink RX0 18 "PegBox$ClaimBook" "offers" "[I", .fieldLink RX0 21 "PegBox$ClaimBook" "settled" "[I"] ++ wsX00)
def wsX0_settledSum : List Cond := .code yX0_settledSum cX0_settledSum 5 (some .int) :: ([.fieldLink RX0 24 "PegBox$ClaimBook" "count" "I", .fieldLink RX0 9 "PegBox$ClaimBook" "kinds" "[I", .fieldLink RX0 21 "PegBox$ClaimBook" "settled" "[I"] ++ wsX00)
def wsX0_openSum : List Cond := .code yX0_openSum cX0_openSum 3 (some .int) :: ([.fieldLink RX0 24 "PegBox$ClaimBook" "count" "I", .fieldLink RX0 21 "PegBox$ClaimBook" "settled" "[I", .fieldLink RX0 15 "PegBox$ClaimBook" "amounts" "[I"] ++ wsX00)
def wsX1_init : List Cond := .code yX1_init cX1_init 1 none :: ([.methodLink RX1 3 objectInit, .instanceMethod objectInit, .code objectInit ⟨#[0xb1]⟩ 1 none, .arrayClass .int, .fieldLink RX1 9 "PegBox$EarnOut" "targets" "[I", .fieldLink RX1 15 "PegBox$EarnOut" "amounts" "[I", .arrayClass .boolean, .fieldLink RX1 18 "PegBox$EarnOut" "met" "[Z"] ++ wsX10)
def wsX1_meet : List Cond := .code yX1_meet cX1_meet 5 (some .int) :: ([.fieldLink RX1 18 "PegBox$EarnOut" "met" "[Z", .fieldLink RX1 15 "PegBox$EarnOut" "amounts" "[I"] ++ wsX10)
def wsX1_tell : List Cond := .code yX1_tell cX1_tell 3 (some .int) :: ([.fieldLink RX1 22 "PegBox$EarnOut" "told" "I", .fieldLink RX1 26 "PegBox$EarnOut" "resultSum" "I", .fieldLink RX1 29 "PegBox$EarnOut" "targetSum" "I", .fieldLink RX1 9 "PegBox$EarnOut" "targets" "[I", .fieldLink RX1 32 "PegBox$EarnOut" "isCarried" "Z", .methodLink RX1 36 yX1_meet, .instanceMethod yX1_meet, .selects RX1 yX1_meet yX1_meet, .initialized RX1, .code yX1_meet cX1_meet 5 (some .int), .fieldLink RX1 18 "PegBox$EarnOut" "met" "[Z", .fieldLink RX1 15 "PegBox$EarnOut" "amounts" "[I"] ++ wsX10)
def wsX1_hasten : List Cond := .code yX1_hasten cX1_hasten 1 (some .int) :: ([.fieldLink RX1 40 "PegBox$EarnOut" "isSpedUp" "Z", .fieldLink RX1 22 "PegBox$EarnOut" "told" "I", .methodLink RX1 36 yX1_meet, .instanceMethod yX1_meet, .selects RX1 yX1_meet yX1_meet, .initialized RX1, .code yX1_meet cX1_meet 5 (some .int), .fieldLink RX1 18 "PegBox$EarnOut" "met" "[Z", .fieldLink RX1 15 "PegBox$EarnOut" "amounts" "[I"] ++ wsX10)
def wsX2_init : List Cond := .code yX2_init cX2_init 1 none :: ([.methodLink RX2 3 objectInit, .instanceMethod objectInit, .code objectInit ⟨#[0xb1]⟩ 1 none, .arrayClass .int, .fieldLink RX2 9 "PegBox$Escrow" "amounts" "[I", .fieldLink RX2 15 "PegBox$Escrow" "days" "[I"] ++ wsX20)
def wsX2_total : List Cond := .code yX2_total cX2_total 3 (some .int) :: ([.fieldLink RX2 9 "PegBox$Escrow" "amounts" "[I"] ++ wsX20)
def wsX2_totalAfter : List Cond := .code yX2_totalAfter cX2_totalAfter 4 (some .int) :: ([.fieldLink RX2 15 "PegBox$Escrow" "days" "[I", .fieldLink RX2 9 "PegBox$Escrow" "amounts" "[I"] ++ wsX20)
def wsX3_init : List Cond := .code yX3_init cX3_init 1 none :: ([.methodLink RX3 3 objectInit, .instanceMethod objectInit, .code objectInit ⟨#[0xb1]⟩ 1 none, .arrayClass .int, .fieldLink RX3 9 "PegBox$Kinds" "leasts" "[I", .fieldLink RX3 15 "PegBox$Kinds" "baskets" "[I", .arrayClass .boolean, .fieldLink RX3 18 "PegBox$Kinds" "wholes" "[Z", .fieldLink RX3 22 "PegBox$Kinds" "caps" "[I", .fieldLink RX3 25 "PegBox$Kinds" "lastDays" "[I"] ++ wsX30)
def wsX3_pastBasket : List Cond := .code yX3_pastBasket cX3_pastBasket 4 (some .int) :: ([.fieldLink RX3 15 "PegBox$Kinds" "baskets" "[I", .fieldLink RX3 18 "PegBox$Kinds" "wholes" "[Z"] ++ wsX30)
def wsX3_limit : List Cond := .code yX3_limit cX3_limit 3 (some .int) :: ([.fieldLink RX3 22 "PegBox$Kinds" "caps" "[I", .methodLink RX3 32 Lib.Math.min.name, .static Lib.Math.min.name, .initialized "java/lang/Math", .code Lib.Math.min.name Lib.Math.min.code 2 (some .int), .methodLink RX3 28 yX3_pastBasket, .instanceMethod yX3_pastBasket, .selects RX3 yX3_pastBasket yX3_pastBasket, .initialized RX3, .code yX3_pastBasket cX3_pastBasket 4 (some .int), .fieldLink RX3 15 "PegBox$Kinds" "baskets" "[I", .fieldLink RX3 18 "PegBox$Kinds" "wholes" "[Z"] ++ wsX30)
def wsX4_init_r1 : List Cond := [Cond.methodLink RX4 1 objectInit, Cond.instanceMethod objectInit, Cond.code objectInit ⟨#[0xb1]⟩ 1 none, Cond.classLink RX4 7 RX2, Cond.instantiable RX2 2, Cond.initialized RX2, Cond.fieldLink RX4 10 "PegBox" "escrow" "LPegBox$Escrow;", Cond.classLink RX4 16 RX3, Cond.instantiable RX3 5, Cond.initialized RX3, Cond.fieldLink RX4 19 "PegBox" "kinds" "LPegBox$Kinds;", Cond.classLink RX4 23 RX0, Cond.instantiable RX0 5, Cond.initialized RX0, Cond.fieldLink RX4 26 "PegBox" "book" "LPegBox$ClaimBook;", Cond.classLink RX4 30 RX1, Cond.instantiable RX1 8, Cond.initialized RX1, Cond.fieldLink RX4 33 "PegBox" "earnOut" "LPegBox$EarnOut;", Cond.fieldLink RX4 37 "PegBox" "day" "I", Cond.fieldLink RX4 41 "PegBox" "finalPrice" "I", Cond.methodLink RX4 9 yX2_init, Cond.instanceMethod yX2_init, Cond.code yX2_init cX2_init 1 none]
def wsX4_init_r2 : List Cond := [Cond.methodLink RX2 3 objectInit, Cond.arrayClass .int, Cond.fieldLink RX2 9 "PegBox$Escrow" "amounts" "[I", Cond.fieldLink RX2 15 "PegBox$Escrow" "days" "[I", Cond.methodLink RX4 18 yX3_init, Cond.instanceMethod yX3_init, Cond.code yX3_init cX3_init 1 none, Cond.methodLink RX3 3 objectInit, Cond.fieldLink RX3 9 "PegBox$Kinds" "leasts" "[I", Cond.fieldLink RX3 15 "PegBox$Kinds" "baskets" "[I", Cond.arrayClass .boolean, Cond.fieldLink RX3 18 "PegBox$Kinds" "wholes" "[Z", Cond.fieldLink RX3 22 "PegBox$Kinds" "caps" "[I", Cond.fieldLink RX3 25 "PegBox$Kinds" "lastDays" "[I", Cond.methodLink RX4 25 yX0_init, Cond.instanceMethod yX0_init, Cond.code yX0_init cX0_init 1 none, Cond.methodLink RX0 3 objectInit, Cond.fieldLink RX0 9 "PegBox$ClaimBook" "kinds" "[I", Cond.fieldLink RX0 15 "PegBox$ClaimBook" "amounts" "[I", Cond.fieldLink RX0 18 "PegBox$ClaimBook" "offers" "[I", Cond.fieldLink RX0 21 "PegBox$ClaimBook" "settled" "[I", Cond.methodLink RX4 32 yX1_init, Cond.instanceMethod yX1_init]
def wsX4_init_r3 : List Cond := [Cond.code yX1_init cX1_init 1 none, Cond.methodLink RX1 3 objectInit, Cond.fieldLink RX1 9 "PegBox$EarnOut" "targets" "[I", Cond.fieldLink RX1 15 "PegBox$EarnOut" "amounts" "[I", Cond.fieldLink RX1 18 "PegBox$EarnOut" "met" "[Z"]
def wsX4_init : List Cond := .code yX4_init cX4_init 1 none :: ((wsX4_init_r1 ++ (wsX4_init_r2 ++ wsX4_init_r3)) ++ wsX20 ++ wsX40 ++ wsX30 ++ wsX00 ++ wsX10)
def wsX4_checkRange : List Cond := .code yX4_checkRange cX4_checkRange 3 none :: ([.classLink RX4 204 "java/lang/IllegalArgumentException", .initialized "java/lang/IllegalArgumentException"] ++ (vx_atS RX4 208 "java/lang/IllegalArgumentException" ["java/lang/RuntimeException", "java/lang/Exception"]).filter goodWord)
def wsX4_checkNotClosed : List Cond := .code yX4_checkNotClosed cX4_checkNotClosed 1 none :: ([.classLink RX4 124 "java/lang/IllegalStateException", .initialized "java/lang/IllegalStateException", .fieldLink RX4 37 "PegBox" "day" "I"] ++ wsX40 ++ (vx_atS RX4 128 "java/lang/IllegalStateException" ["java/lang/RuntimeException", "java/lang/Exception"]).filter goodWord)
def wsX4_setPrice : List Cond := .code yX4_setPrice cX4_setPrice 4 none :: ([.constant RX4 44 (10000000), .constant RX4 49 (-10000000), .fieldLink RX4 53 "PegBox" "price" "I", .fieldLink RX4 56 "PegBox" "peg" "I", .fieldLink RX4 59 "PegBox" "collar" "I", .methodLink RX4 45 yX4_checkRange, .static yX4_checkRange, .initialized RX4, .code yX4_checkRange cX4_checkRange 3 none, .classLink RX4 204 "java/lang/IllegalArgumentException", .initialized "java/lang/IllegalArgumentException", .methodLink RX4 50 yX4_checkNotClosed, .instanceMethod yX4_checkNotClosed, .selects RX4 yX4_checkNotClosed yX4_checkNotClosed, .code yX4_checkNotClosed cX4_checkNotClosed 1 none, .classLink RX4 124 "java/lang/IllegalStateException", .initialized "java/lang/IllegalStateException", .fieldLink RX4 37 "PegBox" "day" "I"] ++ wsX40 ++ (vx_atS RX4 208 "java/lang/IllegalArgumentException" ["java/lang/RuntimeException", "java/lang/Exception"]).filter goodWord ++ (vx_atS RX4 128 "java/lang/IllegalStateException" ["java/lang/RuntimeException", "java/lang/Exception"]).filter goodWord)
def wsX4_checkNumber : List Cond := .code yX4_checkNumber cX4_checkNumber 2 none :: ([.classLink RX4 199 "java/lang/IndexOutOfBoundsException", .initialized "java/lang/IndexOutOfBoundsException"] ++ (vx_atS RX4 203 "java/lang/IndexOutOfBoundsException" ["java/lang/RuntimeException", "java/lang/Exception"]).filter goodWord)
def wsX4_setPart : List Cond := .code yX4_setPart cX4_setPart 4 none :: ([.constant RX4 44 (10000000), .fieldLink RX4 10 "PegBox" "escrow" "LPegBox$Escrow;", .fieldLink RX4 66 "PegBox$Escrow" "amounts" "[I", .fieldLink RX4 70 "PegBox$Escrow" "days" "[I", .methodLink RX4 62 yX4_checkNumber, .static yX4_checkNumber, .initialized RX4, .code yX4_checkNumber cX4_checkNumber 2 none, .classLink RX4 199 "java/lang/IndexOutOfBoundsException", .initialized "java/lang/IndexOutOfBoundsException", .methodLink RX4 45 yX4_checkRange, .static yX4_checkRange, .code yX4_checkRange cX4_checkRange 3 none, .classLink RX4 204 "java/lang/IllegalArgumentException", .initialized "java/lang/IllegalArgumentException", .methodLink RX4 50 yX4_checkNotClosed, .instanceMethod yX4_checkNotClosed, .selects RX4 yX4_checkNotClosed yX4_checkNotClosed, .code yX4_checkNotClosed cX4_checkNotClosed 1 none, .classLink RX4 124 "java/lang/IllegalStateException", .initialized "java/lang/IllegalStateException", .fieldLink RX4 37 "PegBox" "day" "I"] ++ wsX40 ++ wsX20 ++ (vx_atS RX4 203 "java/lang/IndexOutOfBoundsException" ["java/lang/RuntimeException", "java/lang/Exception"]).filter goodWord ++ (vx_atS RX4 208 "java/lang/IllegalArgumentException" ["java/lang/RuntimeException", "java/lang/Exception"]).filter goodWord ++ (vx_atS RX4 128 "java/lang/IllegalStateException" ["java/lang/RuntimeException", "java/lang/Exception"]).filter goodWord)
def wsX4_setKind_r1 : List Cond := [Cond.constant RX4 44 (10000000), Cond.constant RX4 73 (100000000), Cond.fieldLink RX4 19 "PegBox" "kinds" "LPegBox$Kinds;", Cond.fieldLink RX4 74 "PegBox$Kinds" "leasts" "[I", Cond.fieldLink RX4 77 "PegBox$Kinds" "baskets" "[I", Cond.fieldLink RX4 80 "PegBox$Kinds" "wholes" "[Z", Cond.fieldLink RX4 84 "PegBox$Kinds" "caps" "[I", Cond.fieldLink RX4 87 "PegBox$Kinds" "lastDays" "[I", Cond.methodLink RX4 62 yX4_checkNumber, Cond.static yX4_checkNumber, Cond.initialized RX4, Cond.code yX4_checkNumber cX4_checkNumber 2 none, Cond.classLink RX4 199 "java/lang/IndexOutOfBoundsException", Cond.initialized "java/lang/IndexOutOfBoundsException", Cond.methodLink RX4 45 yX4_checkRange, Cond.static yX4_checkRange, Cond.code yX4_checkRange cX4_checkRange 3 none, Cond.classLink RX4 204 "java/lang/IllegalArgumentException", Cond.initialized "java/lang/IllegalArgumentException", Cond.methodLink RX4 50 yX4_checkNotClosed, Cond.instanceMethod yX4_checkNotClosed, Cond.selects RX4 yX4_checkNotClosed yX4_checkNotClosed, Cond.code yX4_checkNotClosed cX4_checkNotClosed 1 none, Cond.classLink RX4 124 "java/lang/IllegalStateException"]
def wsX4_setKind_r2 : List Cond := [Cond.initialized "java/lang/IllegalStateException", Cond.fieldLink RX4 37 "PegBox" "day" "I"]
def wsX4_setKind : List Cond := .code yX4_setKind cX4_setKind 7 none :: ((wsX4_setKind_r1 ++ wsX4_setKind_r2) ++ wsX40 ++ wsX30 ++ (vx_atS RX4 203 "java/lang/IndexOutOfBoundsException" ["java/lang/RuntimeException", "java/lang/Exception"]).filter goodWord ++ (vx_atS RX4 208 "java/lang/IllegalArgumentException" ["java/lang/RuntimeException", "java/lang/Exception"]).filter goodWord ++ (vx_atS RX4 128 "java/lang/IllegalStateException" ["java/lang/RuntimeException", "java/lang/Exception"]).filter goodWord)
def wsX4_setYear : List Cond := .code yX4_setYear cX4_setYear 4 none :: ([.constant RX4 44 (10000000), .fieldLink RX4 33 "PegBox" "earnOut" "LPegBox$EarnOut;", .fieldLink RX4 90 "PegBox$EarnOut" "targets" "[I", .fieldLink RX4 93 "PegBox$EarnOut" "amounts" "[I", .methodLink RX4 62 yX4_checkNumber, .static yX4_checkNumber, .initialized RX4, .code yX4_checkNumber cX4_checkNumber 2 none, .classLink RX4 199 "java/lang/IndexOutOfBoundsException", .initialized "java/lang/IndexOutOfBoundsException", .methodLink RX4 45 yX4_checkRange, .static yX4_checkRange, .code yX4_checkRange cX4_checkRange 3 none, .classLink RX4 204 "java/lang/IllegalArgumentException", .initialized "java/lang/IllegalArgumentException", .methodLink RX4 50 yX4_checkNotClosed, .instanceMethod yX4_checkNotClosed, .selects RX4 yX4_checkNotClosed yX4_checkNotClosed, .code yX4_checkNotClosed cX4_checkNotClosed 1 none, .classLink RX4 124 "java/lang/IllegalStateException", .initialized "java/lang/IllegalStateException", .fieldLink RX4 37 "PegBox" "day" "I"] ++ wsX40 ++ wsX10 ++ (vx_atS RX4 203 "java/lang/IndexOutOfBoundsException" ["java/lang/RuntimeException", "java/lang/Exception"]).filter goodWord ++ (vx_atS RX4 208 "java/lang/IllegalArgumentException" ["java/lang/RuntimeException", "java/lang/Exception"]).filter goodWord ++ (vx_atS RX4 128 "java/lang/IllegalStateException" ["java/lang/RuntimeException", "java/lang/Exception"]).filter goodWord)
def wsX4_setCarry : List Cond := .code yX4_setCarry cX4_setCarry 2 none :: ([.fieldLink RX4 33 "PegBox" "earnOut" "LPegBox$EarnOut;", .fieldLink RX4 94 "PegBox$EarnOut" "isCarried" "Z", .methodLink RX4 50 yX4_checkNotClosed, .instanceMethod yX4_checkNotClosed, .selects RX4 yX4_checkNotClosed yX4_checkNotClosed, .initialized RX4, .code yX4_checkNotClosed cX4_checkNotClosed 1 none, .classLink RX4 124 "java/lang/IllegalStateException", .initialized "java/lang/IllegalStateException", .fieldLink RX4 37 "PegBox" "day" "I"] ++ wsX40 ++ wsX10 ++ (vx_atS RX4 128 "java/lang/IllegalStateException" ["java/lang/RuntimeException", "java/lang/Exception"]).filter goodWord)
def wsX4_beyondCollar : List Cond := .code yX4_beyondCollar cX4_beyondCollar 2 (some .int) :: ([.fieldLink RX4 59 "PegBox" "collar" "I"] ++ wsX40)
def wsX4_close_r1 : List Cond := [Cond.constant RX4 44 (10000000), Cond.constant RX4 49 (-10000000), Cond.fieldLink RX4 37 "PegBox" "day" "I", Cond.fieldLink RX4 53 "PegBox" "price" "I", Cond.fieldLink RX4 56 "PegBox" "peg" "I", Cond.methodLink RX4 102 Lib.Math.max.name, Cond.static Lib.Math.max.name, Cond.initialized "java/lang/Math", Cond.code Lib.Math.max.name Lib.Math.max.code 2 (some .int), Cond.fieldLink RX4 41 "PegBox" "finalPrice" "I", Cond.fieldLink RX4 10 "PegBox" "escrow" "LPegBox$Escrow;", Cond.methodLink RX4 112 Lib.Math.min.name, Cond.static Lib.Math.min.name, Cond.code Lib.Math.min.name Lib.Math.min.code 2 (some .int), Cond.fieldLink RX4 115 "PegBox" "held" "I", Cond.fieldLink RX4 118 "PegBox" "paid" "I", Cond.methodLink RX4 45 yX4_checkRange, Cond.static yX4_checkRange, Cond.initialized RX4, Cond.code yX4_checkRange cX4_checkRange 3 none, Cond.classLink RX4 204 "java/lang/IllegalArgumentException", Cond.initialized "java/lang/IllegalArgumentException", Cond.methodLink RX4 50 yX4_checkNotClosed, Cond.instanceMethod yX4_checkNotClosed]
def wsX4_close_r2 : List Cond := [Cond.selects RX4 yX4_checkNotClosed yX4_checkNotClosed, Cond.code yX4_checkNotClosed cX4_checkNotClosed 1 none, Cond.classLink RX4 124 "java/lang/IllegalStateException", Cond.initialized "java/lang/IllegalStateException", Cond.methodLink RX4 98 yX4_beyondCollar, Cond.instanceMethod yX4_beyondCollar, Cond.selects RX4 yX4_beyondCollar yX4_beyondCollar, Cond.code yX4_beyondCollar cX4_beyondCollar 2 (some .int), Cond.fieldLink RX4 59 "PegBox" "collar" "I", Cond.methodLink RX4 108 yX2_total, Cond.instanceMethod yX2_total, Cond.selects RX2 yX2_total yX2_total, Cond.initialized RX2, Cond.code yX2_total cX2_total 3 (some .int), Cond.fieldLink RX2 9 "PegBox$Escrow" "amounts" "[I"]
def wsX4_close : List Cond := .code yX4_close cX4_close 4 (some .int) :: ((wsX4_close_r1 ++ wsX4_close_r2) ++ wsX40 ++ wsX20 ++ (vx_atS RX4 208 "java/lang/IllegalArgumentException" ["java/lang/RuntimeException", "java/lang/Exception"]).filter goodWord ++ (vx_atS RX4 128 "java/lang/IllegalStateException" ["java/lang/RuntimeException", "java/lang/Exception"]).filter goodWord)
def wsX4_checkClosed : List Cond := .code yX4_checkClosed cX4_checkClosed 1 none :: ([.classLink RX4 124 "java/lang/IllegalStateException", .initialized "java/lang/IllegalStateException", .fieldLink RX4 37 "PegBox" "day" "I"] ++ wsX40 ++ (vx_atS RX4 128 "java/lang/IllegalStateException" ["java/lang/RuntimeException", "java/lang/Exception"]).filter goodWord)
def wsX4_free : List Cond := .code yX4_free cX4_free 2 none :: ([.fieldLink RX4 10 "PegBox" "escrow" "LPegBox$Escrow;", .fieldLink RX4 37 "PegBox" "day" "I", .fieldLink RX4 26 "PegBox" "book" "LPegBox$ClaimBook;", .fieldLink RX4 115 "PegBox" "held" "I", .fieldLink RX4 118 "PegBox" "paid" "I", .methodLink RX4 221 yX2_totalAfter, .instanceMethod yX2_totalAfter, .selects RX2 yX2_totalAfter yX2_totalAfter, .initialized RX2, .code yX2_totalAfter cX2_totalAfter 4 (some .int), .fieldLink RX2 15 "PegBox$Escrow" "days" "[I", .fieldLink RX2 9 "PegBox$Escrow" "amounts" "[I", .methodLink RX4 224 yX0_openSum, .instanceMethod yX0_openSum, .selects RX0 yX0_openSum yX0_openSum, .initialized RX0, .code yX0_openSum cX0_openSum 3 (some .int), .fieldLink RX0 24 "PegBox$ClaimBook" "count" "I", .fieldLink RX0 21 "PegBox$ClaimBook" "settled" "[I", .fieldLink RX0 15 "PegBox$ClaimBook" "amounts" "[I"] ++ wsX40 ++ wsX20 ++ wsX00)
def wsX4_advance_r1 : List Cond := [Cond.classLink RX4 124 "java/lang/IllegalStateException", Cond.initialized "java/lang/IllegalStateException", Cond.fieldLink RX4 37 "PegBox" "day" "I", Cond.methodLink RX4 45 yX4_checkRange, Cond.static yX4_checkRange, Cond.initialized RX4, Cond.code yX4_checkRange cX4_checkRange 3 none, Cond.classLink RX4 204 "java/lang/IllegalArgumentException", Cond.initialized "java/lang/IllegalArgumentException", Cond.methodLink RX4 121 yX4_checkClosed, Cond.instanceMethod yX4_checkClosed, Cond.selects RX4 yX4_checkClosed yX4_checkClosed, Cond.code yX4_checkClosed cX4_checkClosed 1 none, Cond.methodLink RX4 131 yX4_free, Cond.instanceMethod yX4_free, Cond.selects RX4 yX4_free yX4_free, Cond.code yX4_free cX4_free 2 none, Cond.fieldLink RX4 10 "PegBox" "escrow" "LPegBox$Escrow;", Cond.fieldLink RX4 26 "PegBox" "book" "LPegBox$ClaimBook;", Cond.fieldLink RX4 115 "PegBox" "held" "I", Cond.fieldLink RX4 118 "PegBox" "paid" "I", Cond.methodLink RX4 221 yX2_totalAfter, Cond.instanceMethod yX2_totalAfter, Cond.selects RX2 yX2_totalAfter yX2_totalAfter]
def wsX4_advance_r2 : List Cond := [Cond.initialized RX2, Cond.code yX2_totalAfter cX2_totalAfter 4 (some .int), Cond.fieldLink RX2 15 "PegBox$Escrow" "days" "[I", Cond.fieldLink RX2 9 "PegBox$Escrow" "amounts" "[I", Cond.methodLink RX4 224 yX0_openSum, Cond.instanceMethod yX0_openSum, Cond.selects RX0 yX0_openSum yX0_openSum, Cond.initialized RX0, Cond.code yX0_openSum cX0_openSum 3 (some .int), Cond.fieldLink RX0 24 "PegBox$ClaimBook" "count" "I", Cond.fieldLink RX0 21 "PegBox$ClaimBook" "settled" "[I", Cond.fieldLink RX0 15 "PegBox$ClaimBook" "amounts" "[I"]
def wsX4_advance : List Cond := .code yX4_advance cX4_advance 2 (some .int) :: ((wsX4_advance_r1 ++ wsX4_advance_r2) ++ wsX40 ++ wsX20 ++ wsX00 ++ (vx_atS RX4 128 "java/lang/IllegalStateException" ["java/lang/RuntimeException", "java/lang/Exception"]).filter goodWord ++ (vx_atS RX4 208 "java/lang/IllegalArgumentException" ["java/lang/RuntimeException", "java/lang/Exception"]).filter goodWord)
def wsX4_claim_r1 : List Cond := [Cond.classLink RX4 124 "java/lang/IllegalStateException", Cond.initialized "java/lang/IllegalStateException", Cond.constant RX4 44 (10000000), Cond.fieldLink RX4 37 "PegBox" "day" "I", Cond.fieldLink RX4 19 "PegBox" "kinds" "LPegBox$Kinds;", Cond.fieldLink RX4 87 "PegBox$Kinds" "lastDays" "[I", Cond.fieldLink RX4 26 "PegBox" "book" "LPegBox$ClaimBook;", Cond.fieldLink RX4 136 "PegBox$ClaimBook" "count" "I", Cond.fieldLink RX4 141 "PegBox$ClaimBook" "kinds" "[I", Cond.fieldLink RX4 143 "PegBox$ClaimBook" "amounts" "[I", Cond.fieldLink RX4 144 "PegBox$ClaimBook" "offers" "[I", Cond.fieldLink RX4 147 "PegBox$ClaimBook" "settled" "[I", Cond.methodLink RX4 62 yX4_checkNumber, Cond.static yX4_checkNumber, Cond.initialized RX4, Cond.code yX4_checkNumber cX4_checkNumber 2 none, Cond.classLink RX4 199 "java/lang/IndexOutOfBoundsException", Cond.initialized "java/lang/IndexOutOfBoundsException", Cond.methodLink RX4 45 yX4_checkRange, Cond.static yX4_checkRange, Cond.code yX4_checkRange cX4_checkRange 3 none, Cond.classLink RX4 204 "java/lang/IllegalArgumentException", Cond.initialized "java/lang/IllegalArgumentException", Cond.methodLink RX4 121 yX4_checkClosed]
def wsX4_claim_r2 : List Cond := [Cond.instanceMethod yX4_checkClosed, Cond.selects RX4 yX4_checkClosed yX4_checkClosed, Cond.code yX4_checkClosed cX4_checkClosed 1 none]
def wsX4_claim : List Cond := .code yX4_claim cX4_claim 4 (some .int) :: ((wsX4_claim_r1 ++ wsX4_claim_r2) ++ wsX40 ++ wsX30 ++ wsX00 ++ (vx_atS RX4 128 "java/lang/IllegalStateException" ["java/lang/RuntimeException", "java/lang/Exception"]).filter goodWord ++ (vx_atS RX4 203 "java/lang/IndexOutOfBoundsException" ["java/lang/RuntimeException", "java/lang/Exception"]).filter goodWord ++ (vx_atS RX4 208 "java/lang/IllegalArgumentException" ["java/lang/RuntimeException", "java/lang/Exception"]).filter goodWord)
def wsX4_checkOpen : List Cond := .code yX4_checkOpen cX4_checkOpen 1 none :: ([.classLink RX4 124 "java/lang/IllegalStateException", .initialized "java/lang/IllegalStateException"] ++ (vx_atS RX4 128 "java/lang/IllegalStateException" ["java/lang/RuntimeException", "java/lang/Exception"]).filter goodWord)
def wsX4_offer : List Cond := .code yX4_offer cX4_offer 4 (some .int) :: ([.fieldLink RX4 26 "PegBox" "book" "LPegBox$ClaimBook;", .fieldLink RX4 136 "PegBox$ClaimBook" "count" "I", .fieldLink RX4 147 "PegBox$ClaimBook" "settled" "[I", .fieldLink RX4 143 "PegBox$ClaimBook" "amounts" "[I", .fieldLink RX4 144 "PegBox$ClaimBook" "offers" "[I", .methodLink RX4 62 yX4_checkNumber, .static yX4_checkNumber, .initialized RX4, .code yX4_checkNumber cX4_checkNumber 2 none, .classLink RX4 199 "java/lang/IndexOutOfBoundsException", .initialized "java/lang/IndexOutOfBoundsException", .methodLink RX4 150 yX4_checkOpen, .static yX4_checkOpen, .code yX4_checkOpen cX4_checkOpen 1 none, .classLink RX4 124 "java/lang/IllegalStateException", .initialized "java/lang/IllegalStateException", .methodLink RX4 45 yX4_checkRange, .static yX4_checkRange, .code yX4_checkRange cX4_checkRange 3 none, .classLink RX4 204 "java/lang/IllegalArgumentException", .initialized "java/lang/IllegalArgumentException"] ++ wsX40 ++ wsX00 ++ (vx_atS RX4 203 "java/lang/IndexOutOfBoundsException" ["java/lang/RuntimeException", "java/lang/Exception"]).filter goodWord ++ (vx_atS RX4 128 "java/lang/IllegalStateException" ["java/lang/RuntimeException", "java/lang/Exception"]).filter goodWord ++ (vx_atS RX4 208 "java/lang/IllegalArgumentException" ["java/lang/RuntimeException", "java/lang/Exception"]).filter goodWord)
def wsX4_dueOfKind_r1 : List Cond := [Cond.fieldLink RX4 19 "PegBox" "kinds" "LPegBox$Kinds;", Cond.fieldLink RX4 26 "PegBox" "book" "LPegBox$ClaimBook;", Cond.fieldLink RX4 74 "PegBox$Kinds" "leasts" "[I", Cond.methodLink RX4 215 yX0_settledSum, Cond.instanceMethod yX0_settledSum, Cond.selects RX0 yX0_settledSum yX0_settledSum, Cond.initialized RX0, Cond.code yX0_settledSum cX0_settledSum 5 (some .int), Cond.fieldLink RX0 24 "PegBox$ClaimBook" "count" "I", Cond.fieldLink RX0 9 "PegBox$ClaimBook" "kinds" "[I", Cond.fieldLink RX0 21 "PegBox$ClaimBook" "settled" "[I", Cond.methodLink RX4 218 yX3_limit, Cond.instanceMethod yX3_limit, Cond.selects RX3 yX3_limit yX3_limit, Cond.initialized RX3, Cond.code yX3_limit cX3_limit 3 (some .int), Cond.fieldLink RX3 22 "PegBox$Kinds" "caps" "[I", Cond.methodLink RX3 32 Lib.Math.min.name, Cond.static Lib.Math.min.name, Cond.initialized "java/lang/Math", Cond.code Lib.Math.min.name Lib.Math.min.code 2 (some .int), Cond.methodLink RX3 28 yX3_pastBasket, Cond.instanceMethod yX3_pastBasket, Cond.selects RX3 yX3_pastBasket yX3_pastBasket]
def wsX4_dueOfKind_r2 : List Cond := [Cond.code yX3_pastBasket cX3_pastBasket 4 (some .int), Cond.fieldLink RX3 15 "PegBox$Kinds" "baskets" "[I", Cond.fieldLink RX3 18 "PegBox$Kinds" "wholes" "[Z"]
def wsX4_dueOfKind : List Cond := .code yX4_dueOfKind cX4_dueOfKind 2 (some .int) :: ((wsX4_dueOfKind_r1 ++ wsX4_dueOfKind_r2) ++ wsX40 ++ wsX30 ++ wsX00)
def wsX4_dueInAll_r1 : List Cond := [Cond.methodLink RX4 193 yX4_dueOfKind, Cond.instanceMethod yX4_dueOfKind, Cond.selects RX4 yX4_dueOfKind yX4_dueOfKind, Cond.initialized RX4, Cond.code yX4_dueOfKind cX4_dueOfKind 2 (some .int), Cond.fieldLink RX4 19 "PegBox" "kinds" "LPegBox$Kinds;", Cond.fieldLink RX4 26 "PegBox" "book" "LPegBox$ClaimBook;", Cond.fieldLink RX4 74 "PegBox$Kinds" "leasts" "[I", Cond.methodLink RX4 215 yX0_settledSum, Cond.instanceMethod yX0_settledSum, Cond.selects RX0 yX0_settledSum yX0_settledSum, Cond.initialized RX0, Cond.code yX0_settledSum cX0_settledSum 5 (some .int), Cond.fieldLink RX0 24 "PegBox$ClaimBook" "count" "I", Cond.fieldLink RX0 9 "PegBox$ClaimBook" "kinds" "[I", Cond.fieldLink RX0 21 "PegBox$ClaimBook" "settled" "[I", Cond.methodLink RX4 218 yX3_limit, Cond.instanceMethod yX3_limit, Cond.selects RX3 yX3_limit yX3_limit, Cond.initialized RX3, Cond.code yX3_limit cX3_limit 3 (some .int), Cond.fieldLink RX3 22 "PegBox$Kinds" "caps" "[I", Cond.methodLink RX3 32 Lib.Math.min.name, Cond.static Lib.Math.min.name]
def wsX4_dueInAll_r2 : List Cond := [Cond.initialized "java/lang/Math", Cond.code Lib.Math.min.name Lib.Math.min.code 2 (some .int), Cond.methodLink RX3 28 yX3_pastBasket, Cond.instanceMethod yX3_pastBasket, Cond.selects RX3 yX3_pastBasket yX3_pastBasket, Cond.code yX3_pastBasket cX3_pastBasket 4 (some .int), Cond.fieldLink RX3 15 "PegBox$Kinds" "baskets" "[I", Cond.fieldLink RX3 18 "PegBox$Kinds" "wholes" "[Z"]
def wsX4_dueInAll : List Cond := .code yX4_dueInAll cX4_dueInAll 3 (some .int) :: ((wsX4_dueInAll_r1 ++ wsX4_dueInAll_r2) ++ wsX40 ++ wsX30 ++ wsX00)
def wsX4_leftOutstanding_r1 : List Cond := [Cond.fieldLink RX4 178 "PegBox" "returned" "I", Cond.fieldLink RX4 181 "PegBox" "setOff" "I", Cond.methodLink RX4 187 yX4_dueInAll, Cond.instanceMethod yX4_dueInAll, Cond.selects RX4 yX4_dueInAll yX4_dueInAll, Cond.initialized RX4, Cond.code yX4_dueInAll cX4_dueInAll 3 (some .int), Cond.methodLink RX4 193 yX4_dueOfKind, Cond.instanceMethod yX4_dueOfKind, Cond.selects RX4 yX4_dueOfKind yX4_dueOfKind, Cond.code yX4_dueOfKind cX4_dueOfKind 2 (some .int), Cond.fieldLink RX4 19 "PegBox" "kinds" "LPegBox$Kinds;", Cond.fieldLink RX4 26 "PegBox" "book" "LPegBox$ClaimBook;", Cond.fieldLink RX4 74 "PegBox$Kinds" "leasts" "[I", Cond.methodLink RX4 215 yX0_settledSum, Cond.instanceMethod yX0_settledSum, Cond.selects RX0 yX0_settledSum yX0_settledSum, Cond.initialized RX0, Cond.code yX0_settledSum cX0_settledSum 5 (some .int), Cond.fieldLink RX0 24 "PegBox$ClaimBook" "count" "I", Cond.fieldLink RX0 9 "PegBox$ClaimBook" "kinds" "[I", Cond.fieldLink RX0 21 "PegBox$ClaimBook" "settled" "[I", Cond.methodLink RX4 218 yX3_limit, Cond.instanceMethod yX3_limit]
def wsX4_leftOutstanding_r2 : List Cond := [Cond.selects RX3 yX3_limit yX3_limit, Cond.initialized RX3, Cond.code yX3_limit cX3_limit 3 (some .int), Cond.fieldLink RX3 22 "PegBox$Kinds" "caps" "[I", Cond.methodLink RX3 32 Lib.Math.min.name, Cond.static Lib.Math.min.name, Cond.initialized "java/lang/Math", Cond.code Lib.Math.min.name Lib.Math.min.code 2 (some .int), Cond.methodLink RX3 28 yX3_pastBasket, Cond.instanceMethod yX3_pastBasket, Cond.selects RX3 yX3_pastBasket yX3_pastBasket, Cond.code yX3_pastBasket cX3_pastBasket 4 (some .int), Cond.fieldLink RX3 15 "PegBox$Kinds" "baskets" "[I", Cond.fieldLink RX3 18 "PegBox$Kinds" "wholes" "[Z"]
def wsX4_leftOutstanding : List Cond := .code yX4_leftOutstanding cX4_leftOutstanding 1 (some .int) :: ((wsX4_leftOutstanding_r1 ++ wsX4_leftOutstanding_r2) ++ wsX40 ++ wsX30 ++ wsX00)
def wsX4_payOut_r1 : List Cond := [Cond.fieldLink RX4 115 "PegBox" "held" "I", Cond.methodLink RX4 112 Lib.Math.min.name, Cond.static Lib.Math.min.name, Cond.initialized "java/lang/Math", Cond.code Lib.Math.min.name Lib.Math.min.code 2 (some .int), Cond.fieldLink RX4 178 "PegBox" "returned" "I", Cond.methodLink RX4 190 yX4_leftOutstanding, Cond.instanceMethod yX4_leftOutstanding, Cond.selects RX4 yX4_leftOutstanding yX4_leftOutstanding, Cond.initialized RX4, Cond.code yX4_leftOutstanding cX4_leftOutstanding 1 (some .int), Cond.fieldLink RX4 181 "PegBox" "setOff" "I", Cond.methodLink RX4 187 yX4_dueInAll, Cond.instanceMethod yX4_dueInAll, Cond.selects RX4 yX4_dueInAll yX4_dueInAll, Cond.code yX4_dueInAll cX4_dueInAll 3 (some .int), Cond.methodLink RX4 193 yX4_dueOfKind, Cond.instanceMethod yX4_dueOfKind, Cond.selects RX4 yX4_dueOfKind yX4_dueOfKind, Cond.code yX4_dueOfKind cX4_dueOfKind 2 (some .int), Cond.fieldLink RX4 19 "PegBox" "kinds" "LPegBox$Kinds;", Cond.fieldLink RX4 26 "PegBox" "book" "LPegBox$ClaimBook;", Cond.fieldLink RX4 74 "PegBox$Kinds" "leasts" "[I", Cond.methodLink RX4 215 yX0_settledSum]
def wsX4_payOut_r2 : List Cond := [Cond.instanceMethod yX0_settledSum, Cond.selects RX0 yX0_settledSum yX0_settledSum, Cond.initialized RX0, Cond.code yX0_settledSum cX0_settledSum 5 (some .int), Cond.fieldLink RX0 24 "PegBox$ClaimBook" "count" "I", Cond.fieldLink RX0 9 "PegBox$ClaimBook" "kinds" "[I", Cond.fieldLink RX0 21 "PegBox$ClaimBook" "settled" "[I", Cond.methodLink RX4 218 yX3_limit, Cond.instanceMethod yX3_limit, Cond.selects RX3 yX3_limit yX3_limit, Cond.initialized RX3, Cond.code yX3_limit cX3_limit 3 (some .int), Cond.fieldLink RX3 22 "PegBox$Kinds" "caps" "[I", Cond.methodLink RX3 32 Lib.Math.min.name, Cond.methodLink RX3 28 yX3_pastBasket, Cond.instanceMethod yX3_pastBasket, Cond.selects RX3 yX3_pastBasket yX3_pastBasket, Cond.code yX3_pastBasket cX3_pastBasket 4 (some .int), Cond.fieldLink RX3 15 "PegBox$Kinds" "baskets" "[I", Cond.fieldLink RX3 18 "PegBox$Kinds" "wholes" "[Z", Cond.methodLink RX4 131 yX4_free, Cond.instanceMethod yX4_free, Cond.selects RX4 yX4_free yX4_free, Cond.code yX4_free cX4_free 2 none]
def wsX4_payOut_r3 : List Cond := [Cond.fieldLink RX4 10 "PegBox" "escrow" "LPegBox$Escrow;", Cond.fieldLink RX4 37 "PegBox" "day" "I", Cond.fieldLink RX4 118 "PegBox" "paid" "I", Cond.methodLink RX4 221 yX2_totalAfter, Cond.instanceMethod yX2_totalAfter, Cond.selects RX2 yX2_totalAfter yX2_totalAfter, Cond.initialized RX2, Cond.code yX2_totalAfter cX2_totalAfter 4 (some .int), Cond.fieldLink RX2 15 "PegBox$Escrow" "days" "[I", Cond.fieldLink RX2 9 "PegBox$Escrow" "amounts" "[I", Cond.methodLink RX4 224 yX0_openSum, Cond.instanceMethod yX0_openSum, Cond.selects RX0 yX0_openSum yX0_openSum, Cond.code yX0_openSum cX0_openSum 3 (some .int), Cond.fieldLink RX0 15 "PegBox$ClaimBook" "amounts" "[I"]
def wsX4_payOut : List Cond := .code yX4_payOut cX4_payOut 2 (some .int) :: ((wsX4_payOut_r1 ++ (wsX4_payOut_r2 ++ wsX4_payOut_r3)) ++ wsX40 ++ wsX30 ++ wsX00 ++ wsX20)
def wsX4_decide_r1 : List Cond := [Cond.fieldLink RX4 26 "PegBox" "book" "LPegBox$ClaimBook;", Cond.fieldLink RX4 136 "PegBox$ClaimBook" "count" "I", Cond.fieldLink RX4 147 "PegBox$ClaimBook" "settled" "[I", Cond.fieldLink RX4 144 "PegBox$ClaimBook" "offers" "[I", Cond.fieldLink RX4 143 "PegBox$ClaimBook" "amounts" "[I", Cond.methodLink RX4 62 yX4_checkNumber, Cond.static yX4_checkNumber, Cond.initialized RX4, Cond.code yX4_checkNumber cX4_checkNumber 2 none, Cond.classLink RX4 199 "java/lang/IndexOutOfBoundsException", Cond.initialized "java/lang/IndexOutOfBoundsException", Cond.methodLink RX4 150 yX4_checkOpen, Cond.static yX4_checkOpen, Cond.code yX4_checkOpen cX4_checkOpen 1 none, Cond.classLink RX4 124 "java/lang/IllegalStateException", Cond.initialized "java/lang/IllegalStateException", Cond.methodLink RX4 45 yX4_checkRange, Cond.static yX4_checkRange, Cond.code yX4_checkRange cX4_checkRange 3 none, Cond.classLink RX4 204 "java/lang/IllegalArgumentException", Cond.initialized "java/lang/IllegalArgumentException", Cond.methodLink RX4 156 yX4_payOut, Cond.instanceMethod yX4_payOut, Cond.selects RX4 yX4_payOut yX4_payOut]
def wsX4_decide_r2 : List Cond := [Cond.code yX4_payOut cX4_payOut 2 (some .int), Cond.fieldLink RX4 115 "PegBox" "held" "I", Cond.methodLink RX4 112 Lib.Math.min.name, Cond.static Lib.Math.min.name, Cond.initialized "java/lang/Math", Cond.code Lib.Math.min.name Lib.Math.min.code 2 (some .int), Cond.fieldLink RX4 178 "PegBox" "returned" "I", Cond.methodLink RX4 190 yX4_leftOutstanding, Cond.instanceMethod yX4_leftOutstanding, Cond.selects RX4 yX4_leftOutstanding yX4_leftOutstanding, Cond.code yX4_leftOutstanding cX4_leftOutstanding 1 (some .int), Cond.fieldLink RX4 181 "PegBox" "setOff" "I", Cond.methodLink RX4 187 yX4_dueInAll, Cond.instanceMethod yX4_dueInAll, Cond.selects RX4 yX4_dueInAll yX4_dueInAll, Cond.code yX4_dueInAll cX4_dueInAll 3 (some .int), Cond.methodLink RX4 193 yX4_dueOfKind, Cond.instanceMethod yX4_dueOfKind, Cond.selects RX4 yX4_dueOfKind yX4_dueOfKind, Cond.code yX4_dueOfKind cX4_dueOfKind 2 (some .int), Cond.fieldLink RX4 19 "PegBox" "kinds" "LPegBox$Kinds;", Cond.fieldLink RX4 74 "PegBox$Kinds" "leasts" "[I", Cond.methodLink RX4 215 yX0_settledSum, Cond.instanceMethod yX0_settledSum]
def wsX4_decide_r3 : List Cond := [Cond.selects RX0 yX0_settledSum yX0_settledSum, Cond.initialized RX0, Cond.code yX0_settledSum cX0_settledSum 5 (some .int), Cond.fieldLink RX0 24 "PegBox$ClaimBook" "count" "I", Cond.fieldLink RX0 9 "PegBox$ClaimBook" "kinds" "[I", Cond.fieldLink RX0 21 "PegBox$ClaimBook" "settled" "[I", Cond.methodLink RX4 218 yX3_limit, Cond.instanceMethod yX3_limit, Cond.selects RX3 yX3_limit yX3_limit, Cond.initialized RX3, Cond.code yX3_limit cX3_limit 3 (some .int), Cond.fieldLink RX3 22 "PegBox$Kinds" "caps" "[I", Cond.methodLink RX3 32 Lib.Math.min.name, Cond.methodLink RX3 28 yX3_pastBasket, Cond.instanceMethod yX3_pastBasket, Cond.selects RX3 yX3_pastBasket yX3_pastBasket, Cond.code yX3_pastBasket cX3_pastBasket 4 (some .int), Cond.fieldLink RX3 15 "PegBox$Kinds" "baskets" "[I", Cond.fieldLink RX3 18 "PegBox$Kinds" "wholes" "[Z", Cond.methodLink RX4 131 yX4_free, Cond.instanceMethod yX4_free, Cond.selects RX4 yX4_free yX4_free, Cond.code yX4_free cX4_free 2 none, Cond.fieldLink RX4 10 "PegBox" "escrow" "LPegBox$Escrow;"]
def wsX4_decide_r4 : List Cond := [Cond.fieldLink RX4 37 "PegBox" "day" "I", Cond.fieldLink RX4 118 "PegBox" "paid" "I", Cond.methodLink RX4 221 yX2_totalAfter, Cond.instanceMethod yX2_totalAfter, Cond.selects RX2 yX2_totalAfter yX2_totalAfter, Cond.initialized RX2, Cond.code yX2_totalAfter cX2_totalAfter 4 (some .int), Cond.fieldLink RX2 15 "PegBox$Escrow" "days" "[I", Cond.fieldLink RX2 9 "PegBox$Escrow" "amounts" "[I", Cond.methodLink RX4 224 yX0_openSum, Cond.instanceMethod yX0_openSum, Cond.selects RX0 yX0_openSum yX0_openSum, Cond.code yX0_openSum cX0_openSum 3 (some .int), Cond.fieldLink RX0 15 "PegBox$ClaimBook" "amounts" "[I"]
def wsX4_decide : List Cond := .code yX4_decide cX4_decide 4 (some .int) :: ((wsX4_decide_r1 ++ (wsX4_decide_r2 ++ (wsX4_decide_r3 ++ wsX4_decide_r4))) ++ wsX40 ++ wsX00 ++ wsX30 ++ wsX20 ++ (vx_atS RX4 203 "java/lang/IndexOutOfBoundsException" ["java/lang/RuntimeException", "java/lang/Exception"]).filter goodWord ++ (vx_atS RX4 128 "java/lang/IllegalStateException" ["java/lang/RuntimeException", "java/lang/Exception"]).filter goodWord ++ (vx_atS RX4 208 "java/lang/IllegalArgumentException" ["java/lang/RuntimeException", "java/lang/Exception"]).filter goodWord)
def wsX4_owe_r1 : List Cond := [Cond.methodLink RX4 112 Lib.Math.min.name, Cond.static Lib.Math.min.name, Cond.initialized "java/lang/Math", Cond.code Lib.Math.min.name Lib.Math.min.code 2 (some .int), Cond.fieldLink RX4 184 "PegBox" "owed" "I", Cond.fieldLink RX4 181 "PegBox" "setOff" "I", Cond.fieldLink RX4 118 "PegBox" "paid" "I", Cond.methodLink RX4 190 yX4_leftOutstanding, Cond.instanceMethod yX4_leftOutstanding, Cond.selects RX4 yX4_leftOutstanding yX4_leftOutstanding, Cond.initialized RX4, Cond.code yX4_leftOutstanding cX4_leftOutstanding 1 (some .int), Cond.fieldLink RX4 178 "PegBox" "returned" "I", Cond.methodLink RX4 187 yX4_dueInAll, Cond.instanceMethod yX4_dueInAll, Cond.selects RX4 yX4_dueInAll yX4_dueInAll, Cond.code yX4_dueInAll cX4_dueInAll 3 (some .int), Cond.methodLink RX4 193 yX4_dueOfKind, Cond.instanceMethod yX4_dueOfKind, Cond.selects RX4 yX4_dueOfKind yX4_dueOfKind, Cond.code yX4_dueOfKind cX4_dueOfKind 2 (some .int), Cond.fieldLink RX4 19 "PegBox" "kinds" "LPegBox$Kinds;", Cond.fieldLink RX4 26 "PegBox" "book" "LPegBox$ClaimBook;", Cond.fieldLink RX4 74 "PegBox$Kinds" "leasts" "[I"]
def wsX4_owe_r2 : List Cond := [Cond.methodLink RX4 215 yX0_settledSum, Cond.instanceMethod yX0_settledSum, Cond.selects RX0 yX0_settledSum yX0_settledSum, Cond.initialized RX0, Cond.code yX0_settledSum cX0_settledSum 5 (some .int), Cond.fieldLink RX0 24 "PegBox$ClaimBook" "count" "I", Cond.fieldLink RX0 9 "PegBox$ClaimBook" "kinds" "[I", Cond.fieldLink RX0 21 "PegBox$ClaimBook" "settled" "[I", Cond.methodLink RX4 218 yX3_limit, Cond.instanceMethod yX3_limit, Cond.selects RX3 yX3_limit yX3_limit, Cond.initialized RX3, Cond.code yX3_limit cX3_limit 3 (some .int), Cond.fieldLink RX3 22 "PegBox$Kinds" "caps" "[I", Cond.methodLink RX3 32 Lib.Math.min.name, Cond.methodLink RX3 28 yX3_pastBasket, Cond.instanceMethod yX3_pastBasket, Cond.selects RX3 yX3_pastBasket yX3_pastBasket, Cond.code yX3_pastBasket cX3_pastBasket 4 (some .int), Cond.fieldLink RX3 15 "PegBox$Kinds" "baskets" "[I", Cond.fieldLink RX3 18 "PegBox$Kinds" "wholes" "[Z"]
def wsX4_owe : List Cond := .code yX4_owe cX4_owe 3 (some .int) :: ((wsX4_owe_r1 ++ wsX4_owe_r2) ++ wsX40 ++ wsX30 ++ wsX00)
def wsX4_report_r1 : List Cond := [Cond.classLink RX4 124 "java/lang/IllegalStateException", Cond.initialized "java/lang/IllegalStateException", Cond.constant RX4 49 (-10000000), Cond.constant RX4 44 (10000000), Cond.fieldLink RX4 33 "PegBox" "earnOut" "LPegBox$EarnOut;", Cond.fieldLink RX4 159 "PegBox$EarnOut" "isSpedUp" "Z", Cond.fieldLink RX4 164 "PegBox$EarnOut" "told" "I", Cond.methodLink RX4 45 yX4_checkRange, Cond.static yX4_checkRange, Cond.initialized RX4, Cond.code yX4_checkRange cX4_checkRange 3 none, Cond.classLink RX4 204 "java/lang/IllegalArgumentException", Cond.initialized "java/lang/IllegalArgumentException", Cond.methodLink RX4 121 yX4_checkClosed, Cond.instanceMethod yX4_checkClosed, Cond.selects RX4 yX4_checkClosed yX4_checkClosed, Cond.code yX4_checkClosed cX4_checkClosed 1 none, Cond.fieldLink RX4 37 "PegBox" "day" "I", Cond.methodLink RX4 169 yX1_tell, Cond.instanceMethod yX1_tell, Cond.selects RX1 yX1_tell yX1_tell, Cond.initialized RX1, Cond.code yX1_tell cX1_tell 3 (some .int), Cond.fieldLink RX1 22 "PegBox$EarnOut" "told" "I"]
def wsX4_report_r2 : List Cond := [Cond.fieldLink RX1 26 "PegBox$EarnOut" "resultSum" "I", Cond.fieldLink RX1 29 "PegBox$EarnOut" "targetSum" "I", Cond.fieldLink RX1 9 "PegBox$EarnOut" "targets" "[I", Cond.fieldLink RX1 32 "PegBox$EarnOut" "isCarried" "Z", Cond.methodLink RX1 36 yX1_meet, Cond.instanceMethod yX1_meet, Cond.selects RX1 yX1_meet yX1_meet, Cond.code yX1_meet cX1_meet 5 (some .int), Cond.fieldLink RX1 18 "PegBox$EarnOut" "met" "[Z", Cond.fieldLink RX1 15 "PegBox$EarnOut" "amounts" "[I", Cond.methodLink RX4 172 yX4_owe, Cond.instanceMethod yX4_owe, Cond.selects RX4 yX4_owe yX4_owe, Cond.code yX4_owe cX4_owe 3 (some .int), Cond.methodLink RX4 112 Lib.Math.min.name, Cond.static Lib.Math.min.name, Cond.initialized "java/lang/Math", Cond.code Lib.Math.min.name Lib.Math.min.code 2 (some .int), Cond.fieldLink RX4 184 "PegBox" "owed" "I", Cond.fieldLink RX4 181 "PegBox" "setOff" "I", Cond.fieldLink RX4 118 "PegBox" "paid" "I", Cond.methodLink RX4 190 yX4_leftOutstanding, Cond.instanceMethod yX4_leftOutstanding, Cond.selects RX4 yX4_leftOutstanding yX4_leftOutstanding]
def wsX4_report_r3 : List Cond := [Cond.code yX4_leftOutstanding cX4_leftOutstanding 1 (some .int), Cond.fieldLink RX4 178 "PegBox" "returned" "I", Cond.methodLink RX4 187 yX4_dueInAll, Cond.instanceMethod yX4_dueInAll, Cond.selects RX4 yX4_dueInAll yX4_dueInAll, Cond.code yX4_dueInAll cX4_dueInAll 3 (some .int), Cond.methodLink RX4 193 yX4_dueOfKind, Cond.instanceMethod yX4_dueOfKind, Cond.selects RX4 yX4_dueOfKind yX4_dueOfKind, Cond.code yX4_dueOfKind cX4_dueOfKind 2 (some .int), Cond.fieldLink RX4 19 "PegBox" "kinds" "LPegBox$Kinds;", Cond.fieldLink RX4 26 "PegBox" "book" "LPegBox$ClaimBook;", Cond.fieldLink RX4 74 "PegBox$Kinds" "leasts" "[I", Cond.methodLink RX4 215 yX0_settledSum, Cond.instanceMethod yX0_settledSum, Cond.selects RX0 yX0_settledSum yX0_settledSum, Cond.initialized RX0, Cond.code yX0_settledSum cX0_settledSum 5 (some .int), Cond.fieldLink RX0 24 "PegBox$ClaimBook" "count" "I", Cond.fieldLink RX0 9 "PegBox$ClaimBook" "kinds" "[I", Cond.fieldLink RX0 21 "PegBox$ClaimBook" "settled" "[I", Cond.methodLink RX4 218 yX3_limit, Cond.instanceMethod yX3_limit, Cond.selects RX3 yX3_limit yX3_limit]
def wsX4_report_r4 : List Cond := [Cond.initialized RX3, Cond.code yX3_limit cX3_limit 3 (some .int), Cond.fieldLink RX3 22 "PegBox$Kinds" "caps" "[I", Cond.methodLink RX3 32 Lib.Math.min.name, Cond.methodLink RX3 28 yX3_pastBasket, Cond.instanceMethod yX3_pastBasket, Cond.selects RX3 yX3_pastBasket yX3_pastBasket, Cond.code yX3_pastBasket cX3_pastBasket 4 (some .int), Cond.fieldLink RX3 15 "PegBox$Kinds" "baskets" "[I", Cond.fieldLink RX3 18 "PegBox$Kinds" "wholes" "[Z"]
def wsX4_report : List Cond := .code yX4_report cX4_report 2 (some .int) :: ((wsX4_report_r1 ++ (wsX4_report_r2 ++ (wsX4_report_r3 ++ wsX4_report_r4))) ++ wsX40 ++ wsX10 ++ wsX30 ++ wsX00 ++ (vx_atS RX4 128 "java/lang/IllegalStateException" ["java/lang/RuntimeException", "java/lang/Exception"]).filter goodWord ++ (vx_atS RX4 208 "java/lang/IllegalArgumentException" ["java/lang/RuntimeException", "java/lang/Exception"]).filter goodWord)
def wsX4_speedUp_r1 : List Cond := [Cond.classLink RX4 124 "java/lang/IllegalStateException", Cond.initialized "java/lang/IllegalStateException", Cond.fieldLink RX4 33 "PegBox" "earnOut" "LPegBox$EarnOut;", Cond.fieldLink RX4 159 "PegBox$EarnOut" "isSpedUp" "Z", Cond.methodLink RX4 121 yX4_checkClosed, Cond.instanceMethod yX4_checkClosed, Cond.selects RX4 yX4_checkClosed yX4_checkClosed, Cond.initialized RX4, Cond.code yX4_checkClosed cX4_checkClosed 1 none, Cond.fieldLink RX4 37 "PegBox" "day" "I", Cond.methodLink RX4 175 yX1_hasten, Cond.instanceMethod yX1_hasten, Cond.selects RX1 yX1_hasten yX1_hasten, Cond.initialized RX1, Cond.code yX1_hasten cX1_hasten 1 (some .int), Cond.fieldLink RX1 40 "PegBox$EarnOut" "isSpedUp" "Z", Cond.fieldLink RX1 22 "PegBox$EarnOut" "told" "I", Cond.methodLink RX1 36 yX1_meet, Cond.instanceMethod yX1_meet, Cond.selects RX1 yX1_meet yX1_meet, Cond.code yX1_meet cX1_meet 5 (some .int), Cond.fieldLink RX1 18 "PegBox$EarnOut" "met" "[Z", Cond.fieldLink RX1 15 "PegBox$EarnOut" "amounts" "[I", Cond.methodLink RX4 172 yX4_owe]
def wsX4_speedUp_r2 : List Cond := [Cond.instanceMethod yX4_owe, Cond.selects RX4 yX4_owe yX4_owe, Cond.code yX4_owe cX4_owe 3 (some .int), Cond.methodLink RX4 112 Lib.Math.min.name, Cond.static Lib.Math.min.name, Cond.initialized "java/lang/Math", Cond.code Lib.Math.min.name Lib.Math.min.code 2 (some .int), Cond.fieldLink RX4 184 "PegBox" "owed" "I", Cond.fieldLink RX4 181 "PegBox" "setOff" "I", Cond.fieldLink RX4 118 "PegBox" "paid" "I", Cond.methodLink RX4 190 yX4_leftOutstanding, Cond.instanceMethod yX4_leftOutstanding, Cond.selects RX4 yX4_leftOutstanding yX4_leftOutstanding, Cond.code yX4_leftOutstanding cX4_leftOutstanding 1 (some .int), Cond.fieldLink RX4 178 "PegBox" "returned" "I", Cond.methodLink RX4 187 yX4_dueInAll, Cond.instanceMethod yX4_dueInAll, Cond.selects RX4 yX4_dueInAll yX4_dueInAll, Cond.code yX4_dueInAll cX4_dueInAll 3 (some .int), Cond.methodLink RX4 193 yX4_dueOfKind, Cond.instanceMethod yX4_dueOfKind, Cond.selects RX4 yX4_dueOfKind yX4_dueOfKind, Cond.code yX4_dueOfKind cX4_dueOfKind 2 (some .int), Cond.fieldLink RX4 19 "PegBox" "kinds" "LPegBox$Kinds;"]
def wsX4_speedUp_r3 : List Cond := [Cond.fieldLink RX4 26 "PegBox" "book" "LPegBox$ClaimBook;", Cond.fieldLink RX4 74 "PegBox$Kinds" "leasts" "[I", Cond.methodLink RX4 215 yX0_settledSum, Cond.instanceMethod yX0_settledSum, Cond.selects RX0 yX0_settledSum yX0_settledSum, Cond.initialized RX0, Cond.code yX0_settledSum cX0_settledSum 5 (some .int), Cond.fieldLink RX0 24 "PegBox$ClaimBook" "count" "I", Cond.fieldLink RX0 9 "PegBox$ClaimBook" "kinds" "[I", Cond.fieldLink RX0 21 "PegBox$ClaimBook" "settled" "[I", Cond.methodLink RX4 218 yX3_limit, Cond.instanceMethod yX3_limit, Cond.selects RX3 yX3_limit yX3_limit, Cond.initialized RX3, Cond.code yX3_limit cX3_limit 3 (some .int), Cond.fieldLink RX3 22 "PegBox$Kinds" "caps" "[I", Cond.methodLink RX3 32 Lib.Math.min.name, Cond.methodLink RX3 28 yX3_pastBasket, Cond.instanceMethod yX3_pastBasket, Cond.selects RX3 yX3_pastBasket yX3_pastBasket, Cond.code yX3_pastBasket cX3_pastBasket 4 (some .int), Cond.fieldLink RX3 15 "PegBox$Kinds" "baskets" "[I", Cond.fieldLink RX3 18 "PegBox$Kinds" "wholes" "[Z"]
def wsX4_speedUp : List Cond := .code yX4_speedUp cX4_speedUp 1 (some .int) :: ((wsX4_speedUp_r1 ++ (wsX4_speedUp_r2 ++ wsX4_speedUp_r3)) ++ wsX40 ++ wsX10 ++ wsX30 ++ wsX00 ++ (vx_atS RX4 128 "java/lang/IllegalStateException" ["java/lang/RuntimeException", "java/lang/Exception"]).filter goodWord)
def wsX4_day : List Cond := .code yX4_day cX4_day 1 (some .int) :: ([.fieldLink RX4 37 "PegBox" "day" "I"] ++ wsX40)
def wsX4_finalPrice : List Cond := .code yX4_finalPrice cX4_finalPrice 1 (some .int) :: ([.fieldLink RX4 41 "PegBox" "finalPrice" "I"] ++ wsX40)
def wsX4_held : List Cond := .code yX4_held cX4_held 1 (some .int) :: ([.fieldLink RX4 115 "PegBox" "held" "I"] ++ wsX40)
def wsX4_paid : List Cond := .code yX4_paid cX4_paid 1 (some .int) :: ([.fieldLink RX4 118 "PegBox" "paid" "I"] ++ wsX40)
def wsX4_returned : List Cond := .code yX4_returned cX4_returned 1 (some .int) :: ([.fieldLink RX4 178 "PegBox" "returned" "I"] ++ wsX40)
def wsX4_setOff : List Cond := .code yX4_setOff cX4_setOff 1 (some .int) :: ([.fieldLink RX4 181 "PegBox" "setOff" "I"] ++ wsX40)
def wsX4_owed : List Cond := .code yX4_owed cX4_owed 1 (some .int) :: ([.fieldLink RX4 184 "PegBox" "owed" "I"] ++ wsX40)
def wsX4_due_r1 : List Cond := [Cond.methodLink RX4 187 yX4_dueInAll, Cond.instanceMethod yX4_dueInAll, Cond.selects RX4 yX4_dueInAll yX4_dueInAll, Cond.initialized RX4, Cond.code yX4_dueInAll cX4_dueInAll 3 (some .int), Cond.methodLink RX4 193 yX4_dueOfKind, Cond.instanceMethod yX4_dueOfKind, Cond.selects RX4 yX4_dueOfKind yX4_dueOfKind, Cond.code yX4_dueOfKind cX4_dueOfKind 2 (some .int), Cond.fieldLink RX4 19 "PegBox" "kinds" "LPegBox$Kinds;", Cond.fieldLink RX4 26 "PegBox" "book" "LPegBox$ClaimBook;", Cond.fieldLink RX4 74 "PegBox$Kinds" "leasts" "[I", Cond.methodLink RX4 215 yX0_settledSum, Cond.instanceMethod yX0_settledSum, Cond.selects RX0 yX0_settledSum yX0_settledSum, Cond.initialized RX0, Cond.code yX0_settledSum cX0_settledSum 5 (some .int), Cond.fieldLink RX0 24 "PegBox$ClaimBook" "count" "I", Cond.fieldLink RX0 9 "PegBox$ClaimBook" "kinds" "[I", Cond.fieldLink RX0 21 "PegBox$ClaimBook" "settled" "[I", Cond.methodLink RX4 218 yX3_limit, Cond.instanceMethod yX3_limit, Cond.selects RX3 yX3_limit yX3_limit, Cond.initialized RX3]
def wsX4_due_r2 : List Cond := [Cond.code yX3_limit cX3_limit 3 (some .int), Cond.fieldLink RX3 22 "PegBox$Kinds" "caps" "[I", Cond.methodLink RX3 32 Lib.Math.min.name, Cond.static Lib.Math.min.name, Cond.initialized "java/lang/Math", Cond.code Lib.Math.min.name Lib.Math.min.code 2 (some .int), Cond.methodLink RX3 28 yX3_pastBasket, Cond.instanceMethod yX3_pastBasket, Cond.selects RX3 yX3_pastBasket yX3_pastBasket, Cond.code yX3_pastBasket cX3_pastBasket 4 (some .int), Cond.fieldLink RX3 15 "PegBox$Kinds" "baskets" "[I", Cond.fieldLink RX3 18 "PegBox$Kinds" "wholes" "[Z"]
def wsX4_due : List Cond := .code yX4_due cX4_due 1 (some .int) :: ((wsX4_due_r1 ++ wsX4_due_r2) ++ wsX40 ++ wsX30 ++ wsX00)
def wsX4_outstanding_r1 : List Cond := [Cond.methodLink RX4 190 yX4_leftOutstanding, Cond.instanceMethod yX4_leftOutstanding, Cond.selects RX4 yX4_leftOutstanding yX4_leftOutstanding, Cond.initialized RX4, Cond.code yX4_leftOutstanding cX4_leftOutstanding 1 (some .int), Cond.fieldLink RX4 178 "PegBox" "returned" "I", Cond.fieldLink RX4 181 "PegBox" "setOff" "I", Cond.methodLink RX4 187 yX4_dueInAll, Cond.instanceMethod yX4_dueInAll, Cond.selects RX4 yX4_dueInAll yX4_dueInAll, Cond.code yX4_dueInAll cX4_dueInAll 3 (some .int), Cond.methodLink RX4 193 yX4_dueOfKind, Cond.instanceMethod yX4_dueOfKind, Cond.selects RX4 yX4_dueOfKind yX4_dueOfKind, Cond.code yX4_dueOfKind cX4_dueOfKind 2 (some .int), Cond.fieldLink RX4 19 "PegBox" "kinds" "LPegBox$Kinds;", Cond.fieldLink RX4 26 "PegBox" "book" "LPegBox$ClaimBook;", Cond.fieldLink RX4 74 "PegBox$Kinds" "leasts" "[I", Cond.methodLink RX4 215 yX0_settledSum, Cond.instanceMethod yX0_settledSum, Cond.selects RX0 yX0_settledSum yX0_settledSum, Cond.initialized RX0, Cond.code yX0_settledSum cX0_settledSum 5 (some .int), Cond.fieldLink RX0 24 "PegBox$ClaimBook" "count" "I"]
def wsX4_outstanding_r2 : List Cond := [Cond.fieldLink RX0 9 "PegBox$ClaimBook" "kinds" "[I", Cond.fieldLink RX0 21 "PegBox$ClaimBook" "settled" "[I", Cond.methodLink RX4 218 yX3_limit, Cond.instanceMethod yX3_limit, Cond.selects RX3 yX3_limit yX3_limit, Cond.initialized RX3, Cond.code yX3_limit cX3_limit 3 (some .int), Cond.fieldLink RX3 22 "PegBox$Kinds" "caps" "[I", Cond.methodLink RX3 32 Lib.Math.min.name, Cond.static Lib.Math.min.name, Cond.initialized "java/lang/Math", Cond.code Lib.Math.min.name Lib.Math.min.code 2 (some .int), Cond.methodLink RX3 28 yX3_pastBasket, Cond.instanceMethod yX3_pastBasket, Cond.selects RX3 yX3_pastBasket yX3_pastBasket, Cond.code yX3_pastBasket cX3_pastBasket 4 (some .int), Cond.fieldLink RX3 15 "PegBox$Kinds" "baskets" "[I", Cond.fieldLink RX3 18 "PegBox$Kinds" "wholes" "[Z"]
def wsX4_outstanding : List Cond := .code yX4_outstanding cX4_outstanding 1 (some .int) :: ((wsX4_outstanding_r1 ++ wsX4_outstanding_r2) ++ wsX40 ++ wsX30 ++ wsX00)
def wsX4_dueOf_r1 : List Cond := [Cond.methodLink RX4 62 yX4_checkNumber, Cond.static yX4_checkNumber, Cond.initialized RX4, Cond.code yX4_checkNumber cX4_checkNumber 2 none, Cond.classLink RX4 199 "java/lang/IndexOutOfBoundsException", Cond.initialized "java/lang/IndexOutOfBoundsException", Cond.methodLink RX4 193 yX4_dueOfKind, Cond.instanceMethod yX4_dueOfKind, Cond.selects RX4 yX4_dueOfKind yX4_dueOfKind, Cond.code yX4_dueOfKind cX4_dueOfKind 2 (some .int), Cond.fieldLink RX4 19 "PegBox" "kinds" "LPegBox$Kinds;", Cond.fieldLink RX4 26 "PegBox" "book" "LPegBox$ClaimBook;", Cond.fieldLink RX4 74 "PegBox$Kinds" "leasts" "[I", Cond.methodLink RX4 215 yX0_settledSum, Cond.instanceMethod yX0_settledSum, Cond.selects RX0 yX0_settledSum yX0_settledSum, Cond.initialized RX0, Cond.code yX0_settledSum cX0_settledSum 5 (some .int), Cond.fieldLink RX0 24 "PegBox$ClaimBook" "count" "I", Cond.fieldLink RX0 9 "PegBox$ClaimBook" "kinds" "[I", Cond.fieldLink RX0 21 "PegBox$ClaimBook" "settled" "[I", Cond.methodLink RX4 218 yX3_limit, Cond.instanceMethod yX3_limit, Cond.selects RX3 yX3_limit yX3_limit]
def wsX4_dueOf_r2 : List Cond := [Cond.initialized RX3, Cond.code yX3_limit cX3_limit 3 (some .int), Cond.fieldLink RX3 22 "PegBox$Kinds" "caps" "[I", Cond.methodLink RX3 32 Lib.Math.min.name, Cond.static Lib.Math.min.name, Cond.initialized "java/lang/Math", Cond.code Lib.Math.min.name Lib.Math.min.code 2 (some .int), Cond.methodLink RX3 28 yX3_pastBasket, Cond.instanceMethod yX3_pastBasket, Cond.selects RX3 yX3_pastBasket yX3_pastBasket, Cond.code yX3_pastBasket cX3_pastBasket 4 (some .int), Cond.fieldLink RX3 15 "PegBox$Kinds" "baskets" "[I", Cond.fieldLink RX3 18 "PegBox$Kinds" "wholes" "[Z"]
def wsX4_dueOf : List Cond := .code yX4_dueOf cX4_dueOf 2 (some .int) :: ((wsX4_dueOf_r1 ++ wsX4_dueOf_r2) ++ wsX40 ++ wsX30 ++ wsX00 ++ (vx_atS RX4 203 "java/lang/IndexOutOfBoundsException" ["java/lang/RuntimeException", "java/lang/Exception"]).filter goodWord)
def wsX4_claims : List Cond := .code yX4_claims cX4_claims 1 (some .int) :: ([.fieldLink RX4 26 "PegBox" "book" "LPegBox$ClaimBook;", .fieldLink RX4 136 "PegBox$ClaimBook" "count" "I"] ++ wsX40 ++ wsX00)
def wsX4_settledAt : List Cond := .code yX4_settledAt cX4_settledAt 2 (some .int) :: ([.fieldLink RX4 26 "PegBox" "book" "LPegBox$ClaimBook;", .fieldLink RX4 136 "PegBox$ClaimBook" "count" "I", .fieldLink RX4 147 "PegBox$ClaimBook" "settled" "[I", .methodLink RX4 62 yX4_checkNumber, .static yX4_checkNumber, .initialized RX4, .code yX4_checkNumber cX4_checkNumber 2 none, .classLink RX4 199 "java/lang/IndexOutOfBoundsException", .initialized "java/lang/IndexOutOfBoundsException"] ++ wsX40 ++ wsX00 ++ (vx_atS RX4 203 "java/lang/IndexOutOfBoundsException" ["java/lang/RuntimeException", "java/lang/Exception"]).filter goodWord)
def wsX4_isMet : List Cond := .code yX4_isMet cX4_isMet 2 (some .boolean) :: ([.fieldLink RX4 33 "PegBox" "earnOut" "LPegBox$EarnOut;", .fieldLink RX4 196 "PegBox$EarnOut" "met" "[Z", .methodLink RX4 62 yX4_checkNumber, .static yX4_checkNumber, .initialized RX4, .code yX4_checkNumber cX4_checkNumber 2 none, .classLink RX4 199 "java/lang/IndexOutOfBoundsException", .initialized "java/lang/IndexOutOfBoundsException"] ++ wsX40 ++ wsX10 ++ (vx_atS RX4 203 "java/lang/IndexOutOfBoundsException" ["java/lang/RuntimeException", "java/lang/Exception"]).filter goodWord)
def wsJ9_max_7cf53 : List Cond := .code yJ9_max_7cf53 cJ9_max_7cf53 2 (some .int) :: ([])
def wsJ9_min_7cf53 : List Cond := .code yJ9_min_7cf53 cJ9_min_7cf53 2 (some .int) :: ([])
def wsL_told : List Cond := .code yL_told cL_told 2 (some .int) :: ([.constant RL 7 (40009), .constant RL 8 (2147483647)])
def wsL_terms_r1 : List Cond := [Cond.constant RL 15 (3000000), Cond.constant RL 16 (400000), Cond.constant RL 17 (200000), Cond.constant RL 18 (50000), Cond.constant RL 25 (300000), Cond.constant RL 29 (90000), Cond.constant RL 33 (40000), Cond.constant RL 34 (500000), Cond.methodLink RL 9 yL_told, Cond.static yL_told, Cond.initialized RL, Cond.code yL_told cL_told 2 (some .int), Cond.constant RL 7 (40009), Cond.constant RL 8 (2147483647), Cond.methodLink RL 19 yX4_setPrice, Cond.instanceMethod yX4_setPrice, Cond.selects RX4 yX4_setPrice yX4_setPrice, Cond.initialized RX4, Cond.code yX4_setPrice cX4_setPrice 4 none, Cond.constant RX4 44 (10000000), Cond.constant RX4 49 (-10000000), Cond.fieldLink RX4 53 "PegBox" "price" "I", Cond.fieldLink RX4 56 "PegBox" "peg" "I", Cond.fieldLink RX4 59 "PegBox" "collar" "I"]
def wsL_terms_r2 : List Cond := [Cond.methodLink RX4 45 yX4_checkRange, Cond.static yX4_checkRange, Cond.code yX4_checkRange cX4_checkRange 3 none, Cond.classLink RX4 204 "java/lang/IllegalArgumentException", Cond.initialized "java/lang/IllegalArgumentException", Cond.methodLink RX4 50 yX4_checkNotClosed, Cond.instanceMethod yX4_checkNotClosed, Cond.selects RX4 yX4_checkNotClosed yX4_checkNotClosed, Cond.code yX4_checkNotClosed cX4_checkNotClosed 1 none, Cond.classLink RX4 124 "java/lang/IllegalStateException", Cond.initialized "java/lang/IllegalStateException", Cond.fieldLink RX4 37 "PegBox" "day" "I", Cond.methodLink RL 26 yX4_setPart, Cond.instanceMethod yX4_setPart, Cond.selects RX4 yX4_setPart yX4_setPart, Cond.code yX4_setPart cX4_setPart 4 none, Cond.fieldLink RX4 10 "PegBox" "escrow" "LPegBox$Escrow;", Cond.fieldLink RX4 66 "PegBox$Escrow" "amounts" "[I", Cond.fieldLink RX4 70 "PegBox$Escrow" "days" "[I", Cond.methodLink RX4 62 yX4_checkNumber, Cond.static yX4_checkNumber, Cond.code yX4_checkNumber cX4_checkNumber 2 none, Cond.classLink RX4 199 "java/lang/IndexOutOfBoundsException", Cond.initialized "java/lang/IndexOutOfBoundsException"]
def wsL_terms_r3 : List Cond := [Cond.methodLink RL 30 yX4_setYear, Cond.instanceMethod yX4_setYear, Cond.selects RX4 yX4_setYear yX4_setYear, Cond.code yX4_setYear cX4_setYear 4 none, Cond.fieldLink RX4 33 "PegBox" "earnOut" "LPegBox$EarnOut;", Cond.fieldLink RX4 90 "PegBox$EarnOut" "targets" "[I", Cond.fieldLink RX4 93 "PegBox$EarnOut" "amounts" "[I", Cond.methodLink RL 35 yX4_setKind, Cond.instanceMethod yX4_setKind, Cond.selects RX4 yX4_setKind yX4_setKind, Cond.code yX4_setKind cX4_setKind 7 none, Cond.constant RX4 73 (100000000), Cond.fieldLink RX4 19 "PegBox" "kinds" "LPegBox$Kinds;", Cond.fieldLink RX4 74 "PegBox$Kinds" "leasts" "[I", Cond.fieldLink RX4 77 "PegBox$Kinds" "baskets" "[I", Cond.fieldLink RX4 80 "PegBox$Kinds" "wholes" "[Z", Cond.fieldLink RX4 84 "PegBox$Kinds" "caps" "[I", Cond.fieldLink RX4 87 "PegBox$Kinds" "lastDays" "[I", Cond.methodLink RL 39 yX4_setCarry, Cond.instanceMethod yX4_setCarry, Cond.selects RX4 yX4_setCarry yX4_setCarry, Cond.code yX4_setCarry cX4_setCarry 2 none, Cond.fieldLink RX4 94 "PegBox$EarnOut" "isCarried" "Z"]
def wsL_terms : List Cond := .code yL_terms cL_terms 4 none :: ((wsL_terms_r1 ++ (wsL_terms_r2 ++ wsL_terms_r3)) ++ wsX40 ++ wsX20 ++ wsX10 ++ wsX30 ++ (vx_atS RX4 208 "java/lang/IllegalArgumentException" ["java/lang/RuntimeException", "java/lang/Exception"]).filter goodWord ++ (vx_atS RX4 128 "java/lang/IllegalStateException" ["java/lang/RuntimeException", "java/lang/Exception"]).filter goodWord ++ (vx_atS RX4 203 "java/lang/IndexOutOfBoundsException" ["java/lang/RuntimeException", "java/lang/Exception"]).filter goodWord)
def wsL_does_r1 : List Cond := [Cond.methodLink RL 43 yX4_claims, Cond.instanceMethod yX4_claims, Cond.selects RX4 yX4_claims yX4_claims, Cond.initialized RX4, Cond.code yX4_claims cX4_claims 1 (some .int), Cond.fieldLink RX4 26 "PegBox" "book" "LPegBox$ClaimBook;", Cond.fieldLink RX4 136 "PegBox$ClaimBook" "count" "I", Cond.methodLink RL 47 yX4_settledAt, Cond.instanceMethod yX4_settledAt, Cond.selects RX4 yX4_settledAt yX4_settledAt, Cond.code yX4_settledAt cX4_settledAt 2 (some .int), Cond.fieldLink RX4 147 "PegBox$ClaimBook" "settled" "[I", Cond.methodLink RX4 62 yX4_checkNumber, Cond.static yX4_checkNumber, Cond.code yX4_checkNumber cX4_checkNumber 2 none, Cond.classLink RX4 199 "java/lang/IndexOutOfBoundsException", Cond.initialized "java/lang/IndexOutOfBoundsException", Cond.methodLink RL 51 yX4_held, Cond.instanceMethod yX4_held, Cond.selects RX4 yX4_held yX4_held, Cond.code yX4_held cX4_held 1 (some .int), Cond.fieldLink RX4 115 "PegBox" "held" "I", Cond.methodLink RL 54 yX4_returned, Cond.instanceMethod yX4_returned]
def wsL_does_r2 : List Cond := [Cond.selects RX4 yX4_returned yX4_returned, Cond.code yX4_returned cX4_returned 1 (some .int), Cond.fieldLink RX4 178 "PegBox" "returned" "I", Cond.methodLink RL 57 yX4_day, Cond.instanceMethod yX4_day, Cond.selects RX4 yX4_day yX4_day, Cond.code yX4_day cX4_day 1 (some .int), Cond.fieldLink RX4 37 "PegBox" "day" "I", Cond.methodLink RL 60 yX4_advance, Cond.instanceMethod yX4_advance, Cond.selects RX4 yX4_advance yX4_advance, Cond.code yX4_advance cX4_advance 2 (some .int), Cond.classLink RX4 124 "java/lang/IllegalStateException", Cond.initialized "java/lang/IllegalStateException", Cond.methodLink RX4 45 yX4_checkRange, Cond.static yX4_checkRange, Cond.code yX4_checkRange cX4_checkRange 3 none, Cond.classLink RX4 204 "java/lang/IllegalArgumentException", Cond.initialized "java/lang/IllegalArgumentException", Cond.methodLink RX4 121 yX4_checkClosed, Cond.instanceMethod yX4_checkClosed, Cond.selects RX4 yX4_checkClosed yX4_checkClosed, Cond.code yX4_checkClosed cX4_checkClosed 1 none, Cond.methodLink RX4 131 yX4_free]
def wsL_does_r3 : List Cond := [Cond.instanceMethod yX4_free, Cond.selects RX4 yX4_free yX4_free, Cond.code yX4_free cX4_free 2 none, Cond.fieldLink RX4 10 "PegBox" "escrow" "LPegBox$Escrow;", Cond.fieldLink RX4 118 "PegBox" "paid" "I", Cond.methodLink RX4 221 yX2_totalAfter, Cond.instanceMethod yX2_totalAfter, Cond.selects RX2 yX2_totalAfter yX2_totalAfter, Cond.initialized RX2, Cond.code yX2_totalAfter cX2_totalAfter 4 (some .int), Cond.fieldLink RX2 15 "PegBox$Escrow" "days" "[I", Cond.fieldLink RX2 9 "PegBox$Escrow" "amounts" "[I", Cond.methodLink RX4 224 yX0_openSum, Cond.instanceMethod yX0_openSum, Cond.selects RX0 yX0_openSum yX0_openSum, Cond.initialized RX0, Cond.code yX0_openSum cX0_openSum 3 (some .int), Cond.fieldLink RX0 24 "PegBox$ClaimBook" "count" "I", Cond.fieldLink RX0 21 "PegBox$ClaimBook" "settled" "[I", Cond.fieldLink RX0 15 "PegBox$ClaimBook" "amounts" "[I", Cond.methodLink RL 63 yX4_offer, Cond.instanceMethod yX4_offer, Cond.selects RX4 yX4_offer yX4_offer, Cond.code yX4_offer cX4_offer 4 (some .int)]
def wsL_does_r4 : List Cond := [Cond.fieldLink RX4 143 "PegBox$ClaimBook" "amounts" "[I", Cond.fieldLink RX4 144 "PegBox$ClaimBook" "offers" "[I", Cond.methodLink RX4 150 yX4_checkOpen, Cond.static yX4_checkOpen, Cond.code yX4_checkOpen cX4_checkOpen 1 none, Cond.methodLink RL 67 yX4_due, Cond.instanceMethod yX4_due, Cond.selects RX4 yX4_due yX4_due, Cond.code yX4_due cX4_due 1 (some .int), Cond.methodLink RX4 187 yX4_dueInAll, Cond.instanceMethod yX4_dueInAll, Cond.selects RX4 yX4_dueInAll yX4_dueInAll, Cond.code yX4_dueInAll cX4_dueInAll 3 (some .int), Cond.methodLink RX4 193 yX4_dueOfKind, Cond.instanceMethod yX4_dueOfKind, Cond.selects RX4 yX4_dueOfKind yX4_dueOfKind, Cond.code yX4_dueOfKind cX4_dueOfKind 2 (some .int), Cond.fieldLink RX4 19 "PegBox" "kinds" "LPegBox$Kinds;", Cond.fieldLink RX4 74 "PegBox$Kinds" "leasts" "[I", Cond.methodLink RX4 215 yX0_settledSum, Cond.instanceMethod yX0_settledSum, Cond.selects RX0 yX0_settledSum yX0_settledSum, Cond.code yX0_settledSum cX0_settledSum 5 (some .int), Cond.fieldLink RX0 9 "PegBox$ClaimBook" "kinds" "[I"]
def wsL_does_r5 : List Cond := [Cond.methodLink RX4 218 yX3_limit, Cond.instanceMethod yX3_limit, Cond.selects RX3 yX3_limit yX3_limit, Cond.initialized RX3, Cond.code yX3_limit cX3_limit 3 (some .int), Cond.fieldLink RX3 22 "PegBox$Kinds" "caps" "[I", Cond.methodLink RX3 32 Lib.Math.min.name, Cond.static Lib.Math.min.name, Cond.initialized "java/lang/Math", Cond.code Lib.Math.min.name Lib.Math.min.code 2 (some .int), Cond.methodLink RX3 28 yX3_pastBasket, Cond.instanceMethod yX3_pastBasket, Cond.selects RX3 yX3_pastBasket yX3_pastBasket, Cond.code yX3_pastBasket cX3_pastBasket 4 (some .int), Cond.fieldLink RX3 15 "PegBox$Kinds" "baskets" "[I", Cond.fieldLink RX3 18 "PegBox$Kinds" "wholes" "[Z", Cond.methodLink RL 70 yX4_decide, Cond.instanceMethod yX4_decide, Cond.selects RX4 yX4_decide yX4_decide, Cond.code yX4_decide cX4_decide 4 (some .int), Cond.methodLink RX4 156 yX4_payOut, Cond.instanceMethod yX4_payOut, Cond.selects RX4 yX4_payOut yX4_payOut, Cond.code yX4_payOut cX4_payOut 2 (some .int)]
def wsL_does_r6 : List Cond := [Cond.methodLink RX4 112 Lib.Math.min.name, Cond.methodLink RX4 190 yX4_leftOutstanding, Cond.instanceMethod yX4_leftOutstanding, Cond.selects RX4 yX4_leftOutstanding yX4_leftOutstanding, Cond.code yX4_leftOutstanding cX4_leftOutstanding 1 (some .int), Cond.fieldLink RX4 181 "PegBox" "setOff" "I", Cond.methodLink RL 73 yX4_outstanding, Cond.instanceMethod yX4_outstanding, Cond.selects RX4 yX4_outstanding yX4_outstanding, Cond.code yX4_outstanding cX4_outstanding 1 (some .int)]
def wsL_does : List Cond := .code yL_does cL_does 11 (some .boolean) :: ((wsL_does_r1 ++ (wsL_does_r2 ++ (wsL_does_r3 ++ (wsL_does_r4 ++ (wsL_does_r5 ++ wsL_does_r6))))) ++ wsX40 ++ wsX00 ++ wsX20 ++ wsX30 ++ (vx_atS RX4 203 "java/lang/IndexOutOfBoundsException" ["java/lang/RuntimeException", "java/lang/Exception"]).filter goodWord ++ (vx_atS RX4 128 "java/lang/IllegalStateException" ["java/lang/RuntimeException", "java/lang/Exception"]).filter goodWord ++ (vx_atS RX4 208 "java/lang/IllegalArgumentException" ["java/lang/RuntimeException", "java/lang/Exception"]).filter goodWord)
def wsL_isWhole_r1 : List Cond := [Cond.methodLink RL 76 yX4_paid, Cond.instanceMethod yX4_paid, Cond.selects RX4 yX4_paid yX4_paid, Cond.initialized RX4, Cond.code yX4_paid cX4_paid 1 (some .int), Cond.fieldLink RX4 118 "PegBox" "paid" "I", Cond.methodLink RL 51 yX4_held, Cond.instanceMethod yX4_held, Cond.selects RX4 yX4_held yX4_held, Cond.code yX4_held cX4_held 1 (some .int), Cond.fieldLink RX4 115 "PegBox" "held" "I", Cond.methodLink RL 54 yX4_returned, Cond.instanceMethod yX4_returned, Cond.selects RX4 yX4_returned yX4_returned, Cond.code yX4_returned cX4_returned 1 (some .int), Cond.fieldLink RX4 178 "PegBox" "returned" "I", Cond.methodLink RL 79 yX4_setOff, Cond.instanceMethod yX4_setOff, Cond.selects RX4 yX4_setOff yX4_setOff, Cond.code yX4_setOff cX4_setOff 1 (some .int), Cond.fieldLink RX4 181 "PegBox" "setOff" "I", Cond.methodLink RL 82 yX4_finalPrice, Cond.instanceMethod yX4_finalPrice, Cond.selects RX4 yX4_finalPrice yX4_finalPrice]
def wsL_isWhole_r2 : List Cond := [Cond.code yX4_finalPrice cX4_finalPrice 1 (some .int), Cond.fieldLink RX4 41 "PegBox" "finalPrice" "I", Cond.methodLink RL 85 yX4_owed, Cond.instanceMethod yX4_owed, Cond.selects RX4 yX4_owed yX4_owed, Cond.code yX4_owed cX4_owed 1 (some .int), Cond.fieldLink RX4 184 "PegBox" "owed" "I", Cond.methodLink RL 73 yX4_outstanding, Cond.instanceMethod yX4_outstanding, Cond.selects RX4 yX4_outstanding yX4_outstanding, Cond.code yX4_outstanding cX4_outstanding 1 (some .int), Cond.methodLink RX4 190 yX4_leftOutstanding, Cond.instanceMethod yX4_leftOutstanding, Cond.selects RX4 yX4_leftOutstanding yX4_leftOutstanding, Cond.code yX4_leftOutstanding cX4_leftOutstanding 1 (some .int), Cond.methodLink RX4 187 yX4_dueInAll, Cond.instanceMethod yX4_dueInAll, Cond.selects RX4 yX4_dueInAll yX4_dueInAll, Cond.code yX4_dueInAll cX4_dueInAll 3 (some .int), Cond.methodLink RX4 193 yX4_dueOfKind, Cond.instanceMethod yX4_dueOfKind, Cond.selects RX4 yX4_dueOfKind yX4_dueOfKind, Cond.code yX4_dueOfKind cX4_dueOfKind 2 (some .int), Cond.fieldLink RX4 19 "PegBox" "kinds" "LPegBox$Kinds;"]
def wsL_isWhole_r3 : List Cond := [Cond.fieldLink RX4 26 "PegBox" "book" "LPegBox$ClaimBook;", Cond.fieldLink RX4 74 "PegBox$Kinds" "leasts" "[I", Cond.methodLink RX4 215 yX0_settledSum, Cond.instanceMethod yX0_settledSum, Cond.selects RX0 yX0_settledSum yX0_settledSum, Cond.initialized RX0, Cond.code yX0_settledSum cX0_settledSum 5 (some .int), Cond.fieldLink RX0 24 "PegBox$ClaimBook" "count" "I", Cond.fieldLink RX0 9 "PegBox$ClaimBook" "kinds" "[I", Cond.fieldLink RX0 21 "PegBox$ClaimBook" "settled" "[I", Cond.methodLink RX4 218 yX3_limit, Cond.instanceMethod yX3_limit, Cond.selects RX3 yX3_limit yX3_limit, Cond.initialized RX3, Cond.code yX3_limit cX3_limit 3 (some .int), Cond.fieldLink RX3 22 "PegBox$Kinds" "caps" "[I", Cond.methodLink RX3 32 Lib.Math.min.name, Cond.static Lib.Math.min.name, Cond.initialized "java/lang/Math", Cond.code Lib.Math.min.name Lib.Math.min.code 2 (some .int), Cond.methodLink RX3 28 yX3_pastBasket, Cond.instanceMethod yX3_pastBasket, Cond.selects RX3 yX3_pastBasket yX3_pastBasket, Cond.code yX3_pastBasket cX3_pastBasket 4 (some .int)]
def wsL_isWhole_r4 : List Cond := [Cond.fieldLink RX3 15 "PegBox$Kinds" "baskets" "[I", Cond.fieldLink RX3 18 "PegBox$Kinds" "wholes" "[Z", Cond.methodLink RL 67 yX4_due, Cond.instanceMethod yX4_due, Cond.selects RX4 yX4_due yX4_due, Cond.code yX4_due cX4_due 1 (some .int), Cond.methodLink RL 88 yX4_dueOf, Cond.instanceMethod yX4_dueOf, Cond.selects RX4 yX4_dueOf yX4_dueOf, Cond.code yX4_dueOf cX4_dueOf 2 (some .int), Cond.methodLink RX4 62 yX4_checkNumber, Cond.static yX4_checkNumber, Cond.code yX4_checkNumber cX4_checkNumber 2 none, Cond.classLink RX4 199 "java/lang/IndexOutOfBoundsException", Cond.initialized "java/lang/IndexOutOfBoundsException"]
def wsL_isWhole : List Cond := .code yL_isWhole cL_isWhole 2 (some .boolean) :: ((wsL_isWhole_r1 ++ (wsL_isWhole_r2 ++ (wsL_isWhole_r3 ++ wsL_isWhole_r4))) ++ wsX40 ++ wsX30 ++ wsX00 ++ (vx_atS RX4 203 "java/lang/IndexOutOfBoundsException" ["java/lang/RuntimeException", "java/lang/Exception"]).filter goodWord)
def wsL_law0_r1 : List Cond := [Cond.classLink RL 20 RX4, Cond.instantiable RX4 14, Cond.initialized RX4, Cond.constant RL 34 (500000), Cond.constant RL 96 (600000), Cond.constant RL 25 (300000), Cond.arrayClass .int, Cond.constant RL 17 (200000), Cond.constant RL 108 (60000), Cond.methodLink RL 91 yX4_init, Cond.instanceMethod yX4_init, Cond.code yX4_init cX4_init 1 none, Cond.methodLink RX4 1 objectInit, Cond.instanceMethod objectInit, Cond.code objectInit ⟨#[0xb1]⟩ 1 none, Cond.classLink RX4 7 RX2, Cond.instantiable RX2 2, Cond.initialized RX2, Cond.fieldLink RX4 10 "PegBox" "escrow" "LPegBox$Escrow;", Cond.classLink RX4 16 RX3, Cond.instantiable RX3 5, Cond.initialized RX3, Cond.fieldLink RX4 19 "PegBox" "kinds" "LPegBox$Kinds;", Cond.classLink RX4 23 RX0]
def wsL_law0_r2 : List Cond := [Cond.instantiable RX0 5, Cond.initialized RX0, Cond.fieldLink RX4 26 "PegBox" "book" "LPegBox$ClaimBook;", Cond.classLink RX4 30 RX1, Cond.instantiable RX1 8, Cond.initialized RX1, Cond.fieldLink RX4 33 "PegBox" "earnOut" "LPegBox$EarnOut;", Cond.fieldLink RX4 37 "PegBox" "day" "I", Cond.fieldLink RX4 41 "PegBox" "finalPrice" "I", Cond.methodLink RX4 9 yX2_init, Cond.instanceMethod yX2_init, Cond.code yX2_init cX2_init 1 none, Cond.methodLink RX2 3 objectInit, Cond.fieldLink RX2 9 "PegBox$Escrow" "amounts" "[I", Cond.fieldLink RX2 15 "PegBox$Escrow" "days" "[I", Cond.methodLink RX4 18 yX3_init, Cond.instanceMethod yX3_init, Cond.code yX3_init cX3_init 1 none, Cond.methodLink RX3 3 objectInit, Cond.fieldLink RX3 9 "PegBox$Kinds" "leasts" "[I", Cond.fieldLink RX3 15 "PegBox$Kinds" "baskets" "[I", Cond.arrayClass .boolean, Cond.fieldLink RX3 18 "PegBox$Kinds" "wholes" "[Z", Cond.fieldLink RX3 22 "PegBox$Kinds" "caps" "[I"]
def wsL_law0_r3 : List Cond := [Cond.fieldLink RX3 25 "PegBox$Kinds" "lastDays" "[I", Cond.methodLink RX4 25 yX0_init, Cond.instanceMethod yX0_init, Cond.code yX0_init cX0_init 1 none, Cond.methodLink RX0 3 objectInit, Cond.fieldLink RX0 9 "PegBox$ClaimBook" "kinds" "[I", Cond.fieldLink RX0 15 "PegBox$ClaimBook" "amounts" "[I", Cond.fieldLink RX0 18 "PegBox$ClaimBook" "offers" "[I", Cond.fieldLink RX0 21 "PegBox$ClaimBook" "settled" "[I", Cond.methodLink RX4 32 yX1_init, Cond.instanceMethod yX1_init, Cond.code yX1_init cX1_init 1 none, Cond.methodLink RX1 3 objectInit, Cond.fieldLink RX1 9 "PegBox$EarnOut" "targets" "[I", Cond.fieldLink RX1 15 "PegBox$EarnOut" "amounts" "[I", Cond.fieldLink RX1 18 "PegBox$EarnOut" "met" "[Z", Cond.methodLink RL 57 yX4_day, Cond.instanceMethod yX4_day, Cond.selects RX4 yX4_day yX4_day, Cond.code yX4_day cX4_day 1 (some .int), Cond.methodLink RL 82 yX4_finalPrice, Cond.instanceMethod yX4_finalPrice, Cond.selects RX4 yX4_finalPrice yX4_finalPrice, Cond.code yX4_finalPrice cX4_finalPrice 1 (some .int)]
def wsL_law0_r4 : List Cond := [Cond.methodLink RL 92 yL_terms, Cond.static yL_terms, Cond.initialized RL, Cond.code yL_terms cL_terms 4 none, Cond.constant RL 15 (3000000), Cond.constant RL 16 (400000), Cond.constant RL 18 (50000), Cond.constant RL 29 (90000), Cond.constant RL 33 (40000), Cond.methodLink RL 9 yL_told, Cond.static yL_told, Cond.code yL_told cL_told 2 (some .int), Cond.constant RL 7 (40009), Cond.constant RL 8 (2147483647), Cond.methodLink RL 19 yX4_setPrice, Cond.instanceMethod yX4_setPrice, Cond.selects RX4 yX4_setPrice yX4_setPrice, Cond.code yX4_setPrice cX4_setPrice 4 none, Cond.constant RX4 44 (10000000), Cond.constant RX4 49 (-10000000), Cond.fieldLink RX4 53 "PegBox" "price" "I", Cond.fieldLink RX4 56 "PegBox" "peg" "I", Cond.fieldLink RX4 59 "PegBox" "collar" "I", Cond.methodLink RX4 45 yX4_checkRange]
def wsL_law0_r5 : List Cond := [Cond.static yX4_checkRange, Cond.code yX4_checkRange cX4_checkRange 3 none, Cond.classLink RX4 204 "java/lang/IllegalArgumentException", Cond.initialized "java/lang/IllegalArgumentException", Cond.methodLink RX4 50 yX4_checkNotClosed, Cond.instanceMethod yX4_checkNotClosed, Cond.selects RX4 yX4_checkNotClosed yX4_checkNotClosed, Cond.code yX4_checkNotClosed cX4_checkNotClosed 1 none, Cond.classLink RX4 124 "java/lang/IllegalStateException", Cond.initialized "java/lang/IllegalStateException", Cond.methodLink RL 26 yX4_setPart, Cond.instanceMethod yX4_setPart, Cond.selects RX4 yX4_setPart yX4_setPart, Cond.code yX4_setPart cX4_setPart 4 none, Cond.fieldLink RX4 66 "PegBox$Escrow" "amounts" "[I", Cond.fieldLink RX4 70 "PegBox$Escrow" "days" "[I", Cond.methodLink RX4 62 yX4_checkNumber, Cond.static yX4_checkNumber, Cond.code yX4_checkNumber cX4_checkNumber 2 none, Cond.classLink RX4 199 "java/lang/IndexOutOfBoundsException", Cond.initialized "java/lang/IndexOutOfBoundsException", Cond.methodLink RL 30 yX4_setYear, Cond.instanceMethod yX4_setYear, Cond.selects RX4 yX4_setYear yX4_setYear]
def wsL_law0_r6 : List Cond := [Cond.code yX4_setYear cX4_setYear 4 none, Cond.fieldLink RX4 90 "PegBox$EarnOut" "targets" "[I", Cond.fieldLink RX4 93 "PegBox$EarnOut" "amounts" "[I", Cond.methodLink RL 35 yX4_setKind, Cond.instanceMethod yX4_setKind, Cond.selects RX4 yX4_setKind yX4_setKind, Cond.code yX4_setKind cX4_setKind 7 none, Cond.constant RX4 73 (100000000), Cond.fieldLink RX4 74 "PegBox$Kinds" "leasts" "[I", Cond.fieldLink RX4 77 "PegBox$Kinds" "baskets" "[I", Cond.fieldLink RX4 80 "PegBox$Kinds" "wholes" "[Z", Cond.fieldLink RX4 84 "PegBox$Kinds" "caps" "[I", Cond.fieldLink RX4 87 "PegBox$Kinds" "lastDays" "[I", Cond.methodLink RL 39 yX4_setCarry, Cond.instanceMethod yX4_setCarry, Cond.selects RX4 yX4_setCarry yX4_setCarry, Cond.code yX4_setCarry cX4_setCarry 2 none, Cond.fieldLink RX4 94 "PegBox$EarnOut" "isCarried" "Z", Cond.methodLink RL 97 yX4_close, Cond.instanceMethod yX4_close, Cond.selects RX4 yX4_close yX4_close, Cond.code yX4_close cX4_close 4 (some .int), Cond.methodLink RX4 102 Lib.Math.max.name, Cond.static Lib.Math.max.name]
def wsL_law0_r7 : List Cond := [Cond.initialized "java/lang/Math", Cond.code Lib.Math.max.name Lib.Math.max.code 2 (some .int), Cond.methodLink RX4 112 Lib.Math.min.name, Cond.static Lib.Math.min.name, Cond.code Lib.Math.min.name Lib.Math.min.code 2 (some .int), Cond.fieldLink RX4 115 "PegBox" "held" "I", Cond.fieldLink RX4 118 "PegBox" "paid" "I", Cond.methodLink RX4 98 yX4_beyondCollar, Cond.instanceMethod yX4_beyondCollar, Cond.selects RX4 yX4_beyondCollar yX4_beyondCollar, Cond.code yX4_beyondCollar cX4_beyondCollar 2 (some .int), Cond.methodLink RX4 108 yX2_total, Cond.instanceMethod yX2_total, Cond.selects RX2 yX2_total yX2_total, Cond.code yX2_total cX2_total 3 (some .int), Cond.methodLink RL 101 yL_isWhole, Cond.static yL_isWhole, Cond.code yL_isWhole cL_isWhole 2 (some .boolean), Cond.methodLink RL 76 yX4_paid, Cond.instanceMethod yX4_paid, Cond.selects RX4 yX4_paid yX4_paid, Cond.code yX4_paid cX4_paid 1 (some .int), Cond.methodLink RL 51 yX4_held, Cond.instanceMethod yX4_held]
def wsL_law0_r8 : List Cond := [Cond.selects RX4 yX4_held yX4_held, Cond.code yX4_held cX4_held 1 (some .int), Cond.methodLink RL 54 yX4_returned, Cond.instanceMethod yX4_returned, Cond.selects RX4 yX4_returned yX4_returned, Cond.code yX4_returned cX4_returned 1 (some .int), Cond.fieldLink RX4 178 "PegBox" "returned" "I", Cond.methodLink RL 79 yX4_setOff, Cond.instanceMethod yX4_setOff, Cond.selects RX4 yX4_setOff yX4_setOff, Cond.code yX4_setOff cX4_setOff 1 (some .int), Cond.fieldLink RX4 181 "PegBox" "setOff" "I", Cond.methodLink RL 85 yX4_owed, Cond.instanceMethod yX4_owed, Cond.selects RX4 yX4_owed yX4_owed, Cond.code yX4_owed cX4_owed 1 (some .int), Cond.fieldLink RX4 184 "PegBox" "owed" "I", Cond.methodLink RL 73 yX4_outstanding, Cond.instanceMethod yX4_outstanding, Cond.selects RX4 yX4_outstanding yX4_outstanding, Cond.code yX4_outstanding cX4_outstanding 1 (some .int), Cond.methodLink RX4 190 yX4_leftOutstanding, Cond.instanceMethod yX4_leftOutstanding, Cond.selects RX4 yX4_leftOutstanding yX4_leftOutstanding]
def wsL_law0_r9 : List Cond := [Cond.code yX4_leftOutstanding cX4_leftOutstanding 1 (some .int), Cond.methodLink RX4 187 yX4_dueInAll, Cond.instanceMethod yX4_dueInAll, Cond.selects RX4 yX4_dueInAll yX4_dueInAll, Cond.code yX4_dueInAll cX4_dueInAll 3 (some .int), Cond.methodLink RX4 193 yX4_dueOfKind, Cond.instanceMethod yX4_dueOfKind, Cond.selects RX4 yX4_dueOfKind yX4_dueOfKind, Cond.code yX4_dueOfKind cX4_dueOfKind 2 (some .int), Cond.methodLink RX4 215 yX0_settledSum, Cond.instanceMethod yX0_settledSum, Cond.selects RX0 yX0_settledSum yX0_settledSum, Cond.code yX0_settledSum cX0_settledSum 5 (some .int), Cond.fieldLink RX0 24 "PegBox$ClaimBook" "count" "I", Cond.methodLink RX4 218 yX3_limit, Cond.instanceMethod yX3_limit, Cond.selects RX3 yX3_limit yX3_limit, Cond.code yX3_limit cX3_limit 3 (some .int), Cond.methodLink RX3 32 Lib.Math.min.name, Cond.methodLink RX3 28 yX3_pastBasket, Cond.instanceMethod yX3_pastBasket, Cond.selects RX3 yX3_pastBasket yX3_pastBasket, Cond.code yX3_pastBasket cX3_pastBasket 4 (some .int), Cond.methodLink RL 67 yX4_due]
def wsL_law0_r10 : List Cond := [Cond.instanceMethod yX4_due, Cond.selects RX4 yX4_due yX4_due, Cond.code yX4_due cX4_due 1 (some .int), Cond.methodLink RL 88 yX4_dueOf, Cond.instanceMethod yX4_dueOf, Cond.selects RX4 yX4_dueOf yX4_dueOf, Cond.code yX4_dueOf cX4_dueOf 2 (some .int), Cond.methodLink RL 43 yX4_claims, Cond.instanceMethod yX4_claims, Cond.selects RX4 yX4_claims yX4_claims, Cond.code yX4_claims cX4_claims 1 (some .int), Cond.fieldLink RX4 136 "PegBox$ClaimBook" "count" "I", Cond.methodLink RL 105 yX4_claim, Cond.instanceMethod yX4_claim, Cond.selects RX4 yX4_claim yX4_claim, Cond.code yX4_claim cX4_claim 4 (some .int), Cond.fieldLink RX4 141 "PegBox$ClaimBook" "kinds" "[I", Cond.fieldLink RX4 143 "PegBox$ClaimBook" "amounts" "[I", Cond.fieldLink RX4 144 "PegBox$ClaimBook" "offers" "[I", Cond.fieldLink RX4 147 "PegBox$ClaimBook" "settled" "[I", Cond.methodLink RX4 121 yX4_checkClosed, Cond.instanceMethod yX4_checkClosed, Cond.selects RX4 yX4_checkClosed yX4_checkClosed, Cond.code yX4_checkClosed cX4_checkClosed 1 none]
def wsL_law0_r11 : List Cond := [Cond.methodLink RL 47 yX4_settledAt, Cond.instanceMethod yX4_settledAt, Cond.selects RX4 yX4_settledAt yX4_settledAt, Cond.code yX4_settledAt cX4_settledAt 2 (some .int), Cond.methodLink RL 109 yX4_report, Cond.instanceMethod yX4_report, Cond.selects RX4 yX4_report yX4_report, Cond.code yX4_report cX4_report 2 (some .int), Cond.fieldLink RX4 159 "PegBox$EarnOut" "isSpedUp" "Z", Cond.fieldLink RX4 164 "PegBox$EarnOut" "told" "I", Cond.methodLink RX4 169 yX1_tell, Cond.instanceMethod yX1_tell, Cond.selects RX1 yX1_tell yX1_tell, Cond.code yX1_tell cX1_tell 3 (some .int), Cond.fieldLink RX1 22 "PegBox$EarnOut" "told" "I", Cond.fieldLink RX1 26 "PegBox$EarnOut" "resultSum" "I", Cond.fieldLink RX1 29 "PegBox$EarnOut" "targetSum" "I", Cond.fieldLink RX1 32 "PegBox$EarnOut" "isCarried" "Z", Cond.methodLink RX1 36 yX1_meet, Cond.instanceMethod yX1_meet, Cond.selects RX1 yX1_meet yX1_meet, Cond.code yX1_meet cX1_meet 5 (some .int), Cond.methodLink RX4 172 yX4_owe, Cond.instanceMethod yX4_owe]
def wsL_law0_r12 : List Cond := [Cond.selects RX4 yX4_owe yX4_owe, Cond.code yX4_owe cX4_owe 3 (some .int), Cond.methodLink RL 112 yX4_speedUp, Cond.instanceMethod yX4_speedUp, Cond.selects RX4 yX4_speedUp yX4_speedUp, Cond.code yX4_speedUp cX4_speedUp 1 (some .int), Cond.methodLink RX4 175 yX1_hasten, Cond.instanceMethod yX1_hasten, Cond.selects RX1 yX1_hasten yX1_hasten, Cond.code yX1_hasten cX1_hasten 1 (some .int), Cond.fieldLink RX1 40 "PegBox$EarnOut" "isSpedUp" "Z", Cond.methodLink RL 115 yX4_isMet, Cond.instanceMethod yX4_isMet, Cond.selects RX4 yX4_isMet yX4_isMet, Cond.code yX4_isMet cX4_isMet 2 (some .boolean), Cond.fieldLink RX4 196 "PegBox$EarnOut" "met" "[Z", Cond.methodLink RL 119 yL_does, Cond.static yL_does, Cond.code yL_does cL_does 11 (some .boolean), Cond.methodLink RL 60 yX4_advance, Cond.instanceMethod yX4_advance, Cond.selects RX4 yX4_advance yX4_advance, Cond.code yX4_advance cX4_advance 2 (some .int), Cond.methodLink RX4 131 yX4_free]
def wsL_law0_r13 : List Cond := [Cond.instanceMethod yX4_free, Cond.selects RX4 yX4_free yX4_free, Cond.code yX4_free cX4_free 2 none, Cond.methodLink RX4 221 yX2_totalAfter, Cond.instanceMethod yX2_totalAfter, Cond.selects RX2 yX2_totalAfter yX2_totalAfter, Cond.code yX2_totalAfter cX2_totalAfter 4 (some .int), Cond.methodLink RX4 224 yX0_openSum, Cond.instanceMethod yX0_openSum, Cond.selects RX0 yX0_openSum yX0_openSum, Cond.code yX0_openSum cX0_openSum 3 (some .int), Cond.methodLink RL 63 yX4_offer, Cond.instanceMethod yX4_offer, Cond.selects RX4 yX4_offer yX4_offer, Cond.code yX4_offer cX4_offer 4 (some .int), Cond.methodLink RX4 150 yX4_checkOpen, Cond.static yX4_checkOpen, Cond.code yX4_checkOpen cX4_checkOpen 1 none, Cond.methodLink RL 70 yX4_decide, Cond.instanceMethod yX4_decide, Cond.selects RX4 yX4_decide yX4_decide, Cond.code yX4_decide cX4_decide 4 (some .int), Cond.methodLink RX4 156 yX4_payOut, Cond.instanceMethod yX4_payOut]
def wsL_law0_r14 : List Cond := [Cond.selects RX4 yX4_payOut yX4_payOut, Cond.code yX4_payOut cX4_payOut 2 (some .int)]
def wsL_law0 : List Cond := (wsL_law0_r1 ++ (wsL_law0_r2 ++ (wsL_law0_r3 ++ (wsL_law0_r4 ++ (wsL_law0_r5 ++ (wsL_law0_r6 ++ (wsL_law0_r7 ++ (wsL_law0_r8 ++ (wsL_law0_r9 ++ (wsL_law0_r10 ++ (wsL_law0_r11 ++ (wsL_law0_r12 ++ (wsL_law0_r13 ++ wsL_law0_r14))))))))))))) ++ wsX40 ++ wsX20 ++ wsX30 ++ wsX00 ++ wsX10 ++ ([] : List Cond)
def wsL_law : List Cond := wsL_law0 ++ (vx_atS RX4 208 "java/lang/IllegalArgumentException" ["java/lang/RuntimeException", "java/lang/Exception"]).filter goodWord ++ (vx_atS RX4 128 "java/lang/IllegalStateException" ["java/lang/RuntimeException", "java/lang/Exception"]).filter goodWord ++ (vx_atS RX4 203 "java/lang/IndexOutOfBoundsException" ["java/lang/RuntimeException", "java/lang/Exception"]).filter goodWord
abbrev vwCl : List vw_C := [(RX0, TX0, 5), (RX1, TX1, 8), (RX2, TX2, 2), (RX3, TX3, 5), (RX4, TX4, 14)]
end
section
abbrev pg_St : Type := (Nat → Int32) × (Nat → Nat → Int32)
abbrev pg_ty (cI cZ : ClassId) : List (ClassId × FieldType) := [(cI, .int), (cZ, .boolean)]
/-- the world of a PegBox: scalars u.1, rows u.2 -/
def pg_wB (cI cZ : ClassId) (a : Nat → Nat) (u : pg_St) : va_W := [(a 0, .inr (4, [.ref (a 1), .ref (a 2), .ref (a 3), .ref (a 4), .int (u.1 0), .int (u.1 1), .int (u.1 2), .int (u.1 3), .int (u.1 4), .int (u.1 5), .int (u.1 6), .int (u.1 7), .int (u.1 8), .int (u.1 9)])), (a 1, .inr (2, [.ref (a 5), .ref (a 6)])), (a 2, .inr (3, [.ref (a 7), .ref (a 8), .ref (a 9), .ref (a 10), .ref (a 11)])), (a 3, .inr (0, [.ref (a 12), .ref (a 13), .ref (a 14), .ref (a 15), .int (u.1 10)])), (a 4, .inr (1, [.ref (a 16), .ref (a 17), .ref (a 18), .int (u.1 11), .int (u.1 12), .int (u.1 13), .int (u.1 14), .int (u.1 15)])), (a 5, .inl (cI, 4, .inl (u.2 0))), (a 6, .inl (cI, 4, .inl (u.2 1))), (a 7, .inl (cI, 3, .inl (u.2 2))), (a 8, .inl (cI, 3, .inl (u.2 3))), (a 9, .inl (cZ, 3, .inl (u.2 4))), (a 10, .inl (cI, 3, .inl (u.2 5))), (a 11, .inl (cI, 3, .inl (u.2 6))), (a 12, .inl (cI, 20, .inl (u.2 7))), (a 13, .inl (cI, 20, .inl (u.2 8))), (a 14, .inl (cI, 20, .inl (u.2 9))), (a 15, .inl (cI, 20, .inl (u.2 10))), (a 16, .inl (cI, 4, .inl (u.2 11))), (a 17, .inl (cI, 4, .inl (u.2 12))), (a 18, .inl (cZ, 4, .inl (u.2 13)))]
/-- the texts of the class's throws -/
def pg_txt : List (Nat × String) := [(201, "there is no such number"), (206, "an argument is out of range"), (209, "the claim is settled"), (211, "the sale is closed"), (213, "the sale is not closed"), (126, "the day would be too late"), (134, "the last day of the kind is past"), (139, "there are as many claims as there can be"), (154, "there is no offer"), (162, "the earn-out was sped up"), (167, "all years were told")]
abbrev pg_ia : String := "java/lang/IllegalArgumentException"
abbrev pg_is : String := "java/lang/IllegalStateException"
abbrev pg_io : String := "java/lang/IndexOutOfBoundsException"
/-- the words of a throw that no list of words holds -/
def pg_nw : List Cond := [.castable pg_ia pg_ia, .castable pg_is pg_is, .castable pg_io pg_io, .declares (Bundle.initS "java/lang/RuntimeException"), .declares (Bundle.initS "java/lang/Exception"), .declares (Bundle.initS "java/lang/Throwable")]
theorem pg_warmD {x : MethodName} {s U : State} (hW : s.WarmedH U.vm) (hZ : va_Nw (.declares x) s) : va_Nw (.declares x) U := va_tabs rfl (rfl : (s.setVm U.vm).vm = U.vm) (by rw [Cond.declares_setVm hW.alike]; exact hZ)
/-- what a throw and its catching need beside the words -/
def pg_Env (A : Nat → Prop) (U : State) (H : Heap) : Prop :=
  vx_Zq Bundle.tN "UNASSIGNED_STACK" Bundle.steD A U H ∧ vx_Zq Bundle.tN "SUPPRESSED_SENTINEL" Bundle.listD A U H ∧
  (∀ w ∈ pg_nw, va_Nw w U) ∧
  (∀ q ∈ [(pg_ia, pg_is), (pg_ia, pg_io), (pg_is, pg_ia), (pg_is, pg_io), (pg_io, pg_ia), (pg_io, pg_is)], va_Nc q.1 q.2 U) ∧
  ∃ f : Nat → Nat, ∀ (i : Nat) (q : Nat × String), pg_txt[i]? = some q → vk_R "PegBox" q.1 q.2 (f i) U
theorem pg_Env.down {A B : Nat → Prop} {s U : State} {H0 H : Heap} {locs : List Loc} (h : pg_Env A s H0) (hW : s.WarmedH U.vm) (hS : va_S A H0 H locs) (hAB : ∀ q, B q → A q) : pg_Env B U H := by
  obtain ⟨h1, h2, h3, h4, f, h5⟩ := h
  refine ⟨vx_Zq.narrow (vx_Zq.moved hW.alike (h1.kept hS.2.1)) hAB, vx_Zq.narrow (vx_Zq.moved hW.alike (h2.kept hS.2.1)) hAB, fun w hw => ?_, fun q hq => va_Nc.moved hW.alike (h4 q hq), f, fun i q hq => vk_R.warm hW (h5 i q hq)⟩
  have h := h3 w hw
  simp only [pg_nw, List.mem_cons, List.not_mem_nil, or_false] at hw
  rcases hw with rfl | rfl | rfl | rfl | rfl | rfl
  · exact va_Nw.warmC hW h
  · exact va_Nw.warmC hW h
  · exact va_Nw.warmC hW h
  · exact pg_warmD hW h
  · exact pg_warmD hW h
  · exact pg_warmD hW h
/-- a method's start over the world ws; 'pg_T': one that may throw -/
def pg_B (D : va_G) (tys : List (ClassId × FieldType)) (ws : va_W) (sz : Nat) (U : State) : Prop := U.heap.size = sz ∧ va_P D vwCl ws U.heap ∧ va_K D vwCl tys U ∧ va_D (fun _ => True) ws
def pg_T (D : va_G) (tys : List (ClassId × FieldType)) (ws : va_W) (sz : Nat) (U : State) : Prop := pg_B D tys ws sz U ∧ pg_Env (va_A ws sz) U U.heap
/-- a method's end -/
def pg_E {S : Type} (D : va_G) (tys : List (ClassId × FieldType)) (A : Nat → Prop) (w : S → va_W) (u : S) (t : State) : Prop := va_P D vwCl (w u) t.heap ∧ va_K D vwCl tys t ∧ va_D A (w u)
/-- thrown: the class nm, the world as it was -/
def pg_X (D : va_G) (ws : va_W) (A : Nat → Prop) (nm : String) : String → State → State → Prop := fun E st t => E = nm ∧ va_P D vwCl ws t.heap ∧ va_F A st t
/-- .. it never returns -/
def pg_No : Array Value → State → Outcome → State → Prop := fun _ _ _ _ => False
theorem pg_B.blind {D : va_G} {tys : List (ClassId × FieldType)} {ws : va_W} {sz : Nat} {As : List Value} : FrameBlind (va_Pc As (pg_B D tys ws sz)) := fun a U g mk q => by
  obtain ⟨q0, q1, qP, qK, qD⟩ := q
  exact ⟨q0, q1, qP, va_K.moved (u := U) (U := U.calling g mk a) (Vm.Alike.refl U.vm) qK, qD⟩
theorem pg_Env.same {A : Nat → Prop} {s U : State} {H : Heap} (h : pg_Env A s H) (hv : s.vm = U.vm) : pg_Env A U H := by
  have hW : s.WarmedH U.vm := by rw [← hv]; exact State.WarmedH.refl s
  exact h.down hW va_S.rf (fun _ q => q)
theorem pg_T.blind {D : va_G} {tys : List (ClassId × FieldType)} {ws : va_W} {sz : Nat} {As : List Value} : FrameBlind (va_Pc As (pg_T D tys ws sz)) := fun a U g mk q => by
  obtain ⟨q0, q1, q2⟩ := q
  obtain ⟨r0, r1⟩ := pg_B.blind (As := As) a U g mk ⟨q0, q1⟩
  exact ⟨r0, r1, pg_Env.same (s := U) (U := U.calling g mk a) q2 rfl⟩
section PGC
variable {p : Program} {l : Launch} {e : Env} {R : Room} {s : State} {m : MethodId} {args : Array Value} {below : List Frame} {meth : Method} {c : Code} {H : Heap} {locs : List Loc} {cells slots : Nat} {Q : State → Prop}
variable {y : MethodName} {bytes cc : ByteArray} {maxL nL n index mc ms : Nat} {ret : Option FieldType} {wy : List Cond} {rm : Room} {Ts : List Cond} {own C : String} {b : Addr} {As rest st0 : List Value}
variable {D : va_G} {tys : List (ClassId × FieldType)} {ws : va_W} {A : Nat → Prop} {H0 : Heap} {pc : Nat} {ls : Array Slot} {nm : String}
theorem pg_up (hD : va_D A ws) (hS : va_S A H0 H locs) (hA : ∀ q, H0.size ≤ q → A q) : ∀ q, va_A ws H.size q → A q := by
  intro q h
  rcases h with ⟨k, e, h⟩ | h
  · exact hD.2 k (q, e) h
  · exact hA q (Nat.le_trans hS.1 h)
theorem pg_pre (hP : va_P D vwCl ws H) (hD : va_D A ws) (hK : va_K D vwCl tys s) {U : State} (hU : U.heap = H) (hW : s.WarmedH U.vm) : pg_B D tys ws H.size U := ⟨by rw [hU], by rw [hU]; exact hP, va_K.moved hW.alike hK, hD.weaken (fun _ _ _ _ => trivial)⟩
/-- a call that returns an int, over the whole world -/
theorem pg_i {S : Type} {post : Int32 → S → Prop} {w : S → va_W} {a : Array Value} (hr : va_Run p l e R s m args below meth c H locs cells slots mc ms (F0 m pc ls st0) rest (va_Qi post (pg_E D tys (va_A ws H.size) w) (va_A ws H.size) a) (va_A ws H.size)) (hD : va_D A ws) (hS : va_S A H0 H locs) (hA : ∀ q, H0.size ≤ q → A q)
    (kk : ∀ (r : Int32) (u : S) (H : Heap) (locs : List Loc), post r u → va_P D vwCl (w u) H → va_D A (w u) → va_S A H0 H locs → W p l e R s m args below meth c H locs (cells + mc) (slots + ms) Q (F0 m (pc + 3) ls (.int r :: rest))) : W p l e R s m args below meth c H locs cells slots Q (F0 m pc ls st0) := by
  have hu := pg_up hD hS hA
  refine va_calli hr hS (fun q _ h => hu q h) hu (fun r u t H1 locs1 ht hvm hw hB hz1 hk1 hS1 => ?_)
  obtain ⟨hP1, hK1, hD1⟩ := hB
  rw [ht] at hP1
  exact kk r u H1 locs1 hw hP1 (hD1.weaken (fun _ q _ h => hu q.1 h)) hS1
theorem pg_v {S : Type} {post : S → Prop} {w : S → va_W} {a : Array Value} (hr : va_Run p l e R s m args below meth c H locs cells slots mc ms (F0 m pc ls st0) rest (va_Qv post (pg_E D tys (va_A ws H.size) w) (va_A ws H.size) a) (va_A ws H.size)) (hD : va_D A ws) (hS : va_S A H0 H locs) (hA : ∀ q, H0.size ≤ q → A q)
    (kk : ∀ (u : S) (H : Heap) (locs : List Loc), post u → va_P D vwCl (w u) H → va_D A (w u) → va_S A H0 H locs → W p l e R s m args below meth c H locs (cells + mc) (slots + ms) Q (F0 m (pc + 3) ls rest)) : W p l e R s m args below meth c H locs cells slots Q (F0 m pc ls st0) := by
  have hu := pg_up hD hS hA
  refine va_callv hr hS (fun q _ h => hu q h) hu (fun u t H1 locs1 ht hvm hw hB hz1 hk1 hS1 => ?_)
  obtain ⟨hP1, hK1, hD1⟩ := hB
  rw [ht] at hP1
  exact kk u H1 locs1 hw hP1 (hD1.weaken (fun _ q _ h => hu q.1 h)) hS1
/-- .. with the answer and the world named -/
theorem pg_iE {S : Type} {F : Int32} {G : S} {w : S → va_W} {a : Array Value} (hr : va_Run p l e R s m args below meth c H locs cells slots mc ms (F0 m pc ls st0) rest (va_Qi (fun r u => r = F ∧ u = G) (pg_E D tys (va_A ws H.size) w) (va_A ws H.size) a) (va_A ws H.size)) (hD : va_D A ws) (hS : va_S A H0 H locs) (hA : ∀ q, H0.size ≤ q → A q)
    (kk : ∀ (H : Heap) (locs : List Loc), va_P D vwCl (w G) H → va_D A (w G) → va_S A H0 H locs → W p l e R s m args below meth c H locs (cells + mc) (slots + ms) Q (F0 m (pc + 3) ls (.int F :: rest))) : W p l e R s m args below meth c H locs cells slots Q (F0 m pc ls st0) :=
  pg_i hr hD hS hA (fun r u H locs hw => by obtain ⟨h1, h2⟩ := hw; rw [h1, h2]; exact kk H locs)
theorem pg_vE {S : Type} {G : S} {w : S → va_W} {a : Array Value} (hr : va_Run p l e R s m args below meth c H locs cells slots mc ms (F0 m pc ls st0) rest (va_Qv (fun u => u = G) (pg_E D tys (va_A ws H.size) w) (va_A ws H.size) a) (va_A ws H.size)) (hD : va_D A ws) (hS : va_S A H0 H locs) (hA : ∀ q, H0.size ≤ q → A q)
    (kk : ∀ (H : Heap) (locs : List Loc), va_P D vwCl (w G) H → va_D A (w G) → va_S A H0 H locs → W p l e R s m args below meth c H locs (cells + mc) (slots + ms) Q (F0 m (pc + 3) ls rest)) : W p l e R s m args below meth c H locs cells slots Q (F0 m pc ls st0) :=
  pg_v hr hD hS hA (fun u H locs hw => by rw [show u = G from hw]; exact kk H locs)
theorem pg_vU {ws1 : va_W} {a : Array Value} (hr : va_Run p l e R s m args below meth c H locs cells slots mc ms (F0 m pc ls st0) rest (va_Qv (fun _ : Unit => True) (pg_E D tys (va_A ws H.size) (fun _ : Unit => ws1)) (va_A ws H.size) a) (va_A ws H.size)) (hD : va_D A ws) (hS : va_S A H0 H locs) (hA : ∀ q, H0.size ≤ q → A q)
    (kk : ∀ (H : Heap) (locs : List Loc), va_P D vwCl ws1 H → va_D A ws1 → va_S A H0 H locs → W p l e R s m args below meth c H locs (cells + mc) (slots + ms) Q (F0 m (pc + 3) ls rest)) : W p l e R s m args below meth c H locs cells slots Q (F0 m pc ls st0) :=
  pg_v hr hD hS hA (fun _ H locs _ => kk H locs)
/-- the two calls' starts -/
theorem pg_rV {Qc : Array Value → State → Outcome → State → Prop} {free : Addr → Prop} (S : CallFix p m c cc nL s args Ts own) (hM : Met l y wy rm (va_Pc (.ref b :: As) (pg_B D tys ws H.size)) Qc mc ms free) (cw : CallW R s args own C index y bytes maxL ret wy rm mc ms n) (hK : va_K D vwCl tys s) (hP : va_P D vwCl ws H) (hD : va_D A ws) (q0 : Nat) {ci : Nat} {cq : vw_C} {fs : List Value} (hc : vwCl[ci]? = some cq) (hC : cq.1 = C) (he : ws[q0]? = some (b, .inr (ci, fs)))
    (hn : As.length = n) (hsize : ls.size = nL) (hst : st0 = As.reverse ++ .ref b :: rest) (hW : (rest.map fun v => v.category).sum ≤ 8) (hdg : decode cc pc = .ok (.invokevirtual index, 3)) (hf : cells + mc ≤ R.cells ∧ slots + ms ≤ R.slots) :
    va_Run p l e R s m args below meth c H locs cells slots mc ms (F0 m pc ls st0) rest (Qc (Value.ref b :: As).toArray) free := by
  subst hC
  exact va_runV S hM cw ⟨pg_B.blind, va_recv hK hP hc he, fun U hU hW => ⟨rfl, pg_pre hP hD hK hU hW⟩⟩ rfl hn hsize hst (lv_room hW) hdg hf
theorem pg_rS {Qc : Array Value → State → Outcome → State → Prop} {free : Addr → Prop} (S : CallFix p m c cc nL s args Ts own) (hM : Met l y wy rm (va_Pc As (pg_B D tys ws H.size)) Qc mc ms free) (cw : CallB R s args own index y bytes maxL ret wy rm mc ms n ∧ (Cond.static y).before args s = true) (hK : va_K D vwCl tys s) (hP : va_P D vwCl ws H) (hD : va_D A ws)
    (hn : As.length = n) (hsize : ls.size = nL) (hst : st0 = As.reverse ++ rest) (hW : (rest.map fun v => v.category).sum ≤ 8) (hdg : decode cc pc = .ok (.invokestatic index, 3)) (hf : cells + mc ≤ R.cells ∧ slots + ms ≤ R.slots) :
    va_Run p l e R s m args below meth c H locs cells slots mc ms (F0 m pc ls st0) rest (Qc As.toArray) free :=
  va_runS S hM cw ⟨pg_B.blind, fun U hU hW => ⟨rfl, pg_pre hP hD hK hU hW⟩⟩ rfl hn hsize hst (lv_room hW) hdg hf
theorem pg_rI {Qc : Array Value → State → Outcome → State → Prop} {free : Addr → Prop} (S : CallFix p m c cc nL s args Ts own) (hM : Met l y wy rm (va_Pc (.ref b :: As) (pg_B D tys ws H.size)) Qc mc ms free) (cw : CallB R s args own index y bytes maxL none wy rm mc ms n ∧ y.name = "<init>" ∧ (Cond.instanceMethod y).before args s = true) (hK : va_K D vwCl tys s) (hP : va_P D vwCl ws H) (hD : va_D A ws)
    (hn : As.length = n) (hsize : ls.size = nL) (hst : st0 = As.reverse ++ .ref b :: rest) (hW : (rest.map fun v => v.category).sum ≤ 8) (hdg : decode cc pc = .ok (.invokespecial index, 3)) (hf : cells + mc ≤ R.cells ∧ slots + ms ≤ R.slots) :
    va_Run p l e R s m args below meth c H locs cells slots mc ms (F0 m pc ls st0) rest (Qc (Value.ref b :: As).toArray) free :=
  va_runI S hM cw ⟨pg_B.blind, fun U hU hW => ⟨rfl, pg_pre hP hD hK hU hW⟩⟩ rfl hn hsize hst (lv_room hW) hdg hf
/-- a call that throws -/
theorem pg_preT (hP : va_P D vwCl ws H) (hD : va_D A ws) (hS : va_S A s.heap H locs) (hA : ∀ q, s.heap.size ≤ q → A q) (hE : pg_Env A s s.heap) (hK : va_K D vwCl tys s) {U : State} (hU : U.heap = H) (hW : s.WarmedH U.vm) : pg_T D tys ws H.size U :=
  ⟨pg_pre hP hD hK hU hW, by rw [hU]; exact hE.down hW hS (pg_up hD hS hA)⟩
theorem pg_xV {free : Addr → Prop} {XC : String → State → State → Prop} (S : CallFix p m c cc nL s args Ts own) (hM : vx_Met l y wy rm (va_Pc (.ref b :: As) (pg_T D tys ws H.size)) pg_No XC mc ms free) (cw : CallW R s args own C index y bytes maxL ret wy rm mc ms n) (hK : va_K D vwCl tys s) (hP : va_P D vwCl ws H) (hD : va_D A ws) (hS : va_S A s.heap H locs) (hA : ∀ q, s.heap.size ≤ q → A q) (hE : pg_Env A s s.heap) (q0 : Nat) {ci : Nat} {cq : vw_C} {fs : List Value} (hc : vwCl[ci]? = some cq) (hC : cq.1 = C) (he : ws[q0]? = some (b, .inr (ci, fs)))
    (hn : As.length = n) (hsize : ls.size = nL) (hst : st0 = As.reverse ++ .ref b :: rest) (hW : (rest.map fun v => v.category).sum ≤ 8) (hdg : decode cc pc = .ok (.invokevirtual index, 3)) (hf : cells + mc ≤ R.cells ∧ slots + ms ≤ R.slots) :
    vx_Run p l e R s m args below meth c H locs cells slots mc ms (F0 m pc ls st0) rest (pg_No (Value.ref b :: As).toArray) XC free := by
  subst hC
  exact vx_runV S hM cw ⟨pg_T.blind, va_recv hK hP hc he, fun U hU hW => ⟨rfl, pg_preT hP hD hS hA hE hK hU hW⟩⟩ rfl hn hsize hst (lv_room hW) hdg hf
theorem pg_xS {free : Addr → Prop} {XC : String → State → State → Prop} (S : CallFix p m c cc nL s args Ts own) (hM : vx_Met l y wy rm (va_Pc As (pg_T D tys ws H.size)) pg_No XC mc ms free) (cw : CallB R s args own index y bytes maxL ret wy rm mc ms n ∧ (Cond.static y).before args s = true) (hK : va_K D vwCl tys s) (hP : va_P D vwCl ws H) (hD : va_D A ws) (hS : va_S A s.heap H locs) (hA : ∀ q, s.heap.size ≤ q → A q) (hE : pg_Env A s s.heap)
    (hn : As.length = n) (hsize : ls.size = nL) (hst : st0 = As.reverse ++ rest) (hW : (rest.map fun v => v.category).sum ≤ 8) (hdg : decode cc pc = .ok (.invokestatic index, 3)) (hf : cells + mc ≤ R.cells ∧ slots + ms ≤ R.slots) :
    vx_Run p l e R s m args below meth c H locs cells slots mc ms (F0 m pc ls st0) rest (pg_No As.toArray) XC free :=
  vx_runS S hM cw ⟨pg_T.blind, fun U hU hW => ⟨rfl, pg_preT hP hD hS hA hE hK hU hW⟩⟩ rfl hn hsize hst (lv_room hW) hdg hf
/-- .. and its throw goes through to the caller -/
theorem pg_thru {Qc : Array Value → State → Outcome → State → Prop} {a : Array Value} {MC MS : Nat} (hr : vx_Run p l e R s m args below meth c H locs cells slots mc ms (F0 m pc ls st0) rest (pg_No a) (pg_X D ws (va_A ws H.size) nm) (va_A ws H.size)) (hD : va_D A ws) (hS : va_S A s.heap H locs) (hA : ∀ q, s.heap.size ≤ q → A q) (hout : ∀ x ∈ c.exceptionTable.toList, False) (hlocks : meth.locks = false) (hc : cells + mc ≤ MC) (hs : slots + ms ≤ MS) :
    W p l e R s m args below meth c H locs cells slots (vx_MQ below Qc (pg_X D ws A nm) args s MC MS A) (F0 m pc ls st0) := by
  intro T hT X
  have hu := pg_up hD hS hA
  rcases hr T hT X with ⟨v, st₀, t, T', L, h0, X', hL, e1, e2, hq, st⟩ | ⟨q, st₀, t, T', L, E, ce, h0, X', hL, e1, e2, ⟨hnm, hP1, hF⟩, hce, hcv, hcl, st⟩
  · exact hq.elim
  · obtain ⟨k1, k2, k3⟩ := vx_keep (A1 := va_A ws H.size) h0 e1 hS (fun q _ h => hu q h) hu hL hF
    obtain ⟨t2, a1, b1⟩ := vx_out (Qc := Qc) (XC := pg_X D ws A nm) (free := A) (mc := MC) (ms := MS) (pc := pc) (ls := ls) (rest := rest) (E := E) (ce := ce) (q := q) (fun x hx => (hout x hx).elim) hlocks (by rw [e1]; exact hce) hcv hcl (fun t' ht' hal => ⟨hnm, by rw [ht', e1]; exact hP1, k3.F ht'⟩) (fun z hz => k3.2.2 z hz) hc hs T' rfl X'
    exact ⟨t2, st.trans a1, b1⟩
/-- .. or is caught here -/
theorem pg_cat {a : Array Value} (hr : vx_Run p l e R s m args below meth c H locs cells slots mc ms (F0 m pc ls st0) rest (pg_No a) (pg_X D ws (va_A ws H.size) nm) (va_A ws H.size)) (hD : va_D A ws) (hS : va_S A H0 H locs) (hA : ∀ q, H0.size ≤ q → A q)
    (kx : ∀ (ce : Cell) (q9 : Addr) (H : Heap) (locs : List Loc), va_P D vwCl ws H → va_S A H0 H locs → H[q9]? = some ce → ce.vm = .none → s.vm.findClass nm = some ce.cls → vx_W p l e R s m args below meth c H locs (cells + mc) (slots + ms) Q (F0 m pc ls rest) q9) : W p l e R s m args below meth c H locs cells slots Q (F0 m pc ls st0) := by
  intro T hT X
  have hu := pg_up hD hS hA
  rcases hr T hT X with ⟨v, st₀, t, T', L, h0, X', hL, e1, e2, hq, st⟩ | ⟨q, st₀, t, T', L, E, ce, h0, X', hL, e1, e2, ⟨hnm, hP1, hF⟩, hce, hcv, hcl, st⟩
  · exact hq.elim
  · subst hnm
    obtain ⟨k1, k2, k3⟩ := vx_keep (A1 := va_A ws H.size) h0 e1 hS (fun q _ h => hu q h) hu hL hF
    obtain ⟨t2, a1, b1⟩ := kx ce q T'.heap (locs ++ L) (by rw [e1]; exact hP1) k3 (by rw [e1]; exact hce) hcv hcl T' rfl X'
    exact ⟨t2, st.trans a1, b1⟩
/-- 'throw new nm(text)' in a method without handlers -/
theorem pg_thr {Qc : Array Value → State → Outcome → State → Prop} {ik is ic i MC MS : Nat} {text : String} (hexec : p.tables.exec = Jvm.exec) (hb : c.code = cc) (hl : l.stackTraces = false) (hown : s.vm.findClass RX4 = some m.cls) (hcls : Bundle.fit nm = true)
    (hk : (Cond.classLink RX4 ik nm).before args s = true) (hini : (Cond.initialized nm).before args s = true) (hi : pg_txt[i]? = some (is, text)) (h1 : ∀ w ∈ (vx_atS RX4 ic nm ["java/lang/RuntimeException", "java/lang/Exception"]).filter goodWord, w.before args s = true)
    (h2 : ∀ w ∈ (vx_atS RX4 ic nm ["java/lang/RuntimeException", "java/lang/Exception"]).filter (fun w => !goodWord w), w ∈ pg_nw)
    (hgood : ∀ w ∈ Cond.classLink RX4 ik nm :: Cond.initialized nm :: vx_atS RX4 ic nm ["java/lang/RuntimeException", "java/lang/Exception"], vx_ot w = true)
    (hE : pg_Env A s s.heap) (hP : va_P D vwCl ws H) (hS : va_S A s.heap H locs) (hA : ∀ q, s.heap.size ≤ q → A q) (hsize : ls.size = c.maxLocals)
    (d0 : decode cc pc = .ok (.new ik, 3)) (d3 : decode cc (pc + 3) = .ok (.dup, 1)) (d4 : decode cc (pc + 4) = .ok (.ldc is, 2)) (d6 : decode cc (pc + 6) = .ok (.invokespecial ic, 3)) (d9 : decode cc (pc + 9) = .ok (.athrow, 1))
    (hout : ∀ x ∈ c.exceptionTable.toList, False) (hRf : 5 < R.frames) (hRl : (rest.map fun v => v.category).sum + 82 ≤ R.locals) (hRc : cells + 1 ≤ R.cells) (hRs : slots + 6 ≤ R.slots) (hlocks : meth.locks = false) (hc : cells + 1 ≤ MC) (hs : slots + 6 ≤ MS) :
    W p l e R s m args below meth c H locs cells slots (vx_MQ below Qc (pg_X D ws A nm) args s MC MS A) (F0 m pc ls rest) := by
  obtain ⟨hU, hN, hca, -, f, hf⟩ := hE
  refine vx_throwS (own := RX4) (names := ["java/lang/RuntimeException", "java/lang/Exception"]) (ik := ik) (ic := ic) (text := text) (sa := f i) (A := A) hexec hb hl hown hcls (by decide +kernel) hk hini (hf i _ hi) (vx_hat h1 h2 (fun w hw => va_Nw.use ?_ (hca w hw))) hgood hU hN hS hsize d0 d3 d4 d6 d9 (fun x hx => (hout x hx).elim) hRf hRl hRc hRs hlocks (fun t hal hz hk => ?_) hS.2.2 hc hs
  · simp only [pg_nw, List.mem_cons, List.not_mem_nil, or_false] at hw
    rcases hw with rfl | rfl | rfl | rfl | rfl | rfl <;> rfl
  · exact ⟨rfl, hP.kept (fun k q hq => hk q.1 (hP k q hq).lt), Nat.le_trans hS.1 hz, fun q h1 h2 => (hk q (Nat.lt_of_lt_of_le h1 hS.1)).trans (hS.2.1 q h1 h2)⟩
end PGC
section PGA
variable {p : Program} {l : Launch} {e : Env} {R : Room} {s : State} {m : MethodId} {args : Array Value} {below : List Frame} {meth : Method} {c : Code} {H : Heap} {locs : List Loc} {cells slots : Nat} {Q : State → Prop}
variable {cc : ByteArray} {pc : Nat} {ls : Array Slot} {rest : List Value} {D : va_G} {cl : List vw_C} {A : Nat → Prop} {a : Nat} {tys : List (ClassId × FieldType)} {ws : va_W} {H0 : Heap}
theorem pg_ild (hexec : p.tables.exec = Jvm.exec) (hb : c.code = cc) (hK : va_K D cl tys s) (hP : va_P D cl ws H) (q0 t0 : Nat) {cA : ClassId} {n j : Nat} {f : Nat → Int32} (ha : ws[q0]? = some (a, .inl (cA, n, .inl f))) (ht : tys[t0]? = some (cA, .int)) (hj : j < n) (hn : n < 2 ^ 31) (hdg : decode cc pc = .ok (.iaload, 1))
    (kk : W p l e R s m args below meth c H locs cells slots Q (F0 m (pc + 1) ls (.int (f j) :: rest))) : W p l e R s m args below meth c H locs cells slots Q (F0 m pc ls (.int (nI j) :: .ref a :: rest)) :=
  va_iald hexec hb hK hP q0 t0 ha ht (vp_in_nI hj hn) hdg (by rw [nI_clamp (Nat.lt_trans hj hn)]; exact kk)
theorem pg_zld (hexec : p.tables.exec = Jvm.exec) (hb : c.code = cc) (hK : va_K D cl tys s) (hP : va_P D cl ws H) (q0 t0 : Nat) {cA : ClassId} {n j : Nat} {f : Nat → Int32} (ha : ws[q0]? = some (a, .inl (cA, n, .inl f))) (ht : tys[t0]? = some (cA, .boolean)) (hj : j < n) (hn : n < 2 ^ 31) (hdg : decode cc pc = .ok (.baload, 1))
    (kk : W p l e R s m args below meth c H locs cells slots Q (F0 m (pc + 1) ls (.int (f j) :: rest))) : W p l e R s m args below meth c H locs cells slots Q (F0 m pc ls (.int (nI j) :: .ref a :: rest)) :=
  va_zald hexec hb hK hP q0 t0 ha ht (vp_in_nI hj hn) hdg (by rw [nI_clamp (Nat.lt_trans hj hn)]; exact kk)
theorem pg_ist (hexec : p.tables.exec = Jvm.exec) (hb : c.code = cc) (hK : va_K D cl tys s) (hP : va_P D cl ws H) (hD : va_D A ws) (hS : va_S A H0 H locs) (q0 t0 : Nat) {cA : ClassId} {n j : Nat} {f : Nat → Int32} (ha : ws[q0]? = some (a, .inl (cA, n, .inl f))) (ht : tys[t0]? = some (cA, .int)) {x : Int32} (hj : j < n) (hn : n < 2 ^ 31) (hdg : decode cc pc = .ok (.iastore, 1))
    (kk : ∀ (H1 : Heap) (locs1 : List Loc), va_P D cl (ws.set q0 (a, .inl (cA, n, .inl (upd f j x)))) H1 → va_D A (ws.set q0 (a, .inl (cA, n, .inl (upd f j x)))) → va_S A H0 H1 locs1 → W p l e R s m args below meth c H1 locs1 cells slots Q (F0 m (pc + 1) ls rest)) : W p l e R s m args below meth c H locs cells slots Q (F0 m pc ls (.int x :: .int (nI j) :: .ref a :: rest)) :=
  va_iast hexec hb hK hP hD hS q0 t0 ha ht (vp_in_nI hj hn) hdg (by rw [nI_clamp (Nat.lt_trans hj hn)]; exact kk)
theorem pg_zst (hexec : p.tables.exec = Jvm.exec) (hb : c.code = cc) (hK : va_K D cl tys s) (hP : va_P D cl ws H) (hD : va_D A ws) (hS : va_S A H0 H locs) (q0 t0 : Nat) {cA : ClassId} {n j : Nat} {f : Nat → Int32} (ha : ws[q0]? = some (a, .inl (cA, n, .inl f))) (ht : tys[t0]? = some (cA, .boolean)) {x : Int32} (hj : j < n) (hn : n < 2 ^ 31) (hx : vp_nar .boolean x = x) (hdg : decode cc pc = .ok (.bastore, 1))
    (kk : ∀ (H1 : Heap) (locs1 : List Loc), va_P D cl (ws.set q0 (a, .inl (cA, n, .inl (upd f j x)))) H1 → va_D A (ws.set q0 (a, .inl (cA, n, .inl (upd f j x)))) → va_S A H0 H1 locs1 → W p l e R s m args below meth c H1 locs1 cells slots Q (F0 m (pc + 1) ls rest)) : W p l e R s m args below meth c H locs cells slots Q (F0 m pc ls (.int x :: .int (nI j) :: .ref a :: rest)) :=
  va_zast hexec hb hK hP hD hS q0 t0 ha ht (vp_in_nI hj hn) hdg (by rw [nI_clamp (Nat.lt_trans hj hn), hx]; exact kk)
end PGA
end
section
theorem pg_a0 (x : Int32) : x + 0 = x := Int32.add_zero x
/-- a sum of the first n -/
def pg_sm (f : Nat → Int32) : Nat → Int32
  | 0 => 0
  | n + 1 => pg_sm f n + f n
theorem pg_sm_cong {f g : Nat → Int32} : ∀ {n : Nat}, (∀ k, k < n → f k = g k) → pg_sm f n = pg_sm g n
  | 0, _ => rfl
  | n + 1, h => by rw [pg_sm, pg_sm, pg_sm_cong (fun k hk => h k (by omega)), h n (by omega)]
/-- in a range -/
def pg_in (x lo hi : Int32) : Bool := !(decide (x < lo)) && decide (x ≤ hi)
/-- a number below a count -/
def pg_nb (x n : Int32) : Bool := !(decide (x < 0)) && decide (x < n)
def pg_le (x y : Int32) : Bool := decide (x ≤ y)
def pg_eq (x y : Int32) : Bool := decide (x = y)
theorem pg_in_t {x lo hi : Int32} (h1 : ¬ x < lo) (h2 : x ≤ hi) : pg_in x lo hi = true := by simp only [pg_in, decide_eq_false h1, decide_eq_true h2]; rfl
theorem pg_in_f1 {x lo hi : Int32} (h1 : x < lo) : pg_in x lo hi = false := by simp only [pg_in, decide_eq_true h1]; rfl
theorem pg_in_f2 {x lo hi : Int32} (h2 : ¬ x ≤ hi) : pg_in x lo hi = false := by simp only [pg_in, decide_eq_false h2, Bool.and_false]
theorem pg_in_e {x lo hi : Int32} (h : pg_in x lo hi = true) : ¬ x < lo ∧ x ≤ hi := by
  simp only [pg_in, Bool.and_eq_true, Bool.not_eq_true', decide_eq_false_iff_not, decide_eq_true_eq] at h
  exact h
theorem pg_nb_t {x n : Int32} (h1 : ¬ x < 0) (h2 : x < n) : pg_nb x n = true := by simp only [pg_nb, decide_eq_false h1, decide_eq_true h2]; rfl
theorem pg_nb_f1 {x n : Int32} (h1 : x < 0) : pg_nb x n = false := by simp only [pg_nb, decide_eq_true h1]; rfl
theorem pg_nb_f2 {x n : Int32} (h2 : ¬ x < n) : pg_nb x n = false := by simp only [pg_nb, decide_eq_false h2, Bool.and_false]
theorem pg_nb_e {x n : Int32} (h : pg_nb x n = true) : ¬ x < 0 ∧ x < n := by
  simp only [pg_nb, Bool.and_eq_true, Bool.not_eq_true', decide_eq_false_iff_not, decide_eq_true_eq] at h
  exact h
theorem pg_le_t {x y : Int32} (h : x ≤ y) : pg_le x y = true := decide_eq_true h
theorem pg_le_f {x y : Int32} (h : ¬ x ≤ y) : pg_le x y = false := decide_eq_false h
theorem pg_eq_t {x y : Int32} (h : x = y) : pg_eq x y = true := decide_eq_true h
theorem pg_eq_f {x y : Int32} (h : ¬ x = y) : pg_eq x y = false := decide_eq_false h
theorem pg_le_e {x y : Int32} (h : pg_le x y = true) : x ≤ y := of_decide_eq_true h
theorem pg_le_n {x y : Int32} (h : pg_le x y = false) : ¬ x ≤ y := of_decide_eq_false h
theorem pg_eq_e {x y : Int32} (h : pg_eq x y = true) : x = y := of_decide_eq_true h
theorem pg_eq_n {x y : Int32} (h : pg_eq x y = false) : ¬ x = y := of_decide_eq_false h
theorem pg_nb_nI {x : Int32} {n : Nat} (hn : n < 2 ^ 31) (h : pg_nb x (nI n) = true) : ∃ j : Nat, j < n ∧ x = nI j := by
  obtain ⟨h1, h2⟩ := pg_nb_e h
  rcases pk_ix x hn with q | q | q
  · exact absurd q h1
  · exact absurd h2 (Int32.not_lt.mpr q)
  · exact q
theorem pg_no {b : Bool} {P : Prop} (h1 : b = true) (h2 : b = false) : P := absurd (h1.symm.trans h2) (by decide)
/-! ## what the sums are -/
/-- parts whose day is later than d -/
def pg_after (r : Nat → Nat → Int32) (d : Int32) : Int32 := pg_sm (fun k => if r 1 k ≤ d then 0 else r 0 k) 4
/-- the open claims' amounts -/
def pg_open (r : Nat → Nat → Int32) (n : Nat) : Int32 := pg_sm (fun k => if r 10 k = -1 then r 8 k else 0) n
/-- what is settled of a kind at its least sum or more -/
def pg_set (r : Nat → Nat → Int32) (n : Nat) (k le : Int32) : Int32 := pg_sm (fun j => if r 7 j = k then (if r 10 j = -1 then 0 else if r 10 j < le then 0 else r 10 j) else 0) n
def pg_past (r : Nat → Nat → Int32) (k : Nat) (s : Int32) : Int32 := if r 4 k = 0 then (if s ≤ r 3 k then 0 else s - r 3 k) else (if s < r 3 k then 0 else s)
def pg_min (x y : Int32) : Int32 := if y < x then y else x
def pg_max (x y : Int32) : Int32 := if x < y then y else x
def pg_due (r : Nat → Nat → Int32) (n : Nat) (k : Nat) : Int32 := pg_min (pg_past r k (pg_set r n (nI k) (r 2 k))) (r 5 k)
def pg_all (r : Nat → Nat → Int32) (n : Nat) : Int32 := pg_sm (pg_due r n) 3
def pg_out (u : pg_St) (n : Nat) : Int32 := pg_all u.2 n - u.1 7 - u.1 8
def pg_kept (u : pg_St) (n : Nat) (d : Int32) : Int32 := pg_after u.2 d + pg_open u.2 n
/-- v with x at place k -/
def pg_free (u : pg_St) (n : Nat) (d : Int32) : pg_St := if u.1 5 ≤ pg_kept u n d then u else (upd (upd u.1 6 (u.1 6 + (u.1 5 - pg_kept u n d))) 5 (pg_kept u n d), u.2)
def pg_back (u : pg_St) (n : Nat) : Int32 := pg_min (pg_out u n) (u.1 5)
def pg_ret (u : pg_St) (n : Nat) : pg_St := (upd (upd u.1 5 (u.1 5 - pg_back u n)) 7 (u.1 7 + pg_back u n), u.2)
def pg_pay (u : pg_St) (n : Nat) (d : Int32) : pg_St := pg_free (pg_ret u n) n d
def pg_row (r : Nat → Nat → Int32) (j : Nat) (f : Nat → Int32) : Nat → Nat → Int32 := fun i => if i = j then f else r i
def pg_owe (u : pg_St) (n : Nat) (x : Int32) : pg_St := (upd (upd (upd u.1 9 (u.1 9 + x)) 8 (u.1 8 + pg_min x (pg_out u n))) 6 (u.1 6 + (x - pg_min x (pg_out u n))), u.2)
/-- the sum of a meeting of the years i to j - 1, and who is met then -/
def pg_msum (r : Nat → Nat → Int32) (i j : Nat) : Int32 := pg_sm (fun k => if k < i then 0 else if r 13 k = 0 then r 12 k else 0) j
def pg_met (r : Nat → Nat → Int32) (i j : Nat) : Nat → Int32 := fun k => if i ≤ k ∧ k < j then (if r 13 k = 0 then 1 else r 13 k) else r 13 k
theorem pg_row_self (r : Nat → Nat → Int32) (j : Nat) : pg_row r j (r j) = r := by
  funext i
  by_cases h : i = j
  · subst h; simp [pg_row]
  · simp [pg_row, h]
theorem pg_row_row (r : Nat → Nat → Int32) (j : Nat) (f g : Nat → Int32) : pg_row (pg_row r j f) j g = pg_row r j g := by
  funext i
  by_cases h : i = j <;> simp [pg_row, h]
theorem pg_met_0 (r : Nat → Nat → Int32) (i : Nat) : pg_met r i i = r 13 := by
  funext k
  simp only [pg_met]
  rw [if_neg (by omega)]
theorem pg_sm_0 {f : Nat → Int32} : ∀ {n : Nat}, (∀ k, k < n → f k = 0) → pg_sm f n = 0
  | 0, _ => rfl
  | n + 1, h => by rw [pg_sm, pg_sm_0 (fun k hk => h k (by omega)), h n (by omega)]; rfl
theorem pg_msum_0 (r : Nat → Nat → Int32) (i : Nat) : pg_msum r i i = 0 := pg_sm_0 (fun k hk => if_pos hk)
theorem pg_met_w {r : Nat → Nat → Int32} {i y : Nat} (h : i ≤ y) (h0 : r 13 y = 0) : upd (pg_met r i y) y 1 = pg_met r i (y + 1) := by
  funext k
  by_cases e : k = y
  · subst e; simp [upd, pg_met, h, h0]
  · simp only [upd, pg_met, if_neg e]
    by_cases g : i ≤ k ∧ k < y
    · rw [if_pos g, if_pos (show i ≤ k ∧ k < y + 1 by omega)]
    · rw [if_neg g, if_neg (show ¬ (i ≤ k ∧ k < y + 1) by omega)]
theorem pg_met_s {r : Nat → Nat → Int32} {i y : Nat} (h0 : ¬ r 13 y = 0) : pg_met r i y = pg_met r i (y + 1) := by
  funext k
  by_cases e : k = y
  · subst e; simp [pg_met, h0]
  · simp only [pg_met]
    by_cases g : i ≤ k ∧ k < y
    · rw [if_pos g, if_pos (show i ≤ k ∧ k < y + 1 by omega)]
    · rw [if_neg g, if_neg (show ¬ (i ≤ k ∧ k < y + 1) by omega)]
theorem pg_met_at {r : Nat → Nat → Int32} {i y : Nat} : pg_met r i y y = r 13 y := by
  simp only [pg_met]
  rw [if_neg (by omega)]
theorem pg_msum_a {r : Nat → Nat → Int32} {i y : Nat} (h : i ≤ y) (h0 : r 13 y = 0) : pg_msum r i y + r 12 y = pg_msum r i (y + 1) := by
  show _ = pg_msum r i y + (if y < i then 0 else if r 13 y = 0 then r 12 y else 0)
  rw [if_neg (by omega), if_pos h0]
theorem pg_msum_b {r : Nat → Nat → Int32} {i y : Nat} (h0 : ¬ r 13 y = 0) : pg_msum r i y = pg_msum r i (y + 1) := by
  show _ = pg_msum r i y + (if y < i then 0 else if r 13 y = 0 then r 12 y else 0)
  by_cases h : y < i
  · rw [if_pos h, pg_a0]
  · rw [if_neg h, if_neg h0, pg_a0]
/-- where a report's meeting begins -/
def pg_tk (u : pg_St) (t : Nat) (x : Int32) : Nat := if u.1 11 = 0 then (if x < u.2 11 t then t + 1 else t) else if u.1 14 + x < u.1 15 + u.2 11 t then (if x < u.2 11 t then t + 1 else t) else 0
def pg_tellr (u : pg_St) (t : Nat) (x : Int32) : Int32 := pg_msum u.2 (pg_tk u t x) (t + 1)
def pg_tell (u : pg_St) (t : Nat) (x : Int32) : pg_St := (upd (upd (upd u.1 13 (nI (t + 1))) 14 (u.1 14 + x)) 15 (u.1 15 + u.2 11 t), pg_row u.2 13 (pg_met u.2 (pg_tk u t x) (t + 1)))
def pg_hasr (u : pg_St) (t : Nat) : Int32 := pg_msum u.2 t 4
def pg_has (u : pg_St) (t : Nat) : pg_St := (upd u.1 12 1, pg_row u.2 13 (pg_met u.2 t 4))
def pg_col (v : Nat → Int32) (d : Int32) : Int32 := if d ≤ v 2 then (if -(v 2) ≤ d then 0 else d + v 2) else d - v 2
theorem pg_stay {i n : Nat} {y : Int32} (hy : y = nI n) (hi : i < 2 ^ 31) (c : ¬ y ≤ nI i) : i < n := Nat.lt_of_not_le fun h => c (by rw [hy]; exact nI_le h hi)
theorem pg_exit {i n : Nat} {y : Int32} (hy : y = nI n) (hn : n < 2 ^ 31) (hi : i ≤ n) (c : y ≤ nI i) : i = n := Nat.le_antisymm hi ((nI_leI hn (Nat.lt_of_le_of_lt hi hn)).mp (by rw [← hy]; exact c))
def pg_fin (u : pg_St) (x y z : Int32) : Int32 := pg_max 0 (u.1 0 + x - y + pg_col u.1 (z - u.1 1))
def pg_hold (u : pg_St) (x y z : Int32) : Int32 := pg_min (pg_sm (u.2 0) 4) (pg_fin u x y z)
def pg_close (u : pg_St) (x y z : Int32) : pg_St := (upd (upd (upd (upd u.1 3 0) 4 (pg_fin u x y z)) 5 (pg_hold u x y z)) 6 (pg_fin u x y z - pg_hold u x y z), u.2)
def pg_claim (u : pg_St) (n : Nat) (k x : Int32) : pg_St := (upd u.1 10 (nI (n + 1)), pg_row (pg_row (pg_row (pg_row u.2 7 (upd (u.2 7) n k)) 8 (upd (u.2 8) n x)) 9 (upd (u.2 9) n (-1))) 10 (upd (u.2 10) n (-1)))
def pg_at (u : pg_St) (c : Nat) (x : Int32) : pg_St := (u.1, pg_row u.2 10 (upd (u.2 10) c x))
/-! ## what is thrown: the place of the exception in the document's list, 0 for none (cl: it is closed) -/
def pg_t_setPrice (cl : Bool) (x y z : Int32) : Int32 := bif pg_in x 0 10000000 then (bif pg_in y (-10000000) 10000000 then (bif pg_in z 0 10000000 then (bif cl then 2 else 0) else 1) else 1) else 1
def pg_t_setPart (cl : Bool) (k x d : Int32) : Int32 := bif pg_nb k 4 then (bif pg_in x 0 10000000 then (bif pg_in d 1 2000 then (bif cl then 3 else 0) else 2) else 2) else 1
def pg_t_setKind (cl : Bool) (k x y z w : Int32) : Int32 := bif pg_nb k 3 then (bif pg_in x 0 10000000 then (bif pg_in y 0 10000000 then (bif pg_in z 0 100000000 then (bif pg_in w 0 2000 then (bif cl then 3 else 0) else 2) else 2) else 2) else 2) else 1
def pg_t_setYear (cl : Bool) (k x d : Int32) : Int32 := bif pg_nb k 4 then (bif pg_in x 0 10000000 then (bif pg_in d 0 10000000 then (bif cl then 3 else 0) else 2) else 2) else 1
def pg_t_setCarry (cl : Bool) : Int32 := bif cl then 1 else 0
def pg_t_close (cl : Bool) (x y z : Int32) : Int32 := bif pg_in x 0 10000000 then (bif pg_in y 0 10000000 then (bif pg_in z (-10000000) 10000000 then (bif cl then 2 else 0) else 1) else 1) else 1
def pg_t_advance (cl : Bool) (d x : Int32) : Int32 := bif pg_in x 1 400 then (bif cl then (bif pg_le (d + x) 4000 then 0 else 2) else 2) else 1
def pg_t_claim (cl : Bool) (d : Int32) (r : Nat → Nat → Int32) (n k x : Int32) : Int32 := bif pg_nb k 3 then (bif pg_in x 1 10000000 then (bif cl then (bif pg_le d (r 6 k.toNatClampNeg) then (bif pg_le 20 n then 3 else 0) else 3) else 3) else 2) else 1
def pg_t_offer (r : Nat → Nat → Int32) (n c x : Int32) : Int32 := bif pg_nb c n then (bif pg_eq (r 10 c.toNatClampNeg) (-1) then (bif pg_in x 0 (r 8 c.toNatClampNeg) then 0 else 3) else 2) else 1
def pg_t_agree (r : Nat → Nat → Int32) (n c : Int32) : Int32 := bif pg_nb c n then (bif pg_eq (r 10 c.toNatClampNeg) (-1) then (bif pg_eq (r 9 c.toNatClampNeg) (-1) then 2 else 0) else 2) else 1
def pg_low (x : Int32) : Int32 := if x = -1 then 0 else x
def pg_t_decide (r : Nat → Nat → Int32) (n c x : Int32) : Int32 := bif pg_nb c n then (bif pg_eq (r 10 c.toNatClampNeg) (-1) then (bif pg_in x (pg_low (r 9 c.toNatClampNeg)) (r 8 c.toNatClampNeg) then 0 else 3) else 2) else 1
def pg_t_report (cl sp : Bool) (t x : Int32) : Int32 := bif pg_in x (-10000000) 10000000 then (bif cl then (bif sp then 2 else (bif pg_le 4 t then 2 else 0)) else 2) else 1
def pg_t_speedUp (cl sp : Bool) : Int32 := bif cl then (bif sp then 1 else 0) else 1
def pg_t_num (k n : Int32) : Int32 := bif pg_nb k n then 0 else 1
end
section
theorem dX0_init_0 : decode cX0_init 0 = .ok (.aload_n 0, 1) := by decide +kernel
theorem dX0_init_1 : decode cX0_init 1 = .ok (.invokespecial 3, 3) := by decide +kernel
theorem dX0_init_4 : decode cX0_init 4 = .ok (.aload_n 0, 1) := by decide +kernel
theorem dX0_init_5 : decode cX0_init 5 = .ok (.bipush 20, 2) := by decide +kernel
theorem dX0_init_7 : decode cX0_init 7 = .ok (.newarray .int, 2) := by decide +kernel
theorem dX0_init_9 : decode cX0_init 9 = .ok (.putfield 9, 3) := by decide +kernel
theorem dX0_init_12 : decode cX0_init 12 = .ok (.aload_n 0, 1) := by decide +kernel
theorem dX0_init_13 : decode cX0_init 13 = .ok (.bipush 20, 2) := by decide +kernel
theorem dX0_init_15 : decode cX0_init 15 = .ok (.newarray .int, 2) := by decide +kernel
theorem dX0_init_17 : decode cX0_init 17 = .ok (.putfield 15, 3) := by decide +kernel
theorem dX0_init_20 : decode cX0_init 20 = .ok (.aload_n 0, 1) := by decide +kernel
theorem dX0_init_21 : decode cX0_init 21 = .ok (.bipush 20, 2) := by decide +kernel
theorem dX0_init_23 : decode cX0_init 23 = .ok (.newarray .int, 2) := by decide +kernel
theorem dX0_init_25 : decode cX0_init 25 = .ok (.putfield 18, 3) := by decide +kernel
theorem dX0_init_28 : decode cX0_init 28 = .ok (.aload_n 0, 1) := by decide +kernel
theorem dX0_init_29 : decode cX0_init 29 = .ok (.bipush 20, 2) := by decide +kernel
theorem dX0_init_31 : decode cX0_init 31 = .ok (.newarray .int, 2) := by decide +kernel
theorem dX0_init_33 : decode cX0_init 33 = .ok (.putfield 21, 3) := by decide +kernel
theorem dX0_init_36 : decode cX0_init 36 = .ok (.return_, 1) := by decide +kernel
theorem dX0_settledSum_0 : decode cX0_settledSum 0 = .ok (.iconst 0, 1) := by decide +kernel
theorem dX0_settledSum_1 : decode cX0_settledSum 1 = .ok (.istore_n 3, 1) := by decide +kernel
theorem dX0_settledSum_2 : decode cX0_settledSum 2 = .ok (.iconst 0, 1) := by decide +kernel
theorem dX0_settledSum_3 : decode cX0_settledSum 3 = .ok (.istore 4, 2) := by decide +kernel
theorem dX0_settledSum_5 : decode cX0_settledSum 5 = .ok (.iload 4, 2) := by decide +kernel
theorem dX0_settledSum_7 : decode cX0_settledSum 7 = .ok (.aload_n 0, 1) := by decide +kernel
theorem dX0_settledSum_8 : decode cX0_settledSum 8 = .ok (.getfield 24, 3) := by decide +kernel
theorem dX0_settledSum_11 : decode cX0_settledSum 11 = .ok (.if_icmp .ge 52, 3) := by decide +kernel
theorem dX0_settledSum_14 : decode cX0_settledSum 14 = .ok (.aload_n 0, 1) := by decide +kernel
theorem dX0_settledSum_15 : decode cX0_settledSum 15 = .ok (.getfield 9, 3) := by decide +kernel
theorem dX0_settledSum_18 : decode cX0_settledSum 18 = .ok (.iload 4, 2) := by decide +kernel
theorem dX0_settledSum_20 : decode cX0_settledSum 20 = .ok (.iaload, 1) := by decide +kernel
theorem dX0_settledSum_21 : decode cX0_settledSum 21 = .ok (.iload_n 1, 1) := by decide +kernel
theorem dX0_settledSum_22 : decode cX0_settledSum 22 = .ok (.if_icmp .ne 35, 3) := by decide +kernel
theorem dX0_settledSum_25 : decode cX0_settledSum 25 = .ok (.aload_n 0, 1) := by decide +kernel
theorem dX0_settledSum_26 : decode cX0_settledSum 26 = .ok (.getfield 21, 3) := by decide +kernel
theorem dX0_settledSum_29 : decode cX0_settledSum 29 = .ok (.iload 4, 2) := by decide +kernel
theorem dX0_settledSum_31 : decode cX0_settledSum 31 = .ok (.iaload, 1) := by decide +kernel
theorem dX0_settledSum_32 : decode cX0_settledSum 32 = .ok (.iconst (-1), 1) := by decide +kernel
theorem dX0_settledSum_33 : decode cX0_settledSum 33 = .ok (.if_icmp .eq 24, 3) := by decide +kernel
theorem dX0_settledSum_36 : decode cX0_settledSum 36 = .ok (.aload_n 0, 1) := by decide +kernel
theorem dX0_settledSum_37 : decode cX0_settledSum 37 = .ok (.getfield 21, 3) := by decide +kernel
theorem dX0_settledSum_40 : decode cX0_settledSum 40 = .ok (.iload 4, 2) := by decide +kernel
theorem dX0_settledSum_42 : decode cX0_settledSum 42 = .ok (.iaload, 1) := by decide +kernel
theorem dX0_settledSum_43 : decode cX0_settledSum 43 = .ok (.iload_n 2, 1) := by decide +kernel
theorem dX0_settledSum_44 : decode cX0_settledSum 44 = .ok (.if_icmp .lt 13, 3) := by decide +kernel
theorem dX0_settledSum_47 : decode cX0_settledSum 47 = .ok (.iload_n 3, 1) := by decide +kernel
theorem dX0_settledSum_48 : decode cX0_settledSum 48 = .ok (.aload_n 0, 1) := by decide +kernel
theorem dX0_settledSum_49 : decode cX0_settledSum 49 = .ok (.getfield 21, 3) := by decide +kernel
theorem dX0_settledSum_52 : decode cX0_settledSum 52 = .ok (.iload 4, 2) := by decide +kernel
theorem dX0_settledSum_54 : decode cX0_settledSum 54 = .ok (.iaload, 1) := by decide +kernel
theorem dX0_settledSum_55 : decode cX0_settledSum 55 = .ok (.iadd, 1) := by decide +kernel
theorem dX0_settledSum_56 : decode cX0_settledSum 56 = .ok (.istore_n 3, 1) := by decide +kernel
theorem dX0_settledSum_57 : decode cX0_settledSum 57 = .ok (.iinc 4 1, 3) := by decide +kernel
theorem dX0_settledSum_60 : decode cX0_settledSum 60 = .ok (.goto (-55), 3) := by decide +kernel
theorem dX0_settledSum_63 : decode cX0_settledSum 63 = .ok (.iload_n 3, 1) := by decide +kernel
theorem dX0_settledSum_64 : decode cX0_settledSum 64 = .ok (.ireturn, 1) := by decide +kernel
theorem dX0_openSum_0 : decode cX0_openSum 0 = .ok (.iconst 0, 1) := by decide +kernel
theorem dX0_openSum_1 : decode cX0_openSum 1 = .ok (.istore_n 1, 1) := by decide +kernel
theorem dX0_openSum_2 : decode cX0_openSum 2 = .ok (.iconst 0, 1) := by decide +kernel
theorem dX0_openSum_3 : decode cX0_openSum 3 = .ok (.istore_n 2, 1) := by decide +kernel
theorem dX0_openSum_4 : decode cX0_openSum 4 = .ok (.iload_n 2, 1) := by decide +kernel
theorem dX0_openSum_5 : decode cX0_openSum 5 = .ok (.aload_n 0, 1) := by decide +kernel
theorem dX0_openSum_6 : decode cX0_openSum 6 = .ok (.getfield 24, 3) := by decide +kernel
theorem dX0_openSum_9 : decode cX0_openSum 9 = .ok (.if_icmp .ge 28, 3) := by decide +kernel
theorem dX0_openSum_12 : decode cX0_openSum 12 = .ok (.aload_n 0, 1) := by decide +kernel
theorem dX0_openSum_13 : decode cX0_openSum 13 = .ok (.getfield 21, 3) := by decide +kernel
theorem dX0_openSum_16 : decode cX0_openSum 16 = .ok (.iload_n 2, 1) := by decide +kernel
theorem dX0_openSum_17 : decode cX0_openSum 17 = .ok (.iaload, 1) := by decide +kernel
theorem dX0_openSum_18 : decode cX0_openSum 18 = .ok (.iconst (-1), 1) := by decide +kernel
theorem dX0_openSum_19 : decode cX0_openSum 19 = .ok (.if_icmp .ne 12, 3) := by decide +kernel
theorem dX0_openSum_22 : decode cX0_openSum 22 = .ok (.iload_n 1, 1) := by decide +kernel
theorem dX0_openSum_23 : decode cX0_openSum 23 = .ok (.aload_n 0, 1) := by decide +kernel
theorem dX0_openSum_24 : decode cX0_openSum 24 = .ok (.getfield 15, 3) := by decide +kernel
theorem dX0_openSum_27 : decode cX0_openSum 27 = .ok (.iload_n 2, 1) := by decide +kernel
theorem dX0_openSum_28 : decode cX0_openSum 28 = .ok (.iaload, 1) := by decide +kernel
theorem dX0_openSum_29 : decode cX0_openSum 29 = .ok (.iadd, 1) := by decide +kernel
theorem dX0_openSum_30 : decode cX0_openSum 30 = .ok (.istore_n 1, 1) := by decide +kernel
theorem dX0_openSum_31 : decode cX0_openSum 31 = .ok (.iinc 2 1, 3) := by decide +kernel
theorem dX0_openSum_34 : decode cX0_openSum 34 = .ok (.goto (-30), 3) := by decide +kernel
theorem dX0_openSum_37 : decode cX0_openSum 37 = .ok (.iload_n 1, 1) := by decide +kernel
theorem dX0_openSum_38 : decode cX0_openSum 38 = .ok (.ireturn, 1) := by decide +kernel
theorem dX1_init_0 : decode cX1_init 0 = .ok (.aload_n 0, 1) := by decide +kernel
theorem dX1_init_1 : decode cX1_init 1 = .ok (.invokespecial 3, 3) := by decide +kernel
theorem dX1_init_4 : decode cX1_init 4 = .ok (.aload_n 0, 1) := by decide +kernel
theorem dX1_init_5 : decode cX1_init 5 = .ok (.iconst 4, 1) := by decide +kernel
theorem dX1_init_6 : decode cX1_init 6 = .ok (.newarray .int, 2) := by decide +kernel
theorem dX1_init_8 : decode cX1_init 8 = .ok (.putfield 9, 3) := by decide +kernel
theorem dX1_init_11 : decode cX1_init 11 = .ok (.aload_n 0, 1) := by decide +kernel
theorem dX1_init_12 : decode cX1_init 12 = .ok (.iconst 4, 1) := by decide +kernel
theorem dX1_init_13 : decode cX1_init 13 = .ok (.newarray .int, 2) := by decide +kernel
theorem dX1_init_15 : decode cX1_init 15 = .ok (.putfield 15, 3) := by decide +kernel
theorem dX1_init_18 : decode cX1_init 18 = .ok (.aload_n 0, 1) := by decide +kernel
theorem dX1_init_19 : decode cX1_init 19 = .ok (.iconst 4, 1) := by decide +kernel
theorem dX1_init_20 : decode cX1_init 20 = .ok (.newarray .boolean, 2) := by decide +kernel
theorem dX1_init_22 : decode cX1_init 22 = .ok (.putfield 18, 3) := by decide +kernel
theorem dX1_init_25 : decode cX1_init 25 = .ok (.return_, 1) := by decide +kernel
set_option maxRecDepth 20000 in
theorem ggX1_tell_X1_meet : GoodIn wsX1_tell wsX1_meet := goodIn_r _ [10, 11, 12, 13, 14, 15, 16, 17, 18, 19, 20] (by decide +kernel) (by decide +kernel)
set_option maxRecDepth 20000 in
theorem gX1_tell_X1_meet : GoodIn wsX1_tell (wsV RX1 36 RX1 yX1_meet wsX1_meet) := goodIn_app (goodIn_of _ (by decide +kernel)) ggX1_tell_X1_meet
theorem dX1_tell_0 : decode cX1_tell 0 = .ok (.aload_n 0, 1) := by decide +kernel
theorem dX1_tell_1 : decode cX1_tell 1 = .ok (.getfield 22, 3) := by decide +kernel
theorem dX1_tell_4 : decode cX1_tell 4 = .ok (.istore_n 2, 1) := by decide +kernel
theorem dX1_tell_5 : decode cX1_tell 5 = .ok (.iload_n 2, 1) := by decide +kernel
theorem dX1_tell_6 : decode cX1_tell 6 = .ok (.iconst 4, 1) := by decide +kernel
theorem dX1_tell_7 : decode cX1_tell 7 = .ok (.if_icmp .lt 5, 3) := by decide +kernel
theorem dX1_tell_10 : decode cX1_tell 10 = .ok (.iconst 0, 1) := by decide +kernel
theorem dX1_tell_11 : decode cX1_tell 11 = .ok (.ireturn, 1) := by decide +kernel
theorem dX1_tell_12 : decode cX1_tell 12 = .ok (.aload_n 0, 1) := by decide +kernel
theorem dX1_tell_13 : decode cX1_tell 13 = .ok (.iload_n 2, 1) := by decide +kernel
theorem dX1_tell_14 : decode cX1_tell 14 = .ok (.iconst 1, 1) := by decide +kernel
theorem dX1_tell_15 : decode cX1_tell 15 = .ok (.iadd, 1) := by decide +kernel
theorem dX1_tell_16 : decode cX1_tell 16 = .ok (.putfield 22, 3) := by decide +kernel
theorem dX1_tell_19 : decode cX1_tell 19 = .ok (.aload_n 0, 1) := by decide +kernel
theorem dX1_tell_20 : decode cX1_tell 20 = .ok (.dup, 1) := by decide +kernel
theorem dX1_tell_21 : decode cX1_tell 21 = .ok (.getfield 26, 3) := by decide +kernel
theorem dX1_tell_24 : decode cX1_tell 24 = .ok (.iload_n 1, 1) := by decide +kernel
theorem dX1_tell_25 : decode cX1_tell 25 = .ok (.iadd, 1) := by decide +kernel
theorem dX1_tell_26 : decode cX1_tell 26 = .ok (.putfield 26, 3) := by decide +kernel
theorem dX1_tell_29 : decode cX1_tell 29 = .ok (.aload_n 0, 1) := by decide +kernel
theorem dX1_tell_30 : decode cX1_tell 30 = .ok (.dup, 1) := by decide +kernel
theorem dX1_tell_31 : decode cX1_tell 31 = .ok (.getfield 29, 3) := by decide +kernel
theorem dX1_tell_34 : decode cX1_tell 34 = .ok (.aload_n 0, 1) := by decide +kernel
theorem dX1_tell_35 : decode cX1_tell 35 = .ok (.getfield 9, 3) := by decide +kernel
theorem dX1_tell_38 : decode cX1_tell 38 = .ok (.iload_n 2, 1) := by decide +kernel
theorem dX1_tell_39 : decode cX1_tell 39 = .ok (.iaload, 1) := by decide +kernel
theorem dX1_tell_40 : decode cX1_tell 40 = .ok (.iadd, 1) := by decide +kernel
theorem dX1_tell_41 : decode cX1_tell 41 = .ok (.putfield 29, 3) := by decide +kernel
theorem dX1_tell_44 : decode cX1_tell 44 = .ok (.aload_n 0, 1) := by decide +kernel
theorem dX1_tell_45 : decode cX1_tell 45 = .ok (.getfield 32, 3) := by decide +kernel
theorem dX1_tell_48 : decode cX1_tell 48 = .ok (.ifCond .eq 24, 3) := by decide +kernel
theorem dX1_tell_51 : decode cX1_tell 51 = .ok (.aload_n 0, 1) := by decide +kernel
theorem dX1_tell_52 : decode cX1_tell 52 = .ok (.getfield 26, 3) := by decide +kernel
theorem dX1_tell_55 : decode cX1_tell 55 = .ok (.aload_n 0, 1) := by decide +kernel
theorem dX1_tell_56 : decode cX1_tell 56 = .ok (.getfield 29, 3) := by decide +kernel
theorem dX1_tell_59 : decode cX1_tell 59 = .ok (.if_icmp .lt 13, 3) := by decide +kernel
theorem dX1_tell_62 : decode cX1_tell 62 = .ok (.aload_n 0, 1) := by decide +kernel
theorem dX1_tell_63 : decode cX1_tell 63 = .ok (.iconst 0, 1) := by decide +kernel
theorem dX1_tell_64 : decode cX1_tell 64 = .ok (.aload_n 0, 1) := by decide +kernel
theorem dX1_tell_65 : decode cX1_tell 65 = .ok (.getfield 22, 3) := by decide +kernel
theorem dX1_tell_68 : decode cX1_tell 68 = .ok (.invokevirtual 36, 3) := by decide +kernel
theorem dX1_tell_71 : decode cX1_tell 71 = .ok (.ireturn, 1) := by decide +kernel
theorem dX1_tell_72 : decode cX1_tell 72 = .ok (.iload_n 1, 1) := by decide +kernel
theorem dX1_tell_73 : decode cX1_tell 73 = .ok (.aload_n 0, 1) := by decide +kernel
theorem dX1_tell_74 : decode cX1_tell 74 = .ok (.getfield 9, 3) := by decide +kernel
theorem dX1_tell_77 : decode cX1_tell 77 = .ok (.iload_n 2, 1) := by decide +kernel
theorem dX1_tell_78 : decode cX1_tell 78 = .ok (.iaload, 1) := by decide +kernel
theorem dX1_tell_79 : decode cX1_tell 79 = .ok (.if_icmp .lt 15, 3) := by decide +kernel
theorem dX1_tell_82 : decode cX1_tell 82 = .ok (.aload_n 0, 1) := by decide +kernel
theorem dX1_tell_83 : decode cX1_tell 83 = .ok (.iload_n 2, 1) := by decide +kernel
theorem dX1_tell_84 : decode cX1_tell 84 = .ok (.aload_n 0, 1) := by decide +kernel
theorem dX1_tell_85 : decode cX1_tell 85 = .ok (.getfield 22, 3) := by decide +kernel
theorem dX1_tell_88 : decode cX1_tell 88 = .ok (.invokevirtual 36, 3) := by decide +kernel
theorem dX1_tell_91 : decode cX1_tell 91 = .ok (.goto 4, 3) := by decide +kernel
theorem dX1_tell_94 : decode cX1_tell 94 = .ok (.iconst 0, 1) := by decide +kernel
theorem dX1_tell_95 : decode cX1_tell 95 = .ok (.ireturn, 1) := by decide +kernel
set_option maxRecDepth 20000 in
theorem ggX1_hasten_X1_meet : GoodIn wsX1_hasten wsX1_meet := goodIn_r _ [7, 8, 9, 10, 11, 12, 13, 14, 15, 16, 17] (by decide +kernel) (by decide +kernel)
set_option maxRecDepth 20000 in
theorem gX1_hasten_X1_meet : GoodIn wsX1_hasten (wsV RX1 36 RX1 yX1_meet wsX1_meet) := goodIn_app (goodIn_of _ (by decide +kernel)) ggX1_hasten_X1_meet
theorem dX1_hasten_0 : decode cX1_hasten 0 = .ok (.aload_n 0, 1) := by decide +kernel
theorem dX1_hasten_1 : decode cX1_hasten 1 = .ok (.iconst 1, 1) := by decide +kernel
theorem dX1_hasten_2 : decode cX1_hasten 2 = .ok (.putfield 40, 3) := by decide +kernel
theorem dX1_hasten_5 : decode cX1_hasten 5 = .ok (.aload_n 0, 1) := by decide +kernel
theorem dX1_hasten_6 : decode cX1_hasten 6 = .ok (.aload_n 0, 1) := by decide +kernel
theorem dX1_hasten_7 : decode cX1_hasten 7 = .ok (.getfield 22, 3) := by decide +kernel
theorem dX1_hasten_10 : decode cX1_hasten 10 = .ok (.iconst 4, 1) := by decide +kernel
theorem dX1_hasten_11 : decode cX1_hasten 11 = .ok (.invokevirtual 36, 3) := by decide +kernel
theorem dX1_hasten_14 : decode cX1_hasten 14 = .ok (.ireturn, 1) := by decide +kernel
theorem dX1_meet_0 : decode cX1_meet 0 = .ok (.iconst 0, 1) := by decide +kernel
theorem dX1_meet_1 : decode cX1_meet 1 = .ok (.istore_n 3, 1) := by decide +kernel
theorem dX1_meet_2 : decode cX1_meet 2 = .ok (.iload_n 1, 1) := by decide +kernel
theorem dX1_meet_3 : decode cX1_meet 3 = .ok (.istore 4, 2) := by decide +kernel
theorem dX1_meet_5 : decode cX1_meet 5 = .ok (.iload 4, 2) := by decide +kernel
theorem dX1_meet_7 : decode cX1_meet 7 = .ok (.iload_n 2, 1) := by decide +kernel
theorem dX1_meet_8 : decode cX1_meet 8 = .ok (.if_icmp .ge 37, 3) := by decide +kernel
theorem dX1_meet_11 : decode cX1_meet 11 = .ok (.aload_n 0, 1) := by decide +kernel
theorem dX1_meet_12 : decode cX1_meet 12 = .ok (.getfield 18, 3) := by decide +kernel
theorem dX1_meet_15 : decode cX1_meet 15 = .ok (.iload 4, 2) := by decide +kernel
theorem dX1_meet_17 : decode cX1_meet 17 = .ok (.baload, 1) := by decide +kernel
theorem dX1_meet_18 : decode cX1_meet 18 = .ok (.ifCond .ne 21, 3) := by decide +kernel
theorem dX1_meet_21 : decode cX1_meet 21 = .ok (.aload_n 0, 1) := by decide +kernel
theorem dX1_meet_22 : decode cX1_meet 22 = .ok (.getfield 18, 3) := by decide +kernel
theorem dX1_meet_25 : decode cX1_meet 25 = .ok (.iload 4, 2) := by decide +kernel
theorem dX1_meet_27 : decode cX1_meet 27 = .ok (.iconst 1, 1) := by decide +kernel
theorem dX1_meet_28 : decode cX1_meet 28 = .ok (.bastore, 1) := by decide +kernel
theorem dX1_meet_29 : decode cX1_meet 29 = .ok (.iload_n 3, 1) := by decide +kernel
theorem dX1_meet_30 : decode cX1_meet 30 = .ok (.aload_n 0, 1) := by decide +kernel
theorem dX1_meet_31 : decode cX1_meet 31 = .ok (.getfield 15, 3) := by decide +kernel
theorem dX1_meet_34 : decode cX1_meet 34 = .ok (.iload 4, 2) := by decide +kernel
theorem dX1_meet_36 : decode cX1_meet 36 = .ok (.iaload, 1) := by decide +kernel
theorem dX1_meet_37 : decode cX1_meet 37 = .ok (.iadd, 1) := by decide +kernel
theorem dX1_meet_38 : decode cX1_meet 38 = .ok (.istore_n 3, 1) := by decide +kernel
theorem dX1_meet_39 : decode cX1_meet 39 = .ok (.iinc 4 1, 3) := by decide +kernel
theorem dX1_meet_42 : decode cX1_meet 42 = .ok (.goto (-37), 3) := by decide +kernel
theorem dX1_meet_45 : decode cX1_meet 45 = .ok (.iload_n 3, 1) := by decide +kernel
theorem dX1_meet_46 : decode cX1_meet 46 = .ok (.ireturn, 1) := by decide +kernel
theorem dX2_init_0 : decode cX2_init 0 = .ok (.aload_n 0, 1) := by decide +kernel
theorem dX2_init_1 : decode cX2_init 1 = .ok (.invokespecial 3, 3) := by decide +kernel
theorem dX2_init_4 : decode cX2_init 4 = .ok (.aload_n 0, 1) := by decide +kernel
theorem dX2_init_5 : decode cX2_init 5 = .ok (.iconst 4, 1) := by decide +kernel
theorem dX2_init_6 : decode cX2_init 6 = .ok (.newarray .int, 2) := by decide +kernel
theorem dX2_init_8 : decode cX2_init 8 = .ok (.putfield 9, 3) := by decide +kernel
theorem dX2_init_11 : decode cX2_init 11 = .ok (.aload_n 0, 1) := by decide +kernel
theorem dX2_init_12 : decode cX2_init 12 = .ok (.iconst 4, 1) := by decide +kernel
theorem dX2_init_13 : decode cX2_init 13 = .ok (.newarray .int, 2) := by decide +kernel
theorem dX2_init_15 : decode cX2_init 15 = .ok (.putfield 15, 3) := by decide +kernel
theorem dX2_init_18 : decode cX2_init 18 = .ok (.return_, 1) := by decide +kernel
theorem dX2_total_0 : decode cX2_total 0 = .ok (.iconst 0, 1) := by decide +kernel
theorem dX2_total_1 : decode cX2_total 1 = .ok (.istore_n 1, 1) := by decide +kernel
theorem dX2_total_2 : decode cX2_total 2 = .ok (.iconst 0, 1) := by decide +kernel
theorem dX2_total_3 : decode cX2_total 3 = .ok (.istore_n 2, 1) := by decide +kernel
theorem dX2_total_4 : decode cX2_total 4 = .ok (.iload_n 2, 1) := by decide +kernel
theorem dX2_total_5 : decode cX2_total 5 = .ok (.iconst 4, 1) := by decide +kernel
theorem dX2_total_6 : decode cX2_total 6 = .ok (.if_icmp .ge 18, 3) := by decide +kernel
theorem dX2_total_9 : decode cX2_total 9 = .ok (.iload_n 1, 1) := by decide +kernel
theorem dX2_total_10 : decode cX2_total 10 = .ok (.aload_n 0, 1) := by decide +kernel
theorem dX2_total_11 : decode cX2_total 11 = .ok (.getfield 9, 3) := by decide +kernel
theorem dX2_total_14 : decode cX2_total 14 = .ok (.iload_n 2, 1) := by decide +kernel
theorem dX2_total_15 : decode cX2_total 15 = .ok (.iaload, 1) := by decide +kernel
theorem dX2_total_16 : decode cX2_total 16 = .ok (.iadd, 1) := by decide +kernel
theorem dX2_total_17 : decode cX2_total 17 = .ok (.istore_n 1, 1) := by decide +kernel
theorem dX2_total_18 : decode cX2_total 18 = .ok (.iinc 2 1, 3) := by decide +kernel
theorem dX2_total_21 : decode cX2_total 21 = .ok (.goto (-17), 3) := by decide +kernel
theorem dX2_total_24 : decode cX2_total 24 = .ok (.iload_n 1, 1) := by decide +kernel
theorem dX2_total_25 : decode cX2_total 25 = .ok (.ireturn, 1) := by decide +kernel
theorem dX2_totalAfter_0 : decode cX2_totalAfter 0 = .ok (.iconst 0, 1) := by decide +kernel
theorem dX2_totalAfter_1 : decode cX2_totalAfter 1 = .ok (.istore_n 2, 1) := by decide +kernel
theorem dX2_totalAfter_2 : decode cX2_totalAfter 2 = .ok (.iconst 0, 1) := by decide +kernel
theorem dX2_totalAfter_3 : decode cX2_totalAfter 3 = .ok (.istore_n 3, 1) := by decide +kernel
theorem dX2_totalAfter_4 : decode cX2_totalAfter 4 = .ok (.iload_n 3, 1) := by decide +kernel
theorem dX2_totalAfter_5 : decode cX2_totalAfter 5 = .ok (.iconst 4, 1) := by decide +kernel
theorem dX2_totalAfter_6 : decode cX2_totalAfter 6 = .ok (.if_icmp .ge 28, 3) := by decide +kernel
theorem dX2_totalAfter_9 : decode cX2_totalAfter 9 = .ok (.aload_n 0, 1) := by decide +kernel
theorem dX2_totalAfter_10 : decode cX2_totalAfter 10 = .ok (.getfield 15, 3) := by decide +kernel
theorem dX2_totalAfter_13 : decode cX2_totalAfter 13 = .ok (.iload_n 3, 1) := by decide +kernel
theorem dX2_totalAfter_14 : decode cX2_totalAfter 14 = .ok (.iaload, 1) := by decide +kernel
theorem dX2_totalAfter_15 : decode cX2_totalAfter 15 = .ok (.iload_n 1, 1) := by decide +kernel
theorem dX2_totalAfter_16 : decode cX2_totalAfter 16 = .ok (.if_icmp .le 12, 3) := by decide +kernel
theorem dX2_totalAfter_19 : decode cX2_totalAfter 19 = .ok (.iload_n 2, 1) := by decide +kernel
theorem dX2_totalAfter_20 : decode cX2_totalAfter 20 = .ok (.aload_n 0, 1) := by decide +kernel
theorem dX2_totalAfter_21 : decode cX2_totalAfter 21 = .ok (.getfield 9, 3) := by decide +kernel
theorem dX2_totalAfter_24 : decode cX2_totalAfter 24 = .ok (.iload_n 3, 1) := by decide +kernel
theorem dX2_totalAfter_25 : decode cX2_totalAfter 25 = .ok (.iaload, 1) := by decide +kernel
theorem dX2_totalAfter_26 : decode cX2_totalAfter 26 = .ok (.iadd, 1) := by decide +kernel
theorem dX2_totalAfter_27 : decode cX2_totalAfter 27 = .ok (.istore_n 2, 1) := by decide +kernel
theorem dX2_totalAfter_28 : decode cX2_totalAfter 28 = .ok (.iinc 3 1, 3) := by decide +kernel
theorem dX2_totalAfter_31 : decode cX2_totalAfter 31 = .ok (.goto (-27), 3) := by decide +kernel
theorem dX2_totalAfter_34 : decode cX2_totalAfter 34 = .ok (.iload_n 2, 1) := by decide +kernel
theorem dX2_totalAfter_35 : decode cX2_totalAfter 35 = .ok (.ireturn, 1) := by decide +kernel
theorem dX3_init_0 : decode cX3_init 0 = .ok (.aload_n 0, 1) := by decide +kernel
theorem dX3_init_1 : decode cX3_init 1 = .ok (.invokespecial 3, 3) := by decide +kernel
theorem dX3_init_4 : decode cX3_init 4 = .ok (.aload_n 0, 1) := by decide +kernel
theorem dX3_init_5 : decode cX3_init 5 = .ok (.iconst 3, 1) := by decide +kernel
theorem dX3_init_6 : decode cX3_init 6 = .ok (.newarray .int, 2) := by decide +kernel
theorem dX3_init_8 : decode cX3_init 8 = .ok (.putfield 9, 3) := by decide +kernel
theorem dX3_init_11 : decode cX3_init 11 = .ok (.aload_n 0, 1) := by decide +kernel
theorem dX3_init_12 : decode cX3_init 12 = .ok (.iconst 3, 1) := by decide +kernel
theorem dX3_init_13 : decode cX3_init 13 = .ok (.newarray .int, 2) := by decide +kernel
theorem dX3_init_15 : decode cX3_init 15 = .ok (.putfield 15, 3) := by decide +kernel
theorem dX3_init_18 : decode cX3_init 18 = .ok (.aload_n 0, 1) := by decide +kernel
theorem dX3_init_19 : decode cX3_init 19 = .ok (.iconst 3, 1) := by decide +kernel
theorem dX3_init_20 : decode cX3_init 20 = .ok (.newarray .boolean, 2) := by decide +kernel
theorem dX3_init_22 : decode cX3_init 22 = .ok (.putfield 18, 3) := by decide +kernel
theorem dX3_init_25 : decode cX3_init 25 = .ok (.aload_n 0, 1) := by decide +kernel
theorem dX3_init_26 : decode cX3_init 26 = .ok (.iconst 3, 1) := by decide +kernel
theorem dX3_init_27 : decode cX3_init 27 = .ok (.newarray .int, 2) := by decide +kernel
theorem dX3_init_29 : decode cX3_init 29 = .ok (.putfield 22, 3) := by decide +kernel
theorem dX3_init_32 : decode cX3_init 32 = .ok (.aload_n 0, 1) := by decide +kernel
theorem dX3_init_33 : decode cX3_init 33 = .ok (.iconst 3, 1) := by decide +kernel
theorem dX3_init_34 : decode cX3_init 34 = .ok (.newarray .int, 2) := by decide +kernel
theorem dX3_init_36 : decode cX3_init 36 = .ok (.putfield 25, 3) := by decide +kernel
theorem dX3_init_39 : decode cX3_init 39 = .ok (.return_, 1) := by decide +kernel
set_option maxRecDepth 20000 in
theorem ggX3_limit_X3_pastBasket : GoodIn wsX3_limit wsX3_pastBasket := goodIn_r _ [10, 11, 12, 13, 14, 15, 16, 17] (by decide +kernel) (by decide +kernel)
set_option maxRecDepth 20000 in
theorem gX3_limit_X3_pastBasket : GoodIn wsX3_limit (wsV RX3 28 RX3 yX3_pastBasket wsX3_pastBasket) := goodIn_app (goodIn_of _ (by decide +kernel)) ggX3_limit_X3_pastBasket
theorem dX3_limit_0 : decode cX3_limit 0 = .ok (.aload_n 0, 1) := by decide +kernel
theorem dX3_limit_1 : decode cX3_limit 1 = .ok (.iload_n 1, 1) := by decide +kernel
theorem dX3_limit_2 : decode cX3_limit 2 = .ok (.iload_n 2, 1) := by decide +kernel
theorem dX3_limit_3 : decode cX3_limit 3 = .ok (.invokevirtual 28, 3) := by decide +kernel
theorem dX3_limit_6 : decode cX3_limit 6 = .ok (.aload_n 0, 1) := by decide +kernel
theorem dX3_limit_7 : decode cX3_limit 7 = .ok (.getfield 22, 3) := by decide +kernel
theorem dX3_limit_10 : decode cX3_limit 10 = .ok (.iload_n 1, 1) := by decide +kernel
theorem dX3_limit_11 : decode cX3_limit 11 = .ok (.iaload, 1) := by decide +kernel
theorem dX3_limit_12 : decode cX3_limit 12 = .ok (.invokestatic 32, 3) := by decide +kernel
theorem dX3_limit_15 : decode cX3_limit 15 = .ok (.ireturn, 1) := by decide +kernel
theorem dX3_pastBasket_0 : decode cX3_pastBasket 0 = .ok (.aload_n 0, 1) := by decide +kernel
theorem dX3_pastBasket_1 : decode cX3_pastBasket 1 = .ok (.getfield 15, 3) := by decide +kernel
theorem dX3_pastBasket_4 : decode cX3_pastBasket 4 = .ok (.iload_n 1, 1) := by decide +kernel
theorem dX3_pastBasket_5 : decode cX3_pastBasket 5 = .ok (.iaload, 1) := by decide +kernel
theorem dX3_pastBasket_6 : decode cX3_pastBasket 6 = .ok (.istore_n 3, 1) := by decide +kernel
theorem dX3_pastBasket_7 : decode cX3_pastBasket 7 = .ok (.aload_n 0, 1) := by decide +kernel
theorem dX3_pastBasket_8 : decode cX3_pastBasket 8 = .ok (.getfield 18, 3) := by decide +kernel
theorem dX3_pastBasket_11 : decode cX3_pastBasket 11 = .ok (.iload_n 1, 1) := by decide +kernel
theorem dX3_pastBasket_12 : decode cX3_pastBasket 12 = .ok (.baload, 1) := by decide +kernel
theorem dX3_pastBasket_13 : decode cX3_pastBasket 13 = .ok (.ifCond .eq 14, 3) := by decide +kernel
theorem dX3_pastBasket_16 : decode cX3_pastBasket 16 = .ok (.iload_n 2, 1) := by decide +kernel
theorem dX3_pastBasket_17 : decode cX3_pastBasket 17 = .ok (.iload_n 3, 1) := by decide +kernel
theorem dX3_pastBasket_18 : decode cX3_pastBasket 18 = .ok (.if_icmp .lt 7, 3) := by decide +kernel
theorem dX3_pastBasket_21 : decode cX3_pastBasket 21 = .ok (.iload_n 2, 1) := by decide +kernel
theorem dX3_pastBasket_22 : decode cX3_pastBasket 22 = .ok (.goto 4, 3) := by decide +kernel
theorem dX3_pastBasket_25 : decode cX3_pastBasket 25 = .ok (.iconst 0, 1) := by decide +kernel
theorem dX3_pastBasket_26 : decode cX3_pastBasket 26 = .ok (.ireturn, 1) := by decide +kernel
theorem dX3_pastBasket_27 : decode cX3_pastBasket 27 = .ok (.iload_n 2, 1) := by decide +kernel
theorem dX3_pastBasket_28 : decode cX3_pastBasket 28 = .ok (.iload_n 3, 1) := by decide +kernel
theorem dX3_pastBasket_29 : decode cX3_pastBasket 29 = .ok (.if_icmp .le 9, 3) := by decide +kernel
theorem dX3_pastBasket_32 : decode cX3_pastBasket 32 = .ok (.iload_n 2, 1) := by decide +kernel
theorem dX3_pastBasket_33 : decode cX3_pastBasket 33 = .ok (.iload_n 3, 1) := by decide +kernel
theorem dX3_pastBasket_34 : decode cX3_pastBasket 34 = .ok (.isub, 1) := by decide +kernel
theorem dX3_pastBasket_35 : decode cX3_pastBasket 35 = .ok (.goto 4, 3) := by decide +kernel
theorem dX3_pastBasket_38 : decode cX3_pastBasket 38 = .ok (.iconst 0, 1) := by decide +kernel
theorem dX3_pastBasket_39 : decode cX3_pastBasket 39 = .ok (.ireturn, 1) := by decide +kernel
set_option maxRecDepth 20000 in
theorem ggX4_init_X2_init : GoodIn wsX4_init wsX2_init := goodIn_r _ [24, 25, 2, 3, 26, 27, 28, 54, 55] (by decide +kernel) (by decide +kernel)
set_option maxRecDepth 20000 in
theorem gX4_init_X2_init : GoodIn wsX4_init (wsX2_init) := ggX4_init_X2_init
set_option maxRecDepth 20000 in
theorem ggX4_init_X3_init : GoodIn wsX4_init wsX3_init := goodIn_r _ [31, 32, 2, 3, 26, 33, 34, 35, 36, 37, 38, 70, 71, 72, 73, 74] (by decide +kernel) (by decide +kernel)
set_option maxRecDepth 20000 in
theorem gX4_init_X3_init : GoodIn wsX4_init (wsX3_init) := ggX4_init_X3_init
set_option maxRecDepth 20000 in
theorem ggX4_init_X0_init : GoodIn wsX4_init wsX0_init := goodIn_r _ [41, 42, 2, 3, 26, 43, 44, 45, 46, 75, 76, 77, 78, 79] (by decide +kernel) (by decide +kernel)
set_option maxRecDepth 20000 in
theorem gX4_init_X0_init : GoodIn wsX4_init (wsX0_init) := ggX4_init_X0_init
set_option maxRecDepth 20000 in
theorem ggX4_init_X1_init : GoodIn wsX4_init wsX1_init := goodIn_r _ [49, 50, 2, 3, 26, 51, 52, 35, 53, 80, 81, 82, 83, 84, 85, 86, 87] (by decide +kernel) (by decide +kernel)
set_option maxRecDepth 20000 in
theorem gX4_init_X1_init : GoodIn wsX4_init (wsX1_init) := ggX4_init_X1_init
theorem dX4_init_0 : decode cX4_init 0 = .ok (.aload_n 0, 1) := by decide +kernel
theorem dX4_init_1 : decode cX4_init 1 = .ok (.invokespecial 1, 3) := by decide +kernel
theorem dX4_init_4 : decode cX4_init 4 = .ok (.aload_n 0, 1) := by decide +kernel
theorem dX4_init_5 : decode cX4_init 5 = .ok (.new 7, 3) := by decide +kernel
theorem dX4_init_8 : decode cX4_init 8 = .ok (.dup, 1) := by decide +kernel
theorem dX4_init_9 : decode cX4_init 9 = .ok (.invokespecial 9, 3) := by decide +kernel
theorem dX4_init_12 : decode cX4_init 12 = .ok (.putfield 10, 3) := by decide +kernel
theorem dX4_init_15 : decode cX4_init 15 = .ok (.aload_n 0, 1) := by decide +kernel
theorem dX4_init_16 : decode cX4_init 16 = .ok (.new 16, 3) := by decide +kernel
theorem dX4_init_19 : decode cX4_init 19 = .ok (.dup, 1) := by decide +kernel
theorem dX4_init_20 : decode cX4_init 20 = .ok (.invokespecial 18, 3) := by decide +kernel
theorem dX4_init_23 : decode cX4_init 23 = .ok (.putfield 19, 3) := by decide +kernel
theorem dX4_init_26 : decode cX4_init 26 = .ok (.aload_n 0, 1) := by decide +kernel
theorem dX4_init_27 : decode cX4_init 27 = .ok (.new 23, 3) := by decide +kernel
theorem dX4_init_30 : decode cX4_init 30 = .ok (.dup, 1) := by decide +kernel
theorem dX4_init_31 : decode cX4_init 31 = .ok (.invokespecial 25, 3) := by decide +kernel
theorem dX4_init_34 : decode cX4_init 34 = .ok (.putfield 26, 3) := by decide +kernel
theorem dX4_init_37 : decode cX4_init 37 = .ok (.aload_n 0, 1) := by decide +kernel
theorem dX4_init_38 : decode cX4_init 38 = .ok (.new 30, 3) := by decide +kernel
theorem dX4_init_41 : decode cX4_init 41 = .ok (.dup, 1) := by decide +kernel
theorem dX4_init_42 : decode cX4_init 42 = .ok (.invokespecial 32, 3) := by decide +kernel
theorem dX4_init_45 : decode cX4_init 45 = .ok (.putfield 33, 3) := by decide +kernel
theorem dX4_init_48 : decode cX4_init 48 = .ok (.aload_n 0, 1) := by decide +kernel
theorem dX4_init_49 : decode cX4_init 49 = .ok (.iconst (-1), 1) := by decide +kernel
theorem dX4_init_50 : decode cX4_init 50 = .ok (.putfield 37, 3) := by decide +kernel
theorem dX4_init_53 : decode cX4_init 53 = .ok (.aload_n 0, 1) := by decide +kernel
theorem dX4_init_54 : decode cX4_init 54 = .ok (.iconst (-1), 1) := by decide +kernel
theorem dX4_init_55 : decode cX4_init 55 = .ok (.putfield 41, 3) := by decide +kernel
theorem dX4_init_58 : decode cX4_init 58 = .ok (.return_, 1) := by decide +kernel
set_option maxRecDepth 20000 in
theorem ggX4_setPrice_X4_checkRange : GoodIn wsX4_setPrice wsX4_checkRange := goodIn_ca (goodIn_r _ [9, 10, 11] (by decide +kernel) (by decide +kernel)) (goodIn_sub (fun _ h => List.mem_cons_of_mem _ (List.mem_append_left _ (List.mem_append_right _ h))) (by decide +kernel))
set_option maxRecDepth 20000 in
theorem gX4_setPrice_X4_checkRange : GoodIn wsX4_setPrice (va_wsS RX4 45 yX4_checkRange wsX4_checkRange) := goodIn_app (goodIn_of _ (by decide +kernel)) ggX4_setPrice_X4_checkRange
set_option maxRecDepth 20000 in
theorem ggX4_setPrice_X4_checkNotClosed : GoodIn wsX4_setPrice wsX4_checkNotClosed := goodIn_ca (goodIn_r _ [15, 16, 17, 18, 19, 20, 21, 22, 23, 24, 25, 26, 27, 28, 29, 30, 31, 32] (by decide +kernel) (by decide +kernel)) (goodIn_sub (fun _ h => List.mem_cons_of_mem _ (List.mem_append_right _ h)) (by decide +kernel))
set_option maxRecDepth 20000 in
theorem gX4_setPrice_X4_checkNotClosed : GoodIn wsX4_setPrice (wsV RX4 50 RX4 yX4_checkNotClosed wsX4_checkNotClosed) := goodIn_app (goodIn_of _ (by decide +kernel)) ggX4_setPrice_X4_checkNotClosed
theorem dX4_setPrice_0 : decode cX4_setPrice 0 = .ok (.iload_n 1, 1) := by decide +kernel
theorem dX4_setPrice_1 : decode cX4_setPrice 1 = .ok (.iconst 0, 1) := by decide +kernel
theorem dX4_setPrice_2 : decode cX4_setPrice 2 = .ok (.ldc 44, 2) := by decide +kernel
theorem dX4_setPrice_4 : decode cX4_setPrice 4 = .ok (.invokestatic 45, 3) := by decide +kernel
theorem dX4_setPrice_7 : decode cX4_setPrice 7 = .ok (.iload_n 2, 1) := by decide +kernel
theorem dX4_setPrice_8 : decode cX4_setPrice 8 = .ok (.ldc 49, 2) := by decide +kernel
theorem dX4_setPrice_10 : decode cX4_setPrice 10 = .ok (.ldc 44, 2) := by decide +kernel
theorem dX4_setPrice_12 : decode cX4_setPrice 12 = .ok (.invokestatic 45, 3) := by decide +kernel
theorem dX4_setPrice_15 : decode cX4_setPrice 15 = .ok (.iload_n 3, 1) := by decide +kernel
theorem dX4_setPrice_16 : decode cX4_setPrice 16 = .ok (.iconst 0, 1) := by decide +kernel
theorem dX4_setPrice_17 : decode cX4_setPrice 17 = .ok (.ldc 44, 2) := by decide +kernel
theorem dX4_setPrice_19 : decode cX4_setPrice 19 = .ok (.invokestatic 45, 3) := by decide +kernel
theorem dX4_setPrice_22 : decode cX4_setPrice 22 = .ok (.aload_n 0, 1) := by decide +kernel
theorem dX4_setPrice_23 : decode cX4_setPrice 23 = .ok (.invokevirtual 50, 3) := by decide +kernel
theorem dX4_setPrice_26 : decode cX4_setPrice 26 = .ok (.aload_n 0, 1) := by decide +kernel
theorem dX4_setPrice_27 : decode cX4_setPrice 27 = .ok (.iload_n 1, 1) := by decide +kernel
theorem dX4_setPrice_28 : decode cX4_setPrice 28 = .ok (.putfield 53, 3) := by decide +kernel
theorem dX4_setPrice_31 : decode cX4_setPrice 31 = .ok (.aload_n 0, 1) := by decide +kernel
theorem dX4_setPrice_32 : decode cX4_setPrice 32 = .ok (.iload_n 2, 1) := by decide +kernel
theorem dX4_setPrice_33 : decode cX4_setPrice 33 = .ok (.putfield 56, 3) := by decide +kernel
theorem dX4_setPrice_36 : decode cX4_setPrice 36 = .ok (.aload_n 0, 1) := by decide +kernel
theorem dX4_setPrice_37 : decode cX4_setPrice 37 = .ok (.iload_n 3, 1) := by decide +kernel
theorem dX4_setPrice_38 : decode cX4_setPrice 38 = .ok (.putfield 59, 3) := by decide +kernel
theorem dX4_setPrice_41 : decode cX4_setPrice 41 = .ok (.return_, 1) := by decide +kernel
set_option maxRecDepth 20000 in
theorem ggX4_setPart_X4_checkNumber : GoodIn wsX4_setPart wsX4_checkNumber := goodIn_ca (goodIn_r _ [8, 9, 10] (by decide +kernel) (by decide +kernel)) (goodIn_sub (fun _ h => List.mem_cons_of_mem _ (List.mem_append_left _ (List.mem_append_left _ (List.mem_append_right _ h)))) (by decide +kernel))
set_option maxRecDepth 20000 in
theorem gX4_setPart_X4_checkNumber : GoodIn wsX4_setPart (va_wsS RX4 62 yX4_checkNumber wsX4_checkNumber) := goodIn_app (goodIn_of _ (by decide +kernel)) ggX4_setPart_X4_checkNumber
set_option maxRecDepth 20000 in
theorem ggX4_setPart_X4_checkRange : GoodIn wsX4_setPart wsX4_checkRange := goodIn_ca (goodIn_r _ [13, 14, 15] (by decide +kernel) (by decide +kernel)) (goodIn_sub (fun _ h => List.mem_cons_of_mem _ (List.mem_append_left _ (List.mem_append_right _ h))) (by decide +kernel))
set_option maxRecDepth 20000 in
theorem gX4_setPart_X4_checkRange : GoodIn wsX4_setPart (va_wsS RX4 45 yX4_checkRange wsX4_checkRange) := goodIn_app (goodIn_of _ (by decide +kernel)) ggX4_setPart_X4_checkRange
set_option maxRecDepth 20000 in
theorem ggX4_setPart_X4_checkNotClosed : GoodIn wsX4_setPart wsX4_checkNotClosed := goodIn_ca (goodIn_r _ [19, 20, 21, 22, 23, 24, 25, 26, 27, 28, 29, 30, 31, 32, 33, 34, 35, 36] (by decide +kernel) (by decide +kernel)) (goodIn_sub (fun _ h => List.mem_cons_of_mem _ (List.mem_append_right _ h)) (by decide +kernel))
set_option maxRecDepth 20000 in
theorem gX4_setPart_X4_checkNotClosed : GoodIn wsX4_setPart (wsV RX4 50 RX4 yX4_checkNotClosed wsX4_checkNotClosed) := goodIn_app (goodIn_of _ (by decide +kernel)) ggX4_setPart_X4_checkNotClosed
theorem dX4_setPart_0 : decode cX4_setPart 0 = .ok (.iload_n 1, 1) := by decide +kernel
theorem dX4_setPart_1 : decode cX4_setPart 1 = .ok (.iconst 4, 1) := by decide +kernel
theorem dX4_setPart_2 : decode cX4_setPart 2 = .ok (.invokestatic 62, 3) := by decide +kernel
theorem dX4_setPart_5 : decode cX4_setPart 5 = .ok (.iload_n 2, 1) := by decide +kernel
theorem dX4_setPart_6 : decode cX4_setPart 6 = .ok (.iconst 0, 1) := by decide +kernel
theorem dX4_setPart_7 : decode cX4_setPart 7 = .ok (.ldc 44, 2) := by decide +kernel
theorem dX4_setPart_9 : decode cX4_setPart 9 = .ok (.invokestatic 45, 3) := by decide +kernel
theorem dX4_setPart_12 : decode cX4_setPart 12 = .ok (.iload_n 3, 1) := by decide +kernel
theorem dX4_setPart_13 : decode cX4_setPart 13 = .ok (.iconst 1, 1) := by decide +kernel
theorem dX4_setPart_14 : decode cX4_setPart 14 = .ok (.sipush 2000, 3) := by decide +kernel
theorem dX4_setPart_17 : decode cX4_setPart 17 = .ok (.invokestatic 45, 3) := by decide +kernel
theorem dX4_setPart_20 : decode cX4_setPart 20 = .ok (.aload_n 0, 1) := by decide +kernel
theorem dX4_setPart_21 : decode cX4_setPart 21 = .ok (.invokevirtual 50, 3) := by decide +kernel
theorem dX4_setPart_24 : decode cX4_setPart 24 = .ok (.aload_n 0, 1) := by decide +kernel
theorem dX4_setPart_25 : decode cX4_setPart 25 = .ok (.getfield 10, 3) := by decide +kernel
theorem dX4_setPart_28 : decode cX4_setPart 28 = .ok (.getfield 66, 3) := by decide +kernel
theorem dX4_setPart_31 : decode cX4_setPart 31 = .ok (.iload_n 1, 1) := by decide +kernel
theorem dX4_setPart_32 : decode cX4_setPart 32 = .ok (.iload_n 2, 1) := by decide +kernel
theorem dX4_setPart_33 : decode cX4_setPart 33 = .ok (.iastore, 1) := by decide +kernel
theorem dX4_setPart_34 : decode cX4_setPart 34 = .ok (.aload_n 0, 1) := by decide +kernel
theorem dX4_setPart_35 : decode cX4_setPart 35 = .ok (.getfield 10, 3) := by decide +kernel
theorem dX4_setPart_38 : decode cX4_setPart 38 = .ok (.getfield 70, 3) := by decide +kernel
theorem dX4_setPart_41 : decode cX4_setPart 41 = .ok (.iload_n 1, 1) := by decide +kernel
theorem dX4_setPart_42 : decode cX4_setPart 42 = .ok (.iload_n 3, 1) := by decide +kernel
theorem dX4_setPart_43 : decode cX4_setPart 43 = .ok (.iastore, 1) := by decide +kernel
theorem dX4_setPart_44 : decode cX4_setPart 44 = .ok (.return_, 1) := by decide +kernel
set_option maxRecDepth 20000 in
theorem ggX4_setKind_X4_checkNumber : GoodIn wsX4_setKind wsX4_checkNumber := goodIn_ca (goodIn_r _ [12, 13, 14] (by decide +kernel) (by decide +kernel)) (goodIn_sub (fun _ h => List.mem_cons_of_mem _ (List.mem_append_left _ (List.mem_append_left _ (List.mem_append_right _ h)))) (by decide +kernel))
set_option maxRecDepth 20000 in
theorem gX4_setKind_X4_checkNumber : GoodIn wsX4_setKind (va_wsS RX4 62 yX4_checkNumber wsX4_checkNumber) := goodIn_app (goodIn_of _ (by decide +kernel)) ggX4_setKind_X4_checkNumber
set_option maxRecDepth 20000 in
theorem ggX4_setKind_X4_checkRange : GoodIn wsX4_setKind wsX4_checkRange := goodIn_ca (goodIn_r _ [17, 18, 19] (by decide +kernel) (by decide +kernel)) (goodIn_sub (fun _ h => List.mem_cons_of_mem _ (List.mem_append_left _ (List.mem_append_right _ h))) (by decide +kernel))
set_option maxRecDepth 20000 in
theorem gX4_setKind_X4_checkRange : GoodIn wsX4_setKind (va_wsS RX4 45 yX4_checkRange wsX4_checkRange) := goodIn_app (goodIn_of _ (by decide +kernel)) ggX4_setKind_X4_checkRange
set_option maxRecDepth 20000 in
theorem ggX4_setKind_X4_checkNotClosed : GoodIn wsX4_setKind wsX4_checkNotClosed := goodIn_ca (goodIn_r _ [23, 24, 25, 26, 27, 28, 29, 30, 31, 32, 33, 34, 35, 36, 37, 38, 39, 40] (by decide +kernel) (by decide +kernel)) (goodIn_sub (fun _ h => List.mem_cons_of_mem _ (List.mem_append_right _ h)) (by decide +kernel))
set_option maxRecDepth 20000 in
theorem gX4_setKind_X4_checkNotClosed : GoodIn wsX4_setKind (wsV RX4 50 RX4 yX4_checkNotClosed wsX4_checkNotClosed) := goodIn_app (goodIn_of _ (by decide +kernel)) ggX4_setKind_X4_checkNotClosed
theorem dX4_setKind_0 : decode cX4_setKind 0 = .ok (.iload_n 1, 1) := by decide +kernel
theorem dX4_setKind_1 : decode cX4_setKind 1 = .ok (.iconst 3, 1) := by decide +kernel
theorem dX4_setKind_2 : decode cX4_setKind 2 = .ok (.invokestatic 62, 3) := by decide +kernel
theorem dX4_setKind_5 : decode cX4_setKind 5 = .ok (.iload_n 2, 1) := by decide +kernel
theorem dX4_setKind_6 : decode cX4_setKind 6 = .ok (.iconst 0, 1) := by decide +kernel
theorem dX4_setKind_7 : decode cX4_setKind 7 = .ok (.ldc 44, 2) := by decide +kernel
theorem dX4_setKind_9 : decode cX4_setKind 9 = .ok (.invokestatic 45, 3) := by decide +kernel
theorem dX4_setKind_12 : decode cX4_setKind 12 = .ok (.iload_n 3, 1) := by decide +kernel
theorem dX4_setKind_13 : decode cX4_setKind 13 = .ok (.iconst 0, 1) := by decide +kernel
theorem dX4_setKind_14 : decode cX4_setKind 14 = .ok (.ldc 44, 2) := by decide +kernel
theorem dX4_setKind_16 : decode cX4_setKind 16 = .ok (.invokestatic 45, 3) := by decide +kernel
theorem dX4_setKind_19 : decode cX4_setKind 19 = .ok (.iload 5, 2) := by decide +kernel
theorem dX4_setKind_21 : decode cX4_setKind 21 = .ok (.iconst 0, 1) := by decide +kernel
theorem dX4_setKind_22 : decode cX4_setKind 22 = .ok (.ldc 73, 2) := by decide +kernel
theorem dX4_setKind_24 : decode cX4_setKind 24 = .ok (.invokestatic 45, 3) := by decide +kernel
theorem dX4_setKind_27 : decode cX4_setKind 27 = .ok (.iload 6, 2) := by decide +kernel
theorem dX4_setKind_29 : decode cX4_setKind 29 = .ok (.iconst 0, 1) := by decide +kernel
theorem dX4_setKind_30 : decode cX4_setKind 30 = .ok (.sipush 2000, 3) := by decide +kernel
theorem dX4_setKind_33 : decode cX4_setKind 33 = .ok (.invokestatic 45, 3) := by decide +kernel
theorem dX4_setKind_36 : decode cX4_setKind 36 = .ok (.aload_n 0, 1) := by decide +kernel
theorem dX4_setKind_37 : decode cX4_setKind 37 = .ok (.invokevirtual 50, 3) := by decide +kernel
theorem dX4_setKind_40 : decode cX4_setKind 40 = .ok (.aload_n 0, 1) := by decide +kernel
theorem dX4_setKind_41 : decode cX4_setKind 41 = .ok (.getfield 19, 3) := by decide +kernel
theorem dX4_setKind_44 : decode cX4_setKind 44 = .ok (.getfield 74, 3) := by decide +kernel
theorem dX4_setKind_47 : decode cX4_setKind 47 = .ok (.iload_n 1, 1) := by decide +kernel
theorem dX4_setKind_48 : decode cX4_setKind 48 = .ok (.iload_n 2, 1) := by decide +kernel
theorem dX4_setKind_49 : decode cX4_setKind 49 = .ok (.iastore, 1) := by decide +kernel
theorem dX4_setKind_50 : decode cX4_setKind 50 = .ok (.aload_n 0, 1) := by decide +kernel
theorem dX4_setKind_51 : decode cX4_setKind 51 = .ok (.getfield 19, 3) := by decide +kernel
theorem dX4_setKind_54 : decode cX4_setKind 54 = .ok (.getfield 77, 3) := by decide +kernel
theorem dX4_setKind_57 : decode cX4_setKind 57 = .ok (.iload_n 1, 1) := by decide +kernel
theorem dX4_setKind_58 : decode cX4_setKind 58 = .ok (.iload_n 3, 1) := by decide +kernel
theorem dX4_setKind_59 : decode cX4_setKind 59 = .ok (.iastore, 1) := by decide +kernel
theorem dX4_setKind_60 : decode cX4_setKind 60 = .ok (.aload_n 0, 1) := by decide +kernel
theorem dX4_setKind_61 : decode cX4_setKind 61 = .ok (.getfield 19, 3) := by decide +kernel
theorem dX4_setKind_64 : decode cX4_setKind 64 = .ok (.getfield 80, 3) := by decide +kernel
theorem dX4_setKind_67 : decode cX4_setKind 67 = .ok (.iload_n 1, 1) := by decide +kernel
theorem dX4_setKind_68 : decode cX4_setKind 68 = .ok (.iload 4, 2) := by decide +kernel
theorem dX4_setKind_70 : decode cX4_setKind 70 = .ok (.bastore, 1) := by decide +kernel
theorem dX4_setKind_71 : decode cX4_setKind 71 = .ok (.aload_n 0, 1) := by decide +kernel
theorem dX4_setKind_72 : decode cX4_setKind 72 = .ok (.getfield 19, 3) := by decide +kernel
theorem dX4_setKind_75 : decode cX4_setKind 75 = .ok (.getfield 84, 3) := by decide +kernel
theorem dX4_setKind_78 : decode cX4_setKind 78 = .ok (.iload_n 1, 1) := by decide +kernel
theorem dX4_setKind_79 : decode cX4_setKind 79 = .ok (.iload 5, 2) := by decide +kernel
theorem dX4_setKind_81 : decode cX4_setKind 81 = .ok (.iastore, 1) := by decide +kernel
theorem dX4_setKind_82 : decode cX4_setKind 82 = .ok (.aload_n 0, 1) := by decide +kernel
theorem dX4_setKind_83 : decode cX4_setKind 83 = .ok (.getfield 19, 3) := by decide +kernel
theorem dX4_setKind_86 : decode cX4_setKind 86 = .ok (.getfield 87, 3) := by decide +kernel
theorem dX4_setKind_89 : decode cX4_setKind 89 = .ok (.iload_n 1, 1) := by decide +kernel
theorem dX4_setKind_90 : decode cX4_setKind 90 = .ok (.iload 6, 2) := by decide +kernel
theorem dX4_setKind_92 : decode cX4_setKind 92 = .ok (.iastore, 1) := by decide +kernel
theorem dX4_setKind_93 : decode cX4_setKind 93 = .ok (.return_, 1) := by decide +kernel
set_option maxRecDepth 20000 in
theorem ggX4_setYear_X4_checkNumber : GoodIn wsX4_setYear wsX4_checkNumber := goodIn_ca (goodIn_r _ [8, 9, 10] (by decide +kernel) (by decide +kernel)) (goodIn_sub (fun _ h => List.mem_cons_of_mem _ (List.mem_append_left _ (List.mem_append_left _ (List.mem_append_right _ h)))) (by decide +kernel))
set_option maxRecDepth 20000 in
theorem gX4_setYear_X4_checkNumber : GoodIn wsX4_setYear (va_wsS RX4 62 yX4_checkNumber wsX4_checkNumber) := goodIn_app (goodIn_of _ (by decide +kernel)) ggX4_setYear_X4_checkNumber
set_option maxRecDepth 20000 in
theorem ggX4_setYear_X4_checkRange : GoodIn wsX4_setYear wsX4_checkRange := goodIn_ca (goodIn_r _ [13, 14, 15] (by decide +kernel) (by decide +kernel)) (goodIn_sub (fun _ h => List.mem_cons_of_mem _ (List.mem_append_left _ (List.mem_append_right _ h))) (by decide +kernel))
set_option maxRecDepth 20000 in
theorem gX4_setYear_X4_checkRange : GoodIn wsX4_setYear (va_wsS RX4 45 yX4_checkRange wsX4_checkRange) := goodIn_app (goodIn_of _ (by decide +kernel)) ggX4_setYear_X4_checkRange
set_option maxRecDepth 20000 in
theorem ggX4_setYear_X4_checkNotClosed : GoodIn wsX4_setYear wsX4_checkNotClosed := goodIn_ca (goodIn_r _ [19, 20, 21, 22, 23, 24, 25, 26, 27, 28, 29, 30, 31, 32, 33, 34, 35, 36] (by decide +kernel) (by decide +kernel)) (goodIn_sub (fun _ h => List.mem_cons_of_mem _ (List.mem_append_right _ h)) (by decide +kernel))
set_option maxRecDepth 20000 in
theorem gX4_setYear_X4_checkNotClosed : GoodIn wsX4_setYear (wsV RX4 50 RX4 yX4_checkNotClosed wsX4_checkNotClosed) := goodIn_app (goodIn_of _ (by decide +kernel)) ggX4_setYear_X4_checkNotClosed
theorem dX4_setYear_0 : decode cX4_setYear 0 = .ok (.iload_n 1, 1) := by decide +kernel
theorem dX4_setYear_1 : decode cX4_setYear 1 = .ok (.iconst 4, 1) := by decide +kernel
theorem dX4_setYear_2 : decode cX4_setYear 2 = .ok (.invokestatic 62, 3) := by decide +kernel
theorem dX4_setYear_5 : decode cX4_setYear 5 = .ok (.iload_n 2, 1) := by decide +kernel
theorem dX4_setYear_6 : decode cX4_setYear 6 = .ok (.iconst 0, 1) := by decide +kernel
theorem dX4_setYear_7 : decode cX4_setYear 7 = .ok (.ldc 44, 2) := by decide +kernel
theorem dX4_setYear_9 : decode cX4_setYear 9 = .ok (.invokestatic 45, 3) := by decide +kernel
theorem dX4_setYear_12 : decode cX4_setYear 12 = .ok (.iload_n 3, 1) := by decide +kernel
theorem dX4_setYear_13 : decode cX4_setYear 13 = .ok (.iconst 0, 1) := by decide +kernel
theorem dX4_setYear_14 : decode cX4_setYear 14 = .ok (.ldc 44, 2) := by decide +kernel
theorem dX4_setYear_16 : decode cX4_setYear 16 = .ok (.invokestatic 45, 3) := by decide +kernel
theorem dX4_setYear_19 : decode cX4_setYear 19 = .ok (.aload_n 0, 1) := by decide +kernel
theorem dX4_setYear_20 : decode cX4_setYear 20 = .ok (.invokevirtual 50, 3) := by decide +kernel
theorem dX4_setYear_23 : decode cX4_setYear 23 = .ok (.aload_n 0, 1) := by decide +kernel
theorem dX4_setYear_24 : decode cX4_setYear 24 = .ok (.getfield 33, 3) := by decide +kernel
theorem dX4_setYear_27 : decode cX4_setYear 27 = .ok (.getfield 90, 3) := by decide +kernel
theorem dX4_setYear_30 : decode cX4_setYear 30 = .ok (.iload_n 1, 1) := by decide +kernel
theorem dX4_setYear_31 : decode cX4_setYear 31 = .ok (.iload_n 2, 1) := by decide +kernel
theorem dX4_setYear_32 : decode cX4_setYear 32 = .ok (.iastore, 1) := by decide +kernel
theorem dX4_setYear_33 : decode cX4_setYear 33 = .ok (.aload_n 0, 1) := by decide +kernel
theorem dX4_setYear_34 : decode cX4_setYear 34 = .ok (.getfield 33, 3) := by decide +kernel
theorem dX4_setYear_37 : decode cX4_setYear 37 = .ok (.getfield 93, 3) := by decide +kernel
theorem dX4_setYear_40 : decode cX4_setYear 40 = .ok (.iload_n 1, 1) := by decide +kernel
theorem dX4_setYear_41 : decode cX4_setYear 41 = .ok (.iload_n 3, 1) := by decide +kernel
theorem dX4_setYear_42 : decode cX4_setYear 42 = .ok (.iastore, 1) := by decide +kernel
theorem dX4_setYear_43 : decode cX4_setYear 43 = .ok (.return_, 1) := by decide +kernel
set_option maxRecDepth 20000 in
theorem ggX4_setCarry_X4_checkNotClosed : GoodIn wsX4_setCarry wsX4_checkNotClosed := goodIn_ca (goodIn_r _ [7, 8, 9, 10, 11, 12, 13, 14, 15, 16, 17, 18, 19, 20, 21, 22, 23, 24] (by decide +kernel) (by decide +kernel)) (goodIn_sub (fun _ h => List.mem_cons_of_mem _ (List.mem_append_right _ h)) (by decide +kernel))
set_option maxRecDepth 20000 in
theorem gX4_setCarry_X4_checkNotClosed : GoodIn wsX4_setCarry (wsV RX4 50 RX4 yX4_checkNotClosed wsX4_checkNotClosed) := goodIn_app (goodIn_of _ (by decide +kernel)) ggX4_setCarry_X4_checkNotClosed
theorem dX4_setCarry_0 : decode cX4_setCarry 0 = .ok (.aload_n 0, 1) := by decide +kernel
theorem dX4_setCarry_1 : decode cX4_setCarry 1 = .ok (.invokevirtual 50, 3) := by decide +kernel
theorem dX4_setCarry_4 : decode cX4_setCarry 4 = .ok (.aload_n 0, 1) := by decide +kernel
theorem dX4_setCarry_5 : decode cX4_setCarry 5 = .ok (.getfield 33, 3) := by decide +kernel
theorem dX4_setCarry_8 : decode cX4_setCarry 8 = .ok (.iload_n 1, 1) := by decide +kernel
theorem dX4_setCarry_9 : decode cX4_setCarry 9 = .ok (.putfield 94, 3) := by decide +kernel
theorem dX4_setCarry_12 : decode cX4_setCarry 12 = .ok (.return_, 1) := by decide +kernel
set_option maxRecDepth 20000 in
theorem ggX4_close_X4_checkRange : GoodIn wsX4_close wsX4_checkRange := goodIn_ca (goodIn_r _ [20, 21, 22] (by decide +kernel) (by decide +kernel)) (goodIn_sub (fun _ h => List.mem_cons_of_mem _ (List.mem_append_left _ (List.mem_append_right _ h))) (by decide +kernel))
set_option maxRecDepth 20000 in
theorem gX4_close_X4_checkRange : GoodIn wsX4_close (va_wsS RX4 45 yX4_checkRange wsX4_checkRange) := goodIn_app (goodIn_of _ (by decide +kernel)) ggX4_close_X4_checkRange
set_option maxRecDepth 20000 in
theorem ggX4_close_X4_checkNotClosed : GoodIn wsX4_close wsX4_checkNotClosed := goodIn_ca (goodIn_r _ [26, 27, 28, 3, 40, 41, 42, 43, 44, 45, 46, 47, 48, 49, 50, 51, 52, 53] (by decide +kernel) (by decide +kernel)) (goodIn_sub (fun _ h => List.mem_cons_of_mem _ (List.mem_append_right _ h)) (by decide +kernel))
set_option maxRecDepth 20000 in
theorem gX4_close_X4_checkNotClosed : GoodIn wsX4_close (wsV RX4 50 RX4 yX4_checkNotClosed wsX4_checkNotClosed) := goodIn_app (goodIn_of _ (by decide +kernel)) ggX4_close_X4_checkNotClosed
set_option maxRecDepth 20000 in
theorem ggX4_close_X4_beyondCollar : GoodIn wsX4_close wsX4_beyondCollar := goodIn_r _ [32, 33, 40, 41, 42, 43, 44, 45, 46, 47, 48, 49, 50, 51, 52, 53] (by decide +kernel) (by decide +kernel)
set_option maxRecDepth 20000 in
theorem gX4_close_X4_beyondCollar : GoodIn wsX4_close (wsV RX4 98 RX4 yX4_beyondCollar wsX4_beyondCollar) := goodIn_app (goodIn_of _ (by decide +kernel)) ggX4_close_X4_beyondCollar
set_option maxRecDepth 20000 in
theorem ggX4_close_X2_total : GoodIn wsX4_close wsX2_total := goodIn_r _ [38, 39, 54, 55] (by decide +kernel) (by decide +kernel)
set_option maxRecDepth 20000 in
theorem gX4_close_X2_total : GoodIn wsX4_close (wsV RX4 108 RX2 yX2_total wsX2_total) := goodIn_app (goodIn_of _ (by decide +kernel)) ggX4_close_X2_total
theorem dX4_close_0 : decode cX4_close 0 = .ok (.iload_n 1, 1) := by decide +kernel
theorem dX4_close_1 : decode cX4_close 1 = .ok (.iconst 0, 1) := by decide +kernel
theorem dX4_close_2 : decode cX4_close 2 = .ok (.ldc 44, 2) := by decide +kernel
theorem dX4_close_4 : decode cX4_close 4 = .ok (.invokestatic 45, 3) := by decide +kernel
theorem dX4_close_7 : decode cX4_close 7 = .ok (.iload_n 2, 1) := by decide +kernel
theorem dX4_close_8 : decode cX4_close 8 = .ok (.iconst 0, 1) := by decide +kernel
theorem dX4_close_9 : decode cX4_close 9 = .ok (.ldc 44, 2) := by decide +kernel
theorem dX4_close_11 : decode cX4_close 11 = .ok (.invokestatic 45, 3) := by decide +kernel
theorem dX4_close_14 : decode cX4_close 14 = .ok (.iload_n 3, 1) := by decide +kernel
theorem dX4_close_15 : decode cX4_close 15 = .ok (.ldc 49, 2) := by decide +kernel
theorem dX4_close_17 : decode cX4_close 17 = .ok (.ldc 44, 2) := by decide +kernel
theorem dX4_close_19 : decode cX4_close 19 = .ok (.invokestatic 45, 3) := by decide +kernel
theorem dX4_close_22 : decode cX4_close 22 = .ok (.aload_n 0, 1) := by decide +kernel
theorem dX4_close_23 : decode cX4_close 23 = .ok (.invokevirtual 50, 3) := by decide +kernel
theorem dX4_close_26 : decode cX4_close 26 = .ok (.aload_n 0, 1) := by decide +kernel
theorem dX4_close_27 : decode cX4_close 27 = .ok (.iconst 0, 1) := by decide +kernel
theorem dX4_close_28 : decode cX4_close 28 = .ok (.putfield 37, 3) := by decide +kernel
theorem dX4_close_31 : decode cX4_close 31 = .ok (.aload_n 0, 1) := by decide +kernel
theorem dX4_close_32 : decode cX4_close 32 = .ok (.iconst 0, 1) := by decide +kernel
theorem dX4_close_33 : decode cX4_close 33 = .ok (.aload_n 0, 1) := by decide +kernel
theorem dX4_close_34 : decode cX4_close 34 = .ok (.getfield 53, 3) := by decide +kernel
theorem dX4_close_37 : decode cX4_close 37 = .ok (.iload_n 1, 1) := by decide +kernel
theorem dX4_close_38 : decode cX4_close 38 = .ok (.iadd, 1) := by decide +kernel
theorem dX4_close_39 : decode cX4_close 39 = .ok (.iload_n 2, 1) := by decide +kernel
theorem dX4_close_40 : decode cX4_close 40 = .ok (.isub, 1) := by decide +kernel
theorem dX4_close_41 : decode cX4_close 41 = .ok (.aload_n 0, 1) := by decide +kernel
theorem dX4_close_42 : decode cX4_close 42 = .ok (.iload_n 3, 1) := by decide +kernel
theorem dX4_close_43 : decode cX4_close 43 = .ok (.aload_n 0, 1) := by decide +kernel
theorem dX4_close_44 : decode cX4_close 44 = .ok (.getfield 56, 3) := by decide +kernel
theorem dX4_close_47 : decode cX4_close 47 = .ok (.isub, 1) := by decide +kernel
theorem dX4_close_48 : decode cX4_close 48 = .ok (.invokevirtual 98, 3) := by decide +kernel
theorem dX4_close_51 : decode cX4_close 51 = .ok (.iadd, 1) := by decide +kernel
theorem dX4_close_52 : decode cX4_close 52 = .ok (.invokestatic 102, 3) := by decide +kernel
theorem dX4_close_55 : decode cX4_close 55 = .ok (.putfield 41, 3) := by decide +kernel
theorem dX4_close_58 : decode cX4_close 58 = .ok (.aload_n 0, 1) := by decide +kernel
theorem dX4_close_59 : decode cX4_close 59 = .ok (.aload_n 0, 1) := by decide +kernel
theorem dX4_close_60 : decode cX4_close 60 = .ok (.getfield 10, 3) := by decide +kernel
theorem dX4_close_63 : decode cX4_close 63 = .ok (.invokevirtual 108, 3) := by decide +kernel
theorem dX4_close_66 : decode cX4_close 66 = .ok (.aload_n 0, 1) := by decide +kernel
theorem dX4_close_67 : decode cX4_close 67 = .ok (.getfield 41, 3) := by decide +kernel
theorem dX4_close_70 : decode cX4_close 70 = .ok (.invokestatic 112, 3) := by decide +kernel
theorem dX4_close_73 : decode cX4_close 73 = .ok (.putfield 115, 3) := by decide +kernel
theorem dX4_close_76 : decode cX4_close 76 = .ok (.aload_n 0, 1) := by decide +kernel
theorem dX4_close_77 : decode cX4_close 77 = .ok (.aload_n 0, 1) := by decide +kernel
theorem dX4_close_78 : decode cX4_close 78 = .ok (.getfield 41, 3) := by decide +kernel
theorem dX4_close_81 : decode cX4_close 81 = .ok (.aload_n 0, 1) := by decide +kernel
theorem dX4_close_82 : decode cX4_close 82 = .ok (.getfield 115, 3) := by decide +kernel
theorem dX4_close_85 : decode cX4_close 85 = .ok (.isub, 1) := by decide +kernel
theorem dX4_close_86 : decode cX4_close 86 = .ok (.putfield 118, 3) := by decide +kernel
theorem dX4_close_89 : decode cX4_close 89 = .ok (.aload_n 0, 1) := by decide +kernel
theorem dX4_close_90 : decode cX4_close 90 = .ok (.getfield 41, 3) := by decide +kernel
theorem dX4_close_93 : decode cX4_close 93 = .ok (.ireturn, 1) := by decide +kernel
set_option maxRecDepth 20000 in
theorem ggX4_advance_X4_checkRange : GoodIn wsX4_advance wsX4_checkRange := goodIn_ca (goodIn_r _ [7, 8, 9] (by decide +kernel) (by decide +kernel)) (goodIn_sub (fun _ h => List.mem_cons_of_mem _ (List.mem_append_right _ h)) (by decide +kernel))
set_option maxRecDepth 20000 in
theorem gX4_advance_X4_checkRange : GoodIn wsX4_advance (va_wsS RX4 45 yX4_checkRange wsX4_checkRange) := goodIn_app (goodIn_of _ (by decide +kernel)) ggX4_advance_X4_checkRange
set_option maxRecDepth 20000 in
theorem ggX4_advance_X4_checkClosed : GoodIn wsX4_advance wsX4_checkClosed := goodIn_ca (goodIn_r _ [13, 1, 2, 3, 37, 38, 39, 40, 41, 42, 43, 44, 45, 46, 47, 48, 49, 50] (by decide +kernel) (by decide +kernel)) (goodIn_sub (fun _ h => List.mem_cons_of_mem _ (List.mem_append_left _ (List.mem_append_right _ h))) (by decide +kernel))
set_option maxRecDepth 20000 in
theorem gX4_advance_X4_checkClosed : GoodIn wsX4_advance (wsV RX4 121 RX4 yX4_checkClosed wsX4_checkClosed) := goodIn_app (goodIn_of _ (by decide +kernel)) ggX4_advance_X4_checkClosed
set_option maxRecDepth 20000 in
theorem ggX4_advance_X4_free : GoodIn wsX4_advance wsX4_free := goodIn_r _ [17, 18, 3, 19, 20, 21, 22, 23, 24, 25, 26, 27, 28, 29, 30, 31, 32, 33, 34, 35, 36, 37, 38, 39, 40, 41, 42, 43, 44, 45, 46, 47, 48, 49, 50, 51, 52, 53, 54, 55, 56, 57] (by decide +kernel) (by decide +kernel)
set_option maxRecDepth 20000 in
theorem gX4_advance_X4_free : GoodIn wsX4_advance (wsV RX4 131 RX4 yX4_free wsX4_free) := goodIn_app (goodIn_of _ (by decide +kernel)) ggX4_advance_X4_free
theorem dX4_advance_0 : decode cX4_advance 0 = .ok (.iload_n 1, 1) := by decide +kernel
theorem dX4_advance_1 : decode cX4_advance 1 = .ok (.iconst 1, 1) := by decide +kernel
theorem dX4_advance_2 : decode cX4_advance 2 = .ok (.sipush 400, 3) := by decide +kernel
theorem dX4_advance_5 : decode cX4_advance 5 = .ok (.invokestatic 45, 3) := by decide +kernel
theorem dX4_advance_8 : decode cX4_advance 8 = .ok (.aload_n 0, 1) := by decide +kernel
theorem dX4_advance_9 : decode cX4_advance 9 = .ok (.invokevirtual 121, 3) := by decide +kernel
theorem dX4_advance_12 : decode cX4_advance 12 = .ok (.aload_n 0, 1) := by decide +kernel
theorem dX4_advance_13 : decode cX4_advance 13 = .ok (.getfield 37, 3) := by decide +kernel
theorem dX4_advance_16 : decode cX4_advance 16 = .ok (.iload_n 1, 1) := by decide +kernel
theorem dX4_advance_17 : decode cX4_advance 17 = .ok (.iadd, 1) := by decide +kernel
theorem dX4_advance_18 : decode cX4_advance 18 = .ok (.sipush 4000, 3) := by decide +kernel
theorem dX4_advance_21 : decode cX4_advance 21 = .ok (.if_icmp .le 13, 3) := by decide +kernel
theorem dX4_advance_24 : decode cX4_advance 24 = .ok (.new 124, 3) := by decide +kernel
theorem dX4_advance_27 : decode cX4_advance 27 = .ok (.dup, 1) := by decide +kernel
theorem dX4_advance_28 : decode cX4_advance 28 = .ok (.ldc 126, 2) := by decide +kernel
theorem dX4_advance_30 : decode cX4_advance 30 = .ok (.invokespecial 128, 3) := by decide +kernel
theorem dX4_advance_33 : decode cX4_advance 33 = .ok (.athrow, 1) := by decide +kernel
theorem dX4_advance_34 : decode cX4_advance 34 = .ok (.aload_n 0, 1) := by decide +kernel
theorem dX4_advance_35 : decode cX4_advance 35 = .ok (.dup, 1) := by decide +kernel
theorem dX4_advance_36 : decode cX4_advance 36 = .ok (.getfield 37, 3) := by decide +kernel
theorem dX4_advance_39 : decode cX4_advance 39 = .ok (.iload_n 1, 1) := by decide +kernel
theorem dX4_advance_40 : decode cX4_advance 40 = .ok (.iadd, 1) := by decide +kernel
theorem dX4_advance_41 : decode cX4_advance 41 = .ok (.putfield 37, 3) := by decide +kernel
theorem dX4_advance_44 : decode cX4_advance 44 = .ok (.aload_n 0, 1) := by decide +kernel
theorem dX4_advance_45 : decode cX4_advance 45 = .ok (.invokevirtual 131, 3) := by decide +kernel
theorem dX4_advance_48 : decode cX4_advance 48 = .ok (.aload_n 0, 1) := by decide +kernel
theorem dX4_advance_49 : decode cX4_advance 49 = .ok (.getfield 37, 3) := by decide +kernel
theorem dX4_advance_52 : decode cX4_advance 52 = .ok (.ireturn, 1) := by decide +kernel
set_option maxRecDepth 20000 in
theorem ggX4_claim_X4_checkNumber : GoodIn wsX4_claim wsX4_checkNumber := goodIn_ca (goodIn_r _ [16, 17, 18] (by decide +kernel) (by decide +kernel)) (goodIn_sub (fun _ h => List.mem_cons_of_mem _ (List.mem_append_left _ (List.mem_append_right _ h))) (by decide +kernel))
set_option maxRecDepth 20000 in
theorem gX4_claim_X4_checkNumber : GoodIn wsX4_claim (va_wsS RX4 62 yX4_checkNumber wsX4_checkNumber) := goodIn_app (goodIn_of _ (by decide +kernel)) ggX4_claim_X4_checkNumber
set_option maxRecDepth 20000 in
theorem ggX4_claim_X4_checkRange : GoodIn wsX4_claim wsX4_checkRange := goodIn_ca (goodIn_r _ [21, 22, 23] (by decide +kernel) (by decide +kernel)) (goodIn_sub (fun _ h => List.mem_cons_of_mem _ (List.mem_append_right _ h)) (by decide +kernel))
set_option maxRecDepth 20000 in
theorem gX4_claim_X4_checkRange : GoodIn wsX4_claim (va_wsS RX4 45 yX4_checkRange wsX4_checkRange) := goodIn_app (goodIn_of _ (by decide +kernel)) ggX4_claim_X4_checkRange
set_option maxRecDepth 20000 in
theorem ggX4_claim_X4_checkClosed : GoodIn wsX4_claim wsX4_checkClosed := goodIn_ca (goodIn_r _ [27, 1, 2, 4, 28, 29, 30, 31, 32, 33, 34, 35, 36, 37, 38, 39, 40, 41] (by decide +kernel) (by decide +kernel)) (goodIn_sub (fun _ h => List.mem_cons_of_mem _ (List.mem_append_left _ (List.mem_append_left _ (List.mem_append_right _ h)))) (by decide +kernel))
set_option maxRecDepth 20000 in
theorem gX4_claim_X4_checkClosed : GoodIn wsX4_claim (wsV RX4 121 RX4 yX4_checkClosed wsX4_checkClosed) := goodIn_app (goodIn_of _ (by decide +kernel)) ggX4_claim_X4_checkClosed
theorem dX4_claim_0 : decode cX4_claim 0 = .ok (.iload_n 1, 1) := by decide +kernel
theorem dX4_claim_1 : decode cX4_claim 1 = .ok (.iconst 3, 1) := by decide +kernel
theorem dX4_claim_2 : decode cX4_claim 2 = .ok (.invokestatic 62, 3) := by decide +kernel
theorem dX4_claim_5 : decode cX4_claim 5 = .ok (.iload_n 2, 1) := by decide +kernel
theorem dX4_claim_6 : decode cX4_claim 6 = .ok (.iconst 1, 1) := by decide +kernel
theorem dX4_claim_7 : decode cX4_claim 7 = .ok (.ldc 44, 2) := by decide +kernel
theorem dX4_claim_9 : decode cX4_claim 9 = .ok (.invokestatic 45, 3) := by decide +kernel
theorem dX4_claim_12 : decode cX4_claim 12 = .ok (.aload_n 0, 1) := by decide +kernel
theorem dX4_claim_13 : decode cX4_claim 13 = .ok (.invokevirtual 121, 3) := by decide +kernel
theorem dX4_claim_16 : decode cX4_claim 16 = .ok (.aload_n 0, 1) := by decide +kernel
theorem dX4_claim_17 : decode cX4_claim 17 = .ok (.getfield 37, 3) := by decide +kernel
theorem dX4_claim_20 : decode cX4_claim 20 = .ok (.aload_n 0, 1) := by decide +kernel
theorem dX4_claim_21 : decode cX4_claim 21 = .ok (.getfield 19, 3) := by decide +kernel
theorem dX4_claim_24 : decode cX4_claim 24 = .ok (.getfield 87, 3) := by decide +kernel
theorem dX4_claim_27 : decode cX4_claim 27 = .ok (.iload_n 1, 1) := by decide +kernel
theorem dX4_claim_28 : decode cX4_claim 28 = .ok (.iaload, 1) := by decide +kernel
theorem dX4_claim_29 : decode cX4_claim 29 = .ok (.if_icmp .le 13, 3) := by decide +kernel
theorem dX4_claim_32 : decode cX4_claim 32 = .ok (.new 124, 3) := by decide +kernel
theorem dX4_claim_35 : decode cX4_claim 35 = .ok (.dup, 1) := by decide +kernel
theorem dX4_claim_36 : decode cX4_claim 36 = .ok (.ldc 134, 2) := by decide +kernel
theorem dX4_claim_38 : decode cX4_claim 38 = .ok (.invokespecial 128, 3) := by decide +kernel
theorem dX4_claim_41 : decode cX4_claim 41 = .ok (.athrow, 1) := by decide +kernel
theorem dX4_claim_42 : decode cX4_claim 42 = .ok (.aload_n 0, 1) := by decide +kernel
theorem dX4_claim_43 : decode cX4_claim 43 = .ok (.getfield 26, 3) := by decide +kernel
theorem dX4_claim_46 : decode cX4_claim 46 = .ok (.getfield 136, 3) := by decide +kernel
theorem dX4_claim_49 : decode cX4_claim 49 = .ok (.istore_n 3, 1) := by decide +kernel
theorem dX4_claim_50 : decode cX4_claim 50 = .ok (.iload_n 3, 1) := by decide +kernel
theorem dX4_claim_51 : decode cX4_claim 51 = .ok (.bipush 20, 2) := by decide +kernel
theorem dX4_claim_53 : decode cX4_claim 53 = .ok (.if_icmp .lt 13, 3) := by decide +kernel
theorem dX4_claim_56 : decode cX4_claim 56 = .ok (.new 124, 3) := by decide +kernel
theorem dX4_claim_59 : decode cX4_claim 59 = .ok (.dup, 1) := by decide +kernel
theorem dX4_claim_60 : decode cX4_claim 60 = .ok (.ldc 139, 2) := by decide +kernel
theorem dX4_claim_62 : decode cX4_claim 62 = .ok (.invokespecial 128, 3) := by decide +kernel
theorem dX4_claim_65 : decode cX4_claim 65 = .ok (.athrow, 1) := by decide +kernel
theorem dX4_claim_66 : decode cX4_claim 66 = .ok (.aload_n 0, 1) := by decide +kernel
theorem dX4_claim_67 : decode cX4_claim 67 = .ok (.getfield 26, 3) := by decide +kernel
theorem dX4_claim_70 : decode cX4_claim 70 = .ok (.getfield 141, 3) := by decide +kernel
theorem dX4_claim_73 : decode cX4_claim 73 = .ok (.iload_n 3, 1) := by decide +kernel
theorem dX4_claim_74 : decode cX4_claim 74 = .ok (.iload_n 1, 1) := by decide +kernel
theorem dX4_claim_75 : decode cX4_claim 75 = .ok (.iastore, 1) := by decide +kernel
theorem dX4_claim_76 : decode cX4_claim 76 = .ok (.aload_n 0, 1) := by decide +kernel
theorem dX4_claim_77 : decode cX4_claim 77 = .ok (.getfield 26, 3) := by decide +kernel
theorem dX4_claim_80 : decode cX4_claim 80 = .ok (.getfield 143, 3) := by decide +kernel
theorem dX4_claim_83 : decode cX4_claim 83 = .ok (.iload_n 3, 1) := by decide +kernel
theorem dX4_claim_84 : decode cX4_claim 84 = .ok (.iload_n 2, 1) := by decide +kernel
theorem dX4_claim_85 : decode cX4_claim 85 = .ok (.iastore, 1) := by decide +kernel
theorem dX4_claim_86 : decode cX4_claim 86 = .ok (.aload_n 0, 1) := by decide +kernel
theorem dX4_claim_87 : decode cX4_claim 87 = .ok (.getfield 26, 3) := by decide +kernel
theorem dX4_claim_90 : decode cX4_claim 90 = .ok (.getfield 144, 3) := by decide +kernel
theorem dX4_claim_93 : decode cX4_claim 93 = .ok (.iload_n 3, 1) := by decide +kernel
theorem dX4_claim_94 : decode cX4_claim 94 = .ok (.iconst (-1), 1) := by decide +kernel
theorem dX4_claim_95 : decode cX4_claim 95 = .ok (.iastore, 1) := by decide +kernel
theorem dX4_claim_96 : decode cX4_claim 96 = .ok (.aload_n 0, 1) := by decide +kernel
theorem dX4_claim_97 : decode cX4_claim 97 = .ok (.getfield 26, 3) := by decide +kernel
theorem dX4_claim_100 : decode cX4_claim 100 = .ok (.getfield 147, 3) := by decide +kernel
theorem dX4_claim_103 : decode cX4_claim 103 = .ok (.iload_n 3, 1) := by decide +kernel
theorem dX4_claim_104 : decode cX4_claim 104 = .ok (.iconst (-1), 1) := by decide +kernel
theorem dX4_claim_105 : decode cX4_claim 105 = .ok (.iastore, 1) := by decide +kernel
theorem dX4_claim_106 : decode cX4_claim 106 = .ok (.aload_n 0, 1) := by decide +kernel
theorem dX4_claim_107 : decode cX4_claim 107 = .ok (.getfield 26, 3) := by decide +kernel
theorem dX4_claim_110 : decode cX4_claim 110 = .ok (.iload_n 3, 1) := by decide +kernel
theorem dX4_claim_111 : decode cX4_claim 111 = .ok (.iconst 1, 1) := by decide +kernel
theorem dX4_claim_112 : decode cX4_claim 112 = .ok (.iadd, 1) := by decide +kernel
theorem dX4_claim_113 : decode cX4_claim 113 = .ok (.putfield 136, 3) := by decide +kernel
theorem dX4_claim_116 : decode cX4_claim 116 = .ok (.iload_n 3, 1) := by decide +kernel
theorem dX4_claim_117 : decode cX4_claim 117 = .ok (.ireturn, 1) := by decide +kernel
set_option maxRecDepth 20000 in
theorem ggX4_offer_X4_checkNumber : GoodIn wsX4_offer wsX4_checkNumber := goodIn_ca (goodIn_r _ [9, 10, 11] (by decide +kernel) (by decide +kernel)) (goodIn_sub (fun _ h => List.mem_cons_of_mem _ (List.mem_append_left _ (List.mem_append_left _ (List.mem_append_right _ h)))) (by decide +kernel))
set_option maxRecDepth 20000 in
theorem gX4_offer_X4_checkNumber : GoodIn wsX4_offer (va_wsS RX4 62 yX4_checkNumber wsX4_checkNumber) := goodIn_app (goodIn_of _ (by decide +kernel)) ggX4_offer_X4_checkNumber
set_option maxRecDepth 20000 in
theorem ggX4_offer_X4_checkOpen : GoodIn wsX4_offer wsX4_checkOpen := goodIn_ca (goodIn_r _ [14, 15, 16] (by decide +kernel) (by decide +kernel)) (goodIn_sub (fun _ h => List.mem_cons_of_mem _ (List.mem_append_left _ (List.mem_append_right _ h))) (by decide +kernel))
set_option maxRecDepth 20000 in
theorem gX4_offer_X4_checkOpen : GoodIn wsX4_offer (va_wsS RX4 150 yX4_checkOpen wsX4_checkOpen) := goodIn_app (goodIn_of _ (by decide +kernel)) ggX4_offer_X4_checkOpen
set_option maxRecDepth 20000 in
theorem ggX4_offer_X4_checkRange : GoodIn wsX4_offer wsX4_checkRange := goodIn_ca (goodIn_r _ [19, 20, 21] (by decide +kernel) (by decide +kernel)) (goodIn_sub (fun _ h => List.mem_cons_of_mem _ (List.mem_append_right _ h)) (by decide +kernel))
set_option maxRecDepth 20000 in
theorem gX4_offer_X4_checkRange : GoodIn wsX4_offer (va_wsS RX4 45 yX4_checkRange wsX4_checkRange) := goodIn_app (goodIn_of _ (by decide +kernel)) ggX4_offer_X4_checkRange
theorem dX4_offer_0 : decode cX4_offer 0 = .ok (.iload_n 1, 1) := by decide +kernel
theorem dX4_offer_1 : decode cX4_offer 1 = .ok (.aload_n 0, 1) := by decide +kernel
theorem dX4_offer_2 : decode cX4_offer 2 = .ok (.getfield 26, 3) := by decide +kernel
theorem dX4_offer_5 : decode cX4_offer 5 = .ok (.getfield 136, 3) := by decide +kernel
theorem dX4_offer_8 : decode cX4_offer 8 = .ok (.invokestatic 62, 3) := by decide +kernel
theorem dX4_offer_11 : decode cX4_offer 11 = .ok (.aload_n 0, 1) := by decide +kernel
theorem dX4_offer_12 : decode cX4_offer 12 = .ok (.getfield 26, 3) := by decide +kernel
theorem dX4_offer_15 : decode cX4_offer 15 = .ok (.getfield 147, 3) := by decide +kernel
theorem dX4_offer_18 : decode cX4_offer 18 = .ok (.iload_n 1, 1) := by decide +kernel
theorem dX4_offer_19 : decode cX4_offer 19 = .ok (.iaload, 1) := by decide +kernel
theorem dX4_offer_20 : decode cX4_offer 20 = .ok (.invokestatic 150, 3) := by decide +kernel
theorem dX4_offer_23 : decode cX4_offer 23 = .ok (.iload_n 2, 1) := by decide +kernel
theorem dX4_offer_24 : decode cX4_offer 24 = .ok (.iconst 0, 1) := by decide +kernel
theorem dX4_offer_25 : decode cX4_offer 25 = .ok (.aload_n 0, 1) := by decide +kernel
theorem dX4_offer_26 : decode cX4_offer 26 = .ok (.getfield 26, 3) := by decide +kernel
theorem dX4_offer_29 : decode cX4_offer 29 = .ok (.getfield 143, 3) := by decide +kernel
theorem dX4_offer_32 : decode cX4_offer 32 = .ok (.iload_n 1, 1) := by decide +kernel
theorem dX4_offer_33 : decode cX4_offer 33 = .ok (.iaload, 1) := by decide +kernel
theorem dX4_offer_34 : decode cX4_offer 34 = .ok (.invokestatic 45, 3) := by decide +kernel
theorem dX4_offer_37 : decode cX4_offer 37 = .ok (.aload_n 0, 1) := by decide +kernel
theorem dX4_offer_38 : decode cX4_offer 38 = .ok (.getfield 26, 3) := by decide +kernel
theorem dX4_offer_41 : decode cX4_offer 41 = .ok (.getfield 144, 3) := by decide +kernel
theorem dX4_offer_44 : decode cX4_offer 44 = .ok (.iload_n 1, 1) := by decide +kernel
theorem dX4_offer_45 : decode cX4_offer 45 = .ok (.iaload, 1) := by decide +kernel
theorem dX4_offer_46 : decode cX4_offer 46 = .ok (.istore_n 3, 1) := by decide +kernel
theorem dX4_offer_47 : decode cX4_offer 47 = .ok (.aload_n 0, 1) := by decide +kernel
theorem dX4_offer_48 : decode cX4_offer 48 = .ok (.getfield 26, 3) := by decide +kernel
theorem dX4_offer_51 : decode cX4_offer 51 = .ok (.getfield 144, 3) := by decide +kernel
theorem dX4_offer_54 : decode cX4_offer 54 = .ok (.iload_n 1, 1) := by decide +kernel
theorem dX4_offer_55 : decode cX4_offer 55 = .ok (.iload_n 2, 1) := by decide +kernel
theorem dX4_offer_56 : decode cX4_offer 56 = .ok (.iastore, 1) := by decide +kernel
theorem dX4_offer_57 : decode cX4_offer 57 = .ok (.iload_n 3, 1) := by decide +kernel
theorem dX4_offer_58 : decode cX4_offer 58 = .ok (.ireturn, 1) := by decide +kernel
set_option maxRecDepth 20000 in
theorem ggX4_decide_X4_checkNumber : GoodIn wsX4_decide wsX4_checkNumber := goodIn_ca (goodIn_r _ [9, 10, 11] (by decide +kernel) (by decide +kernel)) (goodIn_sub (fun _ h => List.mem_cons_of_mem _ (List.mem_append_left _ (List.mem_append_left _ (List.mem_append_right _ h)))) (by decide +kernel))
set_option maxRecDepth 20000 in
theorem gX4_decide_X4_checkNumber : GoodIn wsX4_decide (va_wsS RX4 62 yX4_checkNumber wsX4_checkNumber) := goodIn_app (goodIn_of _ (by decide +kernel)) ggX4_decide_X4_checkNumber
set_option maxRecDepth 20000 in
theorem ggX4_decide_X4_checkOpen : GoodIn wsX4_decide wsX4_checkOpen := goodIn_ca (goodIn_r _ [14, 15, 16] (by decide +kernel) (by decide +kernel)) (goodIn_sub (fun _ h => List.mem_cons_of_mem _ (List.mem_append_left _ (List.mem_append_right _ h))) (by decide +kernel))
set_option maxRecDepth 20000 in
theorem gX4_decide_X4_checkOpen : GoodIn wsX4_decide (va_wsS RX4 150 yX4_checkOpen wsX4_checkOpen) := goodIn_app (goodIn_of _ (by decide +kernel)) ggX4_decide_X4_checkOpen
set_option maxRecDepth 20000 in
theorem ggX4_decide_X4_checkRange : GoodIn wsX4_decide wsX4_checkRange := goodIn_ca (goodIn_r _ [19, 20, 21] (by decide +kernel) (by decide +kernel)) (goodIn_sub (fun _ h => List.mem_cons_of_mem _ (List.mem_append_right _ h)) (by decide +kernel))
set_option maxRecDepth 20000 in
theorem gX4_decide_X4_checkRange : GoodIn wsX4_decide (va_wsS RX4 45 yX4_checkRange wsX4_checkRange) := goodIn_app (goodIn_of _ (by decide +kernel)) ggX4_decide_X4_checkRange
set_option maxRecDepth 20000 in
theorem ggX4_decide_X4_payOut : GoodIn wsX4_decide wsX4_payOut := goodIn_r _ [25, 26, 27, 28, 29, 30, 31, 32, 33, 34, 8, 35, 36, 37, 38, 39, 40, 41, 42, 43, 44, 45, 1, 46, 47, 48, 49, 50, 51, 52, 53, 54, 55, 56, 57, 58, 59, 60, 61, 62, 63, 64, 65, 66, 67, 68, 69, 70, 71, 72, 73, 74, 75, 76, 77, 78, 79, 80, 81, 82, 83, 84, 85, 86, 87, 88, 89, 90, 91, 92, 93, 94, 95, 96, 97, 98, 99, 100, 106, 107, 108, 109, 110, 101, 102, 103, 104, 105, 111, 112] (by decide +kernel) (by decide +kernel)
set_option maxRecDepth 20000 in
theorem gX4_decide_X4_payOut : GoodIn wsX4_decide (wsV RX4 156 RX4 yX4_payOut wsX4_payOut) := goodIn_app (goodIn_of _ (by decide +kernel)) ggX4_decide_X4_payOut
theorem dX4_decide_0 : decode cX4_decide 0 = .ok (.iload_n 1, 1) := by decide +kernel
theorem dX4_decide_1 : decode cX4_decide 1 = .ok (.aload_n 0, 1) := by decide +kernel
theorem dX4_decide_2 : decode cX4_decide 2 = .ok (.getfield 26, 3) := by decide +kernel
theorem dX4_decide_5 : decode cX4_decide 5 = .ok (.getfield 136, 3) := by decide +kernel
theorem dX4_decide_8 : decode cX4_decide 8 = .ok (.invokestatic 62, 3) := by decide +kernel
theorem dX4_decide_11 : decode cX4_decide 11 = .ok (.aload_n 0, 1) := by decide +kernel
theorem dX4_decide_12 : decode cX4_decide 12 = .ok (.getfield 26, 3) := by decide +kernel
theorem dX4_decide_15 : decode cX4_decide 15 = .ok (.getfield 147, 3) := by decide +kernel
theorem dX4_decide_18 : decode cX4_decide 18 = .ok (.iload_n 1, 1) := by decide +kernel
theorem dX4_decide_19 : decode cX4_decide 19 = .ok (.iaload, 1) := by decide +kernel
theorem dX4_decide_20 : decode cX4_decide 20 = .ok (.invokestatic 150, 3) := by decide +kernel
theorem dX4_decide_23 : decode cX4_decide 23 = .ok (.aload_n 0, 1) := by decide +kernel
theorem dX4_decide_24 : decode cX4_decide 24 = .ok (.getfield 26, 3) := by decide +kernel
theorem dX4_decide_27 : decode cX4_decide 27 = .ok (.getfield 144, 3) := by decide +kernel
theorem dX4_decide_30 : decode cX4_decide 30 = .ok (.iload_n 1, 1) := by decide +kernel
theorem dX4_decide_31 : decode cX4_decide 31 = .ok (.iaload, 1) := by decide +kernel
theorem dX4_decide_32 : decode cX4_decide 32 = .ok (.istore_n 3, 1) := by decide +kernel
theorem dX4_decide_33 : decode cX4_decide 33 = .ok (.iload_n 2, 1) := by decide +kernel
theorem dX4_decide_34 : decode cX4_decide 34 = .ok (.iload_n 3, 1) := by decide +kernel
theorem dX4_decide_35 : decode cX4_decide 35 = .ok (.iconst (-1), 1) := by decide +kernel
theorem dX4_decide_36 : decode cX4_decide 36 = .ok (.if_icmp .ne 7, 3) := by decide +kernel
theorem dX4_decide_39 : decode cX4_decide 39 = .ok (.iconst 0, 1) := by decide +kernel
theorem dX4_decide_40 : decode cX4_decide 40 = .ok (.goto 4, 3) := by decide +kernel
theorem dX4_decide_43 : decode cX4_decide 43 = .ok (.iload_n 3, 1) := by decide +kernel
theorem dX4_decide_44 : decode cX4_decide 44 = .ok (.aload_n 0, 1) := by decide +kernel
theorem dX4_decide_45 : decode cX4_decide 45 = .ok (.getfield 26, 3) := by decide +kernel
theorem dX4_decide_48 : decode cX4_decide 48 = .ok (.getfield 143, 3) := by decide +kernel
theorem dX4_decide_51 : decode cX4_decide 51 = .ok (.iload_n 1, 1) := by decide +kernel
theorem dX4_decide_52 : decode cX4_decide 52 = .ok (.iaload, 1) := by decide +kernel
theorem dX4_decide_53 : decode cX4_decide 53 = .ok (.invokestatic 45, 3) := by decide +kernel
theorem dX4_decide_56 : decode cX4_decide 56 = .ok (.aload_n 0, 1) := by decide +kernel
theorem dX4_decide_57 : decode cX4_decide 57 = .ok (.getfield 26, 3) := by decide +kernel
theorem dX4_decide_60 : decode cX4_decide 60 = .ok (.getfield 147, 3) := by decide +kernel
theorem dX4_decide_63 : decode cX4_decide 63 = .ok (.iload_n 1, 1) := by decide +kernel
theorem dX4_decide_64 : decode cX4_decide 64 = .ok (.iload_n 2, 1) := by decide +kernel
theorem dX4_decide_65 : decode cX4_decide 65 = .ok (.iastore, 1) := by decide +kernel
theorem dX4_decide_66 : decode cX4_decide 66 = .ok (.aload_n 0, 1) := by decide +kernel
theorem dX4_decide_67 : decode cX4_decide 67 = .ok (.invokevirtual 156, 3) := by decide +kernel
theorem dX4_decide_70 : decode cX4_decide 70 = .ok (.ireturn, 1) := by decide +kernel
set_option maxRecDepth 20000 in
theorem ggX4_report_X4_checkRange : GoodIn wsX4_report wsX4_checkRange := goodIn_ca (goodIn_r _ [11, 12, 13] (by decide +kernel) (by decide +kernel)) (goodIn_sub (fun _ h => List.mem_cons_of_mem _ (List.mem_append_right _ h)) (by decide +kernel))
set_option maxRecDepth 20000 in
theorem gX4_report_X4_checkRange : GoodIn wsX4_report (va_wsS RX4 45 yX4_checkRange wsX4_checkRange) := goodIn_app (goodIn_of _ (by decide +kernel)) ggX4_report_X4_checkRange
set_option maxRecDepth 20000 in
theorem ggX4_report_X4_checkClosed : GoodIn wsX4_report wsX4_checkClosed := goodIn_ca (goodIn_r _ [17, 1, 2, 18, 83, 84, 85, 86, 87, 88, 89, 90, 91, 92, 93, 94, 95, 96] (by decide +kernel) (by decide +kernel)) (goodIn_sub (fun _ h => List.mem_cons_of_mem _ (List.mem_append_left _ (List.mem_append_right _ h))) (by decide +kernel))
set_option maxRecDepth 20000 in
theorem gX4_report_X4_checkClosed : GoodIn wsX4_report (wsV RX4 121 RX4 yX4_checkClosed wsX4_checkClosed) := goodIn_app (goodIn_of _ (by decide +kernel)) ggX4_report_X4_checkClosed
set_option maxRecDepth 20000 in
theorem ggX4_report_X1_tell : GoodIn wsX4_report wsX1_tell := goodIn_r _ [23, 24, 25, 26, 27, 28, 29, 30, 31, 22, 32, 33, 34, 97, 98, 99, 100, 101, 102, 103, 104] (by decide +kernel) (by decide +kernel)
set_option maxRecDepth 20000 in
theorem gX4_report_X1_tell : GoodIn wsX4_report (wsV RX4 169 RX1 yX1_tell wsX1_tell) := goodIn_app (goodIn_of _ (by decide +kernel)) ggX4_report_X1_tell
set_option maxRecDepth 20000 in
theorem ggX4_report_X4_owe : GoodIn wsX4_report wsX4_owe := goodIn_r _ [38, 39, 40, 41, 42, 43, 44, 45, 46, 47, 48, 10, 49, 50, 51, 52, 53, 54, 55, 56, 57, 58, 59, 60, 61, 62, 63, 64, 65, 66, 67, 68, 69, 70, 71, 72, 73, 74, 75, 76, 77, 78, 79, 80, 81, 82, 83, 84, 85, 86, 87, 88, 89, 90, 91, 92, 93, 94, 95, 96, 105, 106, 107, 108, 109, 110, 111, 112, 113, 114] (by decide +kernel) (by decide +kernel)
set_option maxRecDepth 20000 in
theorem gX4_report_X4_owe : GoodIn wsX4_report (wsV RX4 172 RX4 yX4_owe wsX4_owe) := goodIn_app (goodIn_of _ (by decide +kernel)) ggX4_report_X4_owe
theorem dX4_report_0 : decode cX4_report 0 = .ok (.iload_n 1, 1) := by decide +kernel
theorem dX4_report_1 : decode cX4_report 1 = .ok (.ldc 49, 2) := by decide +kernel
theorem dX4_report_3 : decode cX4_report 3 = .ok (.ldc 44, 2) := by decide +kernel
theorem dX4_report_5 : decode cX4_report 5 = .ok (.invokestatic 45, 3) := by decide +kernel
theorem dX4_report_8 : decode cX4_report 8 = .ok (.aload_n 0, 1) := by decide +kernel
theorem dX4_report_9 : decode cX4_report 9 = .ok (.invokevirtual 121, 3) := by decide +kernel
theorem dX4_report_12 : decode cX4_report 12 = .ok (.aload_n 0, 1) := by decide +kernel
theorem dX4_report_13 : decode cX4_report 13 = .ok (.getfield 33, 3) := by decide +kernel
theorem dX4_report_16 : decode cX4_report 16 = .ok (.getfield 159, 3) := by decide +kernel
theorem dX4_report_19 : decode cX4_report 19 = .ok (.ifCond .eq 13, 3) := by decide +kernel
theorem dX4_report_22 : decode cX4_report 22 = .ok (.new 124, 3) := by decide +kernel
theorem dX4_report_25 : decode cX4_report 25 = .ok (.dup, 1) := by decide +kernel
theorem dX4_report_26 : decode cX4_report 26 = .ok (.ldc 162, 2) := by decide +kernel
theorem dX4_report_28 : decode cX4_report 28 = .ok (.invokespecial 128, 3) := by decide +kernel
theorem dX4_report_31 : decode cX4_report 31 = .ok (.athrow, 1) := by decide +kernel
theorem dX4_report_32 : decode cX4_report 32 = .ok (.aload_n 0, 1) := by decide +kernel
theorem dX4_report_33 : decode cX4_report 33 = .ok (.getfield 33, 3) := by decide +kernel
theorem dX4_report_36 : decode cX4_report 36 = .ok (.getfield 164, 3) := by decide +kernel
theorem dX4_report_39 : decode cX4_report 39 = .ok (.iconst 4, 1) := by decide +kernel
theorem dX4_report_40 : decode cX4_report 40 = .ok (.if_icmp .lt 13, 3) := by decide +kernel
theorem dX4_report_43 : decode cX4_report 43 = .ok (.new 124, 3) := by decide +kernel
theorem dX4_report_46 : decode cX4_report 46 = .ok (.dup, 1) := by decide +kernel
theorem dX4_report_47 : decode cX4_report 47 = .ok (.ldc 167, 2) := by decide +kernel
theorem dX4_report_49 : decode cX4_report 49 = .ok (.invokespecial 128, 3) := by decide +kernel
theorem dX4_report_52 : decode cX4_report 52 = .ok (.athrow, 1) := by decide +kernel
theorem dX4_report_53 : decode cX4_report 53 = .ok (.aload_n 0, 1) := by decide +kernel
theorem dX4_report_54 : decode cX4_report 54 = .ok (.aload_n 0, 1) := by decide +kernel
theorem dX4_report_55 : decode cX4_report 55 = .ok (.getfield 33, 3) := by decide +kernel
theorem dX4_report_58 : decode cX4_report 58 = .ok (.iload_n 1, 1) := by decide +kernel
theorem dX4_report_59 : decode cX4_report 59 = .ok (.invokevirtual 169, 3) := by decide +kernel
theorem dX4_report_62 : decode cX4_report 62 = .ok (.invokevirtual 172, 3) := by decide +kernel
theorem dX4_report_65 : decode cX4_report 65 = .ok (.ireturn, 1) := by decide +kernel
set_option maxRecDepth 20000 in
theorem ggX4_speedUp_X4_checkClosed : GoodIn wsX4_speedUp wsX4_checkClosed := goodIn_ca (goodIn_r _ [9, 1, 2, 10, 72, 73, 74, 75, 76, 77, 78, 79, 80, 81, 82, 83, 84, 85] (by decide +kernel) (by decide +kernel)) (goodIn_sub (fun _ h => List.mem_cons_of_mem _ (List.mem_append_right _ h)) (by decide +kernel))
set_option maxRecDepth 20000 in
theorem gX4_speedUp_X4_checkClosed : GoodIn wsX4_speedUp (wsV RX4 121 RX4 yX4_checkClosed wsX4_checkClosed) := goodIn_app (goodIn_of _ (by decide +kernel)) ggX4_speedUp_X4_checkClosed
set_option maxRecDepth 20000 in
theorem ggX4_speedUp_X1_hasten : GoodIn wsX4_speedUp wsX1_hasten := goodIn_r _ [15, 16, 17, 18, 19, 20, 14, 21, 22, 23, 86, 87, 88, 89, 90, 91, 92, 93] (by decide +kernel) (by decide +kernel)
set_option maxRecDepth 20000 in
theorem gX4_speedUp_X1_hasten : GoodIn wsX4_speedUp (wsV RX4 175 RX1 yX1_hasten wsX1_hasten) := goodIn_app (goodIn_of _ (by decide +kernel)) ggX4_speedUp_X1_hasten
set_option maxRecDepth 20000 in
theorem ggX4_speedUp_X4_owe : GoodIn wsX4_speedUp wsX4_owe := goodIn_r _ [27, 28, 29, 30, 31, 32, 33, 34, 35, 36, 37, 8, 38, 39, 40, 41, 42, 43, 44, 45, 46, 47, 48, 49, 50, 51, 52, 53, 54, 55, 56, 57, 58, 59, 60, 61, 62, 63, 64, 65, 66, 67, 68, 69, 70, 71, 72, 73, 74, 75, 76, 77, 78, 79, 80, 81, 82, 83, 84, 85, 94, 95, 96, 97, 98, 99, 100, 101, 102, 103] (by decide +kernel) (by decide +kernel)
set_option maxRecDepth 20000 in
theorem gX4_speedUp_X4_owe : GoodIn wsX4_speedUp (wsV RX4 172 RX4 yX4_owe wsX4_owe) := goodIn_app (goodIn_of _ (by decide +kernel)) ggX4_speedUp_X4_owe
theorem dX4_speedUp_0 : decode cX4_speedUp 0 = .ok (.aload_n 0, 1) := by decide +kernel
theorem dX4_speedUp_1 : decode cX4_speedUp 1 = .ok (.invokevirtual 121, 3) := by decide +kernel
theorem dX4_speedUp_4 : decode cX4_speedUp 4 = .ok (.aload_n 0, 1) := by decide +kernel
theorem dX4_speedUp_5 : decode cX4_speedUp 5 = .ok (.getfield 33, 3) := by decide +kernel
theorem dX4_speedUp_8 : decode cX4_speedUp 8 = .ok (.getfield 159, 3) := by decide +kernel
theorem dX4_speedUp_11 : decode cX4_speedUp 11 = .ok (.ifCond .eq 13, 3) := by decide +kernel
theorem dX4_speedUp_14 : decode cX4_speedUp 14 = .ok (.new 124, 3) := by decide +kernel
theorem dX4_speedUp_17 : decode cX4_speedUp 17 = .ok (.dup, 1) := by decide +kernel
theorem dX4_speedUp_18 : decode cX4_speedUp 18 = .ok (.ldc 162, 2) := by decide +kernel
theorem dX4_speedUp_20 : decode cX4_speedUp 20 = .ok (.invokespecial 128, 3) := by decide +kernel
theorem dX4_speedUp_23 : decode cX4_speedUp 23 = .ok (.athrow, 1) := by decide +kernel
theorem dX4_speedUp_24 : decode cX4_speedUp 24 = .ok (.aload_n 0, 1) := by decide +kernel
theorem dX4_speedUp_25 : decode cX4_speedUp 25 = .ok (.aload_n 0, 1) := by decide +kernel
theorem dX4_speedUp_26 : decode cX4_speedUp 26 = .ok (.getfield 33, 3) := by decide +kernel
theorem dX4_speedUp_29 : decode cX4_speedUp 29 = .ok (.invokevirtual 175, 3) := by decide +kernel
theorem dX4_speedUp_32 : decode cX4_speedUp 32 = .ok (.invokevirtual 172, 3) := by decide +kernel
theorem dX4_speedUp_35 : decode cX4_speedUp 35 = .ok (.ireturn, 1) := by decide +kernel
theorem dX4_day_0 : decode cX4_day 0 = .ok (.aload_n 0, 1) := by decide +kernel
theorem dX4_day_1 : decode cX4_day 1 = .ok (.getfield 37, 3) := by decide +kernel
theorem dX4_day_4 : decode cX4_day 4 = .ok (.ireturn, 1) := by decide +kernel
theorem dX4_finalPrice_0 : decode cX4_finalPrice 0 = .ok (.aload_n 0, 1) := by decide +kernel
theorem dX4_finalPrice_1 : decode cX4_finalPrice 1 = .ok (.getfield 41, 3) := by decide +kernel
theorem dX4_finalPrice_4 : decode cX4_finalPrice 4 = .ok (.ireturn, 1) := by decide +kernel
theorem dX4_held_0 : decode cX4_held 0 = .ok (.aload_n 0, 1) := by decide +kernel
theorem dX4_held_1 : decode cX4_held 1 = .ok (.getfield 115, 3) := by decide +kernel
theorem dX4_held_4 : decode cX4_held 4 = .ok (.ireturn, 1) := by decide +kernel
theorem dX4_paid_0 : decode cX4_paid 0 = .ok (.aload_n 0, 1) := by decide +kernel
theorem dX4_paid_1 : decode cX4_paid 1 = .ok (.getfield 118, 3) := by decide +kernel
theorem dX4_paid_4 : decode cX4_paid 4 = .ok (.ireturn, 1) := by decide +kernel
theorem dX4_returned_0 : decode cX4_returned 0 = .ok (.aload_n 0, 1) := by decide +kernel
theorem dX4_returned_1 : decode cX4_returned 1 = .ok (.getfield 178, 3) := by decide +kernel
theorem dX4_returned_4 : decode cX4_returned 4 = .ok (.ireturn, 1) := by decide +kernel
theorem dX4_setOff_0 : decode cX4_setOff 0 = .ok (.aload_n 0, 1) := by decide +kernel
theorem dX4_setOff_1 : decode cX4_setOff 1 = .ok (.getfield 181, 3) := by decide +kernel
theorem dX4_setOff_4 : decode cX4_setOff 4 = .ok (.ireturn, 1) := by decide +kernel
theorem dX4_owed_0 : decode cX4_owed 0 = .ok (.aload_n 0, 1) := by decide +kernel
theorem dX4_owed_1 : decode cX4_owed 1 = .ok (.getfield 184, 3) := by decide +kernel
theorem dX4_owed_4 : decode cX4_owed 4 = .ok (.ireturn, 1) := by decide +kernel
set_option maxRecDepth 20000 in
theorem ggX4_due_X4_dueInAll : GoodIn wsX4_due wsX4_dueInAll := goodIn_r _ [5, 6, 7, 8, 4, 9, 10, 11, 12, 13, 14, 15, 16, 17, 18, 19, 20, 21, 22, 23, 24, 25, 26, 27, 28, 29, 30, 31, 32, 33, 34, 35, 36, 37, 38, 39, 40, 41, 42, 43, 44, 45, 46, 47, 48, 49, 50, 51, 52, 53, 54, 55, 56, 57, 58, 59, 60] (by decide +kernel) (by decide +kernel)
set_option maxRecDepth 20000 in
theorem gX4_due_X4_dueInAll : GoodIn wsX4_due (wsV RX4 187 RX4 yX4_dueInAll wsX4_dueInAll) := goodIn_app (goodIn_of _ (by decide +kernel)) ggX4_due_X4_dueInAll
theorem dX4_due_0 : decode cX4_due 0 = .ok (.aload_n 0, 1) := by decide +kernel
theorem dX4_due_1 : decode cX4_due 1 = .ok (.invokevirtual 187, 3) := by decide +kernel
theorem dX4_due_4 : decode cX4_due 4 = .ok (.ireturn, 1) := by decide +kernel
set_option maxRecDepth 20000 in
theorem ggX4_outstanding_X4_leftOutstanding : GoodIn wsX4_outstanding wsX4_leftOutstanding := goodIn_r _ [5, 6, 7, 8, 9, 10, 4, 11, 12, 13, 14, 15, 16, 17, 18, 19, 20, 21, 22, 23, 24, 25, 26, 27, 28, 29, 30, 31, 32, 33, 34, 35, 36, 37, 38, 39, 40, 41, 42, 43, 44, 45, 46, 47, 48, 49, 50, 51, 52, 53, 54, 55, 56, 57, 58, 59, 60, 61, 62, 63, 64, 65, 66] (by decide +kernel) (by decide +kernel)
set_option maxRecDepth 20000 in
theorem gX4_outstanding_X4_leftOutstanding : GoodIn wsX4_outstanding (wsV RX4 190 RX4 yX4_leftOutstanding wsX4_leftOutstanding) := goodIn_app (goodIn_of _ (by decide +kernel)) ggX4_outstanding_X4_leftOutstanding
theorem dX4_outstanding_0 : decode cX4_outstanding 0 = .ok (.aload_n 0, 1) := by decide +kernel
theorem dX4_outstanding_1 : decode cX4_outstanding 1 = .ok (.invokevirtual 190, 3) := by decide +kernel
theorem dX4_outstanding_4 : decode cX4_outstanding 4 = .ok (.ireturn, 1) := by decide +kernel
set_option maxRecDepth 20000 in
theorem ggX4_dueOf_X4_checkNumber : GoodIn wsX4_dueOf wsX4_checkNumber := goodIn_ca (goodIn_r _ [4, 5, 6] (by decide +kernel) (by decide +kernel)) (goodIn_sub (fun _ h => List.mem_cons_of_mem _ (List.mem_append_right _ h)) (by decide +kernel))
set_option maxRecDepth 20000 in
theorem gX4_dueOf_X4_checkNumber : GoodIn wsX4_dueOf (va_wsS RX4 62 yX4_checkNumber wsX4_checkNumber) := goodIn_app (goodIn_of _ (by decide +kernel)) ggX4_dueOf_X4_checkNumber
set_option maxRecDepth 20000 in
theorem ggX4_dueOf_X4_dueOfKind : GoodIn wsX4_dueOf wsX4_dueOfKind := goodIn_r _ [10, 11, 12, 13, 14, 15, 16, 17, 18, 19, 20, 21, 22, 23, 24, 25, 26, 27, 28, 29, 30, 31, 32, 33, 34, 35, 36, 37, 38, 39, 40, 41, 42, 43, 44, 45, 46, 47, 48, 49, 50, 51, 52, 53, 54, 55, 56, 57, 58, 59, 60, 61] (by decide +kernel) (by decide +kernel)
set_option maxRecDepth 20000 in
theorem gX4_dueOf_X4_dueOfKind : GoodIn wsX4_dueOf (wsV RX4 193 RX4 yX4_dueOfKind wsX4_dueOfKind) := goodIn_app (goodIn_of _ (by decide +kernel)) ggX4_dueOf_X4_dueOfKind
theorem dX4_dueOf_0 : decode cX4_dueOf 0 = .ok (.iload_n 1, 1) := by decide +kernel
theorem dX4_dueOf_1 : decode cX4_dueOf 1 = .ok (.iconst 3, 1) := by decide +kernel
theorem dX4_dueOf_2 : decode cX4_dueOf 2 = .ok (.invokestatic 62, 3) := by decide +kernel
theorem dX4_dueOf_5 : decode cX4_dueOf 5 = .ok (.aload_n 0, 1) := by decide +kernel
theorem dX4_dueOf_6 : decode cX4_dueOf 6 = .ok (.iload_n 1, 1) := by decide +kernel
theorem dX4_dueOf_7 : decode cX4_dueOf 7 = .ok (.invokevirtual 193, 3) := by decide +kernel
theorem dX4_dueOf_10 : decode cX4_dueOf 10 = .ok (.ireturn, 1) := by decide +kernel
theorem dX4_claims_0 : decode cX4_claims 0 = .ok (.aload_n 0, 1) := by decide +kernel
theorem dX4_claims_1 : decode cX4_claims 1 = .ok (.getfield 26, 3) := by decide +kernel
theorem dX4_claims_4 : decode cX4_claims 4 = .ok (.getfield 136, 3) := by decide +kernel
theorem dX4_claims_7 : decode cX4_claims 7 = .ok (.ireturn, 1) := by decide +kernel
set_option maxRecDepth 20000 in
theorem ggX4_settledAt_X4_checkNumber : GoodIn wsX4_settledAt wsX4_checkNumber := goodIn_ca (goodIn_r _ [7, 8, 9] (by decide +kernel) (by decide +kernel)) (goodIn_sub (fun _ h => List.mem_cons_of_mem _ (List.mem_append_right _ h)) (by decide +kernel))
set_option maxRecDepth 20000 in
theorem gX4_settledAt_X4_checkNumber : GoodIn wsX4_settledAt (va_wsS RX4 62 yX4_checkNumber wsX4_checkNumber) := goodIn_app (goodIn_of _ (by decide +kernel)) ggX4_settledAt_X4_checkNumber
theorem dX4_settledAt_0 : decode cX4_settledAt 0 = .ok (.iload_n 1, 1) := by decide +kernel
theorem dX4_settledAt_1 : decode cX4_settledAt 1 = .ok (.aload_n 0, 1) := by decide +kernel
theorem dX4_settledAt_2 : decode cX4_settledAt 2 = .ok (.getfield 26, 3) := by decide +kernel
theorem dX4_settledAt_5 : decode cX4_settledAt 5 = .ok (.getfield 136, 3) := by decide +kernel
theorem dX4_settledAt_8 : decode cX4_settledAt 8 = .ok (.invokestatic 62, 3) := by decide +kernel
theorem dX4_settledAt_11 : decode cX4_settledAt 11 = .ok (.aload_n 0, 1) := by decide +kernel
theorem dX4_settledAt_12 : decode cX4_settledAt 12 = .ok (.getfield 26, 3) := by decide +kernel
theorem dX4_settledAt_15 : decode cX4_settledAt 15 = .ok (.getfield 147, 3) := by decide +kernel
theorem dX4_settledAt_18 : decode cX4_settledAt 18 = .ok (.iload_n 1, 1) := by decide +kernel
theorem dX4_settledAt_19 : decode cX4_settledAt 19 = .ok (.iaload, 1) := by decide +kernel
theorem dX4_settledAt_20 : decode cX4_settledAt 20 = .ok (.ireturn, 1) := by decide +kernel
set_option maxRecDepth 20000 in
theorem ggX4_isMet_X4_checkNumber : GoodIn wsX4_isMet wsX4_checkNumber := goodIn_ca (goodIn_r _ [6, 7, 8] (by decide +kernel) (by decide +kernel)) (goodIn_sub (fun _ h => List.mem_cons_of_mem _ (List.mem_append_right _ h)) (by decide +kernel))
set_option maxRecDepth 20000 in
theorem gX4_isMet_X4_checkNumber : GoodIn wsX4_isMet (va_wsS RX4 62 yX4_checkNumber wsX4_checkNumber) := goodIn_app (goodIn_of _ (by decide +kernel)) ggX4_isMet_X4_checkNumber
theorem dX4_isMet_0 : decode cX4_isMet 0 = .ok (.iload_n 1, 1) := by decide +kernel
theorem dX4_isMet_1 : decode cX4_isMet 1 = .ok (.iconst 4, 1) := by decide +kernel
theorem dX4_isMet_2 : decode cX4_isMet 2 = .ok (.invokestatic 62, 3) := by decide +kernel
theorem dX4_isMet_5 : decode cX4_isMet 5 = .ok (.aload_n 0, 1) := by decide +kernel
theorem dX4_isMet_6 : decode cX4_isMet 6 = .ok (.getfield 33, 3) := by decide +kernel
theorem dX4_isMet_9 : decode cX4_isMet 9 = .ok (.getfield 196, 3) := by decide +kernel
theorem dX4_isMet_12 : decode cX4_isMet 12 = .ok (.iload_n 1, 1) := by decide +kernel
theorem dX4_isMet_13 : decode cX4_isMet 13 = .ok (.baload, 1) := by decide +kernel
theorem dX4_isMet_14 : decode cX4_isMet 14 = .ok (.ireturn, 1) := by decide +kernel
theorem dX4_checkNumber_0 : decode cX4_checkNumber 0 = .ok (.iload_n 0, 1) := by decide +kernel
theorem dX4_checkNumber_1 : decode cX4_checkNumber 1 = .ok (.ifCond .lt 8, 3) := by decide +kernel
theorem dX4_checkNumber_4 : decode cX4_checkNumber 4 = .ok (.iload_n 0, 1) := by decide +kernel
theorem dX4_checkNumber_5 : decode cX4_checkNumber 5 = .ok (.iload_n 1, 1) := by decide +kernel
theorem dX4_checkNumber_6 : decode cX4_checkNumber 6 = .ok (.if_icmp .lt 13, 3) := by decide +kernel
theorem dX4_checkNumber_9 : decode cX4_checkNumber 9 = .ok (.new 199, 3) := by decide +kernel
theorem dX4_checkNumber_12 : decode cX4_checkNumber 12 = .ok (.dup, 1) := by decide +kernel
theorem dX4_checkNumber_13 : decode cX4_checkNumber 13 = .ok (.ldc 201, 2) := by decide +kernel
theorem dX4_checkNumber_15 : decode cX4_checkNumber 15 = .ok (.invokespecial 203, 3) := by decide +kernel
theorem dX4_checkNumber_18 : decode cX4_checkNumber 18 = .ok (.athrow, 1) := by decide +kernel
theorem dX4_checkNumber_19 : decode cX4_checkNumber 19 = .ok (.return_, 1) := by decide +kernel
theorem dX4_checkRange_0 : decode cX4_checkRange 0 = .ok (.iload_n 0, 1) := by decide +kernel
theorem dX4_checkRange_1 : decode cX4_checkRange 1 = .ok (.iload_n 1, 1) := by decide +kernel
theorem dX4_checkRange_2 : decode cX4_checkRange 2 = .ok (.if_icmp .lt 8, 3) := by decide +kernel
theorem dX4_checkRange_5 : decode cX4_checkRange 5 = .ok (.iload_n 0, 1) := by decide +kernel
theorem dX4_checkRange_6 : decode cX4_checkRange 6 = .ok (.iload_n 2, 1) := by decide +kernel
theorem dX4_checkRange_7 : decode cX4_checkRange 7 = .ok (.if_icmp .le 13, 3) := by decide +kernel
theorem dX4_checkRange_10 : decode cX4_checkRange 10 = .ok (.new 204, 3) := by decide +kernel
theorem dX4_checkRange_13 : decode cX4_checkRange 13 = .ok (.dup, 1) := by decide +kernel
theorem dX4_checkRange_14 : decode cX4_checkRange 14 = .ok (.ldc 206, 2) := by decide +kernel
theorem dX4_checkRange_16 : decode cX4_checkRange 16 = .ok (.invokespecial 208, 3) := by decide +kernel
theorem dX4_checkRange_19 : decode cX4_checkRange 19 = .ok (.athrow, 1) := by decide +kernel
theorem dX4_checkRange_20 : decode cX4_checkRange 20 = .ok (.return_, 1) := by decide +kernel
theorem dX4_checkOpen_0 : decode cX4_checkOpen 0 = .ok (.iload_n 0, 1) := by decide +kernel
theorem dX4_checkOpen_1 : decode cX4_checkOpen 1 = .ok (.iconst (-1), 1) := by decide +kernel
theorem dX4_checkOpen_2 : decode cX4_checkOpen 2 = .ok (.if_icmp .eq 13, 3) := by decide +kernel
theorem dX4_checkOpen_5 : decode cX4_checkOpen 5 = .ok (.new 124, 3) := by decide +kernel
theorem dX4_checkOpen_8 : decode cX4_checkOpen 8 = .ok (.dup, 1) := by decide +kernel
theorem dX4_checkOpen_9 : decode cX4_checkOpen 9 = .ok (.ldc 209, 2) := by decide +kernel
theorem dX4_checkOpen_11 : decode cX4_checkOpen 11 = .ok (.invokespecial 128, 3) := by decide +kernel
theorem dX4_checkOpen_14 : decode cX4_checkOpen 14 = .ok (.athrow, 1) := by decide +kernel
theorem dX4_checkOpen_15 : decode cX4_checkOpen 15 = .ok (.return_, 1) := by decide +kernel
theorem dX4_checkNotClosed_0 : decode cX4_checkNotClosed 0 = .ok (.aload_n 0, 1) := by decide +kernel
theorem dX4_checkNotClosed_1 : decode cX4_checkNotClosed 1 = .ok (.getfield 37, 3) := by decide +kernel
theorem dX4_checkNotClosed_4 : decode cX4_checkNotClosed 4 = .ok (.iconst (-1), 1) := by decide +kernel
theorem dX4_checkNotClosed_5 : decode cX4_checkNotClosed 5 = .ok (.if_icmp .eq 13, 3) := by decide +kernel
theorem dX4_checkNotClosed_8 : decode cX4_checkNotClosed 8 = .ok (.new 124, 3) := by decide +kernel
theorem dX4_checkNotClosed_11 : decode cX4_checkNotClosed 11 = .ok (.dup, 1) := by decide +kernel
theorem dX4_checkNotClosed_12 : decode cX4_checkNotClosed 12 = .ok (.ldc 211, 2) := by decide +kernel
theorem dX4_checkNotClosed_14 : decode cX4_checkNotClosed 14 = .ok (.invokespecial 128, 3) := by decide +kernel
theorem dX4_checkNotClosed_17 : decode cX4_checkNotClosed 17 = .ok (.athrow, 1) := by decide +kernel
theorem dX4_checkNotClosed_18 : decode cX4_checkNotClosed 18 = .ok (.return_, 1) := by decide +kernel
theorem dX4_checkClosed_0 : decode cX4_checkClosed 0 = .ok (.aload_n 0, 1) := by decide +kernel
theorem dX4_checkClosed_1 : decode cX4_checkClosed 1 = .ok (.getfield 37, 3) := by decide +kernel
theorem dX4_checkClosed_4 : decode cX4_checkClosed 4 = .ok (.iconst (-1), 1) := by decide +kernel
theorem dX4_checkClosed_5 : decode cX4_checkClosed 5 = .ok (.if_icmp .ne 13, 3) := by decide +kernel
theorem dX4_checkClosed_8 : decode cX4_checkClosed 8 = .ok (.new 124, 3) := by decide +kernel
theorem dX4_checkClosed_11 : decode cX4_checkClosed 11 = .ok (.dup, 1) := by decide +kernel
theorem dX4_checkClosed_12 : decode cX4_checkClosed 12 = .ok (.ldc 213, 2) := by decide +kernel
theorem dX4_checkClosed_14 : decode cX4_checkClosed 14 = .ok (.invokespecial 128, 3) := by decide +kernel
theorem dX4_checkClosed_17 : decode cX4_checkClosed 17 = .ok (.athrow, 1) := by decide +kernel
theorem dX4_checkClosed_18 : decode cX4_checkClosed 18 = .ok (.return_, 1) := by decide +kernel
theorem dX4_beyondCollar_0 : decode cX4_beyondCollar 0 = .ok (.iload_n 1, 1) := by decide +kernel
theorem dX4_beyondCollar_1 : decode cX4_beyondCollar 1 = .ok (.aload_n 0, 1) := by decide +kernel
theorem dX4_beyondCollar_2 : decode cX4_beyondCollar 2 = .ok (.getfield 59, 3) := by decide +kernel
theorem dX4_beyondCollar_5 : decode cX4_beyondCollar 5 = .ok (.if_icmp .le 10, 3) := by decide +kernel
theorem dX4_beyondCollar_8 : decode cX4_beyondCollar 8 = .ok (.iload_n 1, 1) := by decide +kernel
theorem dX4_beyondCollar_9 : decode cX4_beyondCollar 9 = .ok (.aload_n 0, 1) := by decide +kernel
theorem dX4_beyondCollar_10 : decode cX4_beyondCollar 10 = .ok (.getfield 59, 3) := by decide +kernel
theorem dX4_beyondCollar_13 : decode cX4_beyondCollar 13 = .ok (.isub, 1) := by decide +kernel
theorem dX4_beyondCollar_14 : decode cX4_beyondCollar 14 = .ok (.ireturn, 1) := by decide +kernel
theorem dX4_beyondCollar_15 : decode cX4_beyondCollar 15 = .ok (.iload_n 1, 1) := by decide +kernel
theorem dX4_beyondCollar_16 : decode cX4_beyondCollar 16 = .ok (.aload_n 0, 1) := by decide +kernel
theorem dX4_beyondCollar_17 : decode cX4_beyondCollar 17 = .ok (.getfield 59, 3) := by decide +kernel
theorem dX4_beyondCollar_20 : decode cX4_beyondCollar 20 = .ok (.ineg, 1) := by decide +kernel
theorem dX4_beyondCollar_21 : decode cX4_beyondCollar 21 = .ok (.if_icmp .ge 10, 3) := by decide +kernel
theorem dX4_beyondCollar_24 : decode cX4_beyondCollar 24 = .ok (.iload_n 1, 1) := by decide +kernel
theorem dX4_beyondCollar_25 : decode cX4_beyondCollar 25 = .ok (.aload_n 0, 1) := by decide +kernel
theorem dX4_beyondCollar_26 : decode cX4_beyondCollar 26 = .ok (.getfield 59, 3) := by decide +kernel
theorem dX4_beyondCollar_29 : decode cX4_beyondCollar 29 = .ok (.iadd, 1) := by decide +kernel
theorem dX4_beyondCollar_30 : decode cX4_beyondCollar 30 = .ok (.ireturn, 1) := by decide +kernel
theorem dX4_beyondCollar_31 : decode cX4_beyondCollar 31 = .ok (.iconst 0, 1) := by decide +kernel
theorem dX4_beyondCollar_32 : decode cX4_beyondCollar 32 = .ok (.ireturn, 1) := by decide +kernel
set_option maxRecDepth 20000 in
theorem ggX4_dueOfKind_X0_settledSum : GoodIn wsX4_dueOfKind wsX0_settledSum := goodIn_r _ [8, 9, 10, 11, 47, 48, 49, 50, 51] (by decide +kernel) (by decide +kernel)
set_option maxRecDepth 20000 in
theorem gX4_dueOfKind_X0_settledSum : GoodIn wsX4_dueOfKind (wsV RX4 215 RX0 yX0_settledSum wsX0_settledSum) := goodIn_app (goodIn_of _ (by decide +kernel)) ggX4_dueOfKind_X0_settledSum
set_option maxRecDepth 20000 in
theorem ggX4_dueOfKind_X3_limit : GoodIn wsX4_dueOfKind wsX3_limit := goodIn_r _ [16, 17, 18, 19, 20, 21, 22, 23, 24, 15, 25, 26, 27, 42, 43, 44, 45, 46] (by decide +kernel) (by decide +kernel)
set_option maxRecDepth 20000 in
theorem gX4_dueOfKind_X3_limit : GoodIn wsX4_dueOfKind (wsV RX4 218 RX3 yX3_limit wsX3_limit) := goodIn_app (goodIn_of _ (by decide +kernel)) ggX4_dueOfKind_X3_limit
theorem dX4_dueOfKind_0 : decode cX4_dueOfKind 0 = .ok (.aload_n 0, 1) := by decide +kernel
theorem dX4_dueOfKind_1 : decode cX4_dueOfKind 1 = .ok (.getfield 19, 3) := by decide +kernel
theorem dX4_dueOfKind_4 : decode cX4_dueOfKind 4 = .ok (.iload_n 1, 1) := by decide +kernel
theorem dX4_dueOfKind_5 : decode cX4_dueOfKind 5 = .ok (.aload_n 0, 1) := by decide +kernel
theorem dX4_dueOfKind_6 : decode cX4_dueOfKind 6 = .ok (.getfield 26, 3) := by decide +kernel
theorem dX4_dueOfKind_9 : decode cX4_dueOfKind 9 = .ok (.iload_n 1, 1) := by decide +kernel
theorem dX4_dueOfKind_10 : decode cX4_dueOfKind 10 = .ok (.aload_n 0, 1) := by decide +kernel
theorem dX4_dueOfKind_11 : decode cX4_dueOfKind 11 = .ok (.getfield 19, 3) := by decide +kernel
theorem dX4_dueOfKind_14 : decode cX4_dueOfKind 14 = .ok (.getfield 74, 3) := by decide +kernel
theorem dX4_dueOfKind_17 : decode cX4_dueOfKind 17 = .ok (.iload_n 1, 1) := by decide +kernel
theorem dX4_dueOfKind_18 : decode cX4_dueOfKind 18 = .ok (.iaload, 1) := by decide +kernel
theorem dX4_dueOfKind_19 : decode cX4_dueOfKind 19 = .ok (.invokevirtual 215, 3) := by decide +kernel
theorem dX4_dueOfKind_22 : decode cX4_dueOfKind 22 = .ok (.invokevirtual 218, 3) := by decide +kernel
theorem dX4_dueOfKind_25 : decode cX4_dueOfKind 25 = .ok (.ireturn, 1) := by decide +kernel
set_option maxRecDepth 20000 in
theorem ggX4_dueInAll_X4_dueOfKind : GoodIn wsX4_dueInAll wsX4_dueOfKind := goodIn_r _ [5, 6, 7, 8, 9, 10, 11, 12, 13, 14, 15, 16, 17, 18, 19, 20, 21, 22, 23, 24, 25, 26, 27, 28, 29, 30, 31, 32, 33, 34, 35, 36, 37, 38, 39, 40, 41, 42, 43, 44, 45, 46, 47, 48, 49, 50, 51, 52, 53, 54, 55, 56] (by decide +kernel) (by decide +kernel)
set_option maxRecDepth 20000 in
theorem gX4_dueInAll_X4_dueOfKind : GoodIn wsX4_dueInAll (wsV RX4 193 RX4 yX4_dueOfKind wsX4_dueOfKind) := goodIn_app (goodIn_of _ (by decide +kernel)) ggX4_dueInAll_X4_dueOfKind
theorem dX4_dueInAll_0 : decode cX4_dueInAll 0 = .ok (.iconst 0, 1) := by decide +kernel
theorem dX4_dueInAll_1 : decode cX4_dueInAll 1 = .ok (.istore_n 1, 1) := by decide +kernel
theorem dX4_dueInAll_2 : decode cX4_dueInAll 2 = .ok (.iconst 0, 1) := by decide +kernel
theorem dX4_dueInAll_3 : decode cX4_dueInAll 3 = .ok (.istore_n 2, 1) := by decide +kernel
theorem dX4_dueInAll_4 : decode cX4_dueInAll 4 = .ok (.iload_n 2, 1) := by decide +kernel
theorem dX4_dueInAll_5 : decode cX4_dueInAll 5 = .ok (.iconst 3, 1) := by decide +kernel
theorem dX4_dueInAll_6 : decode cX4_dueInAll 6 = .ok (.if_icmp .ge 17, 3) := by decide +kernel
theorem dX4_dueInAll_9 : decode cX4_dueInAll 9 = .ok (.iload_n 1, 1) := by decide +kernel
theorem dX4_dueInAll_10 : decode cX4_dueInAll 10 = .ok (.aload_n 0, 1) := by decide +kernel
theorem dX4_dueInAll_11 : decode cX4_dueInAll 11 = .ok (.iload_n 2, 1) := by decide +kernel
theorem dX4_dueInAll_12 : decode cX4_dueInAll 12 = .ok (.invokevirtual 193, 3) := by decide +kernel
theorem dX4_dueInAll_15 : decode cX4_dueInAll 15 = .ok (.iadd, 1) := by decide +kernel
theorem dX4_dueInAll_16 : decode cX4_dueInAll 16 = .ok (.istore_n 1, 1) := by decide +kernel
theorem dX4_dueInAll_17 : decode cX4_dueInAll 17 = .ok (.iinc 2 1, 3) := by decide +kernel
theorem dX4_dueInAll_20 : decode cX4_dueInAll 20 = .ok (.goto (-16), 3) := by decide +kernel
theorem dX4_dueInAll_23 : decode cX4_dueInAll 23 = .ok (.iload_n 1, 1) := by decide +kernel
theorem dX4_dueInAll_24 : decode cX4_dueInAll 24 = .ok (.ireturn, 1) := by decide +kernel
set_option maxRecDepth 20000 in
theorem ggX4_leftOutstanding_X4_dueInAll : GoodIn wsX4_leftOutstanding wsX4_dueInAll := goodIn_r _ [7, 8, 9, 10, 6, 11, 12, 13, 14, 15, 16, 17, 18, 19, 20, 21, 22, 23, 24, 25, 26, 27, 28, 29, 30, 31, 32, 33, 34, 35, 36, 37, 38, 39, 40, 41, 42, 43, 44, 45, 46, 47, 48, 49, 50, 51, 52, 53, 54, 55, 56, 57, 58, 59, 60, 61, 62] (by decide +kernel) (by decide +kernel)
set_option maxRecDepth 20000 in
theorem gX4_leftOutstanding_X4_dueInAll : GoodIn wsX4_leftOutstanding (wsV RX4 187 RX4 yX4_dueInAll wsX4_dueInAll) := goodIn_app (goodIn_of _ (by decide +kernel)) ggX4_leftOutstanding_X4_dueInAll
theorem dX4_leftOutstanding_0 : decode cX4_leftOutstanding 0 = .ok (.aload_n 0, 1) := by decide +kernel
theorem dX4_leftOutstanding_1 : decode cX4_leftOutstanding 1 = .ok (.invokevirtual 187, 3) := by decide +kernel
theorem dX4_leftOutstanding_4 : decode cX4_leftOutstanding 4 = .ok (.aload_n 0, 1) := by decide +kernel
theorem dX4_leftOutstanding_5 : decode cX4_leftOutstanding 5 = .ok (.getfield 178, 3) := by decide +kernel
theorem dX4_leftOutstanding_8 : decode cX4_leftOutstanding 8 = .ok (.isub, 1) := by decide +kernel
theorem dX4_leftOutstanding_9 : decode cX4_leftOutstanding 9 = .ok (.aload_n 0, 1) := by decide +kernel
theorem dX4_leftOutstanding_10 : decode cX4_leftOutstanding 10 = .ok (.getfield 181, 3) := by decide +kernel
theorem dX4_leftOutstanding_13 : decode cX4_leftOutstanding 13 = .ok (.isub, 1) := by decide +kernel
theorem dX4_leftOutstanding_14 : decode cX4_leftOutstanding 14 = .ok (.ireturn, 1) := by decide +kernel
set_option maxRecDepth 20000 in
theorem ggX4_payOut_X4_leftOutstanding : GoodIn wsX4_payOut wsX4_leftOutstanding := goodIn_r _ [11, 6, 12, 13, 14, 15, 10, 16, 17, 18, 19, 20, 21, 22, 23, 24, 25, 26, 27, 28, 29, 30, 31, 32, 33, 34, 35, 36, 37, 38, 3, 4, 5, 39, 40, 41, 42, 43, 44, 64, 65, 66, 67, 68, 69, 70, 71, 72, 73, 74, 75, 76, 77, 78, 79, 80, 81, 82, 83, 84, 85, 86, 87] (by decide +kernel) (by decide +kernel)
set_option maxRecDepth 20000 in
theorem gX4_payOut_X4_leftOutstanding : GoodIn wsX4_payOut (wsV RX4 190 RX4 yX4_leftOutstanding wsX4_leftOutstanding) := goodIn_app (goodIn_of _ (by decide +kernel)) ggX4_payOut_X4_leftOutstanding
set_option maxRecDepth 20000 in
theorem ggX4_payOut_X4_free : GoodIn wsX4_payOut wsX4_free := goodIn_r _ [48, 49, 50, 22, 1, 51, 52, 53, 54, 55, 56, 57, 58, 59, 60, 61, 27, 62, 29, 31, 63, 64, 65, 66, 67, 68, 69, 70, 71, 72, 73, 74, 75, 76, 77, 88, 89, 83, 84, 85, 86, 87] (by decide +kernel) (by decide +kernel)
set_option maxRecDepth 20000 in
theorem gX4_payOut_X4_free : GoodIn wsX4_payOut (wsV RX4 131 RX4 yX4_free wsX4_free) := goodIn_app (goodIn_of _ (by decide +kernel)) ggX4_payOut_X4_free
theorem dX4_payOut_0 : decode cX4_payOut 0 = .ok (.aload_n 0, 1) := by decide +kernel
theorem dX4_payOut_1 : decode cX4_payOut 1 = .ok (.invokevirtual 190, 3) := by decide +kernel
theorem dX4_payOut_4 : decode cX4_payOut 4 = .ok (.aload_n 0, 1) := by decide +kernel
theorem dX4_payOut_5 : decode cX4_payOut 5 = .ok (.getfield 115, 3) := by decide +kernel
theorem dX4_payOut_8 : decode cX4_payOut 8 = .ok (.invokestatic 112, 3) := by decide +kernel
theorem dX4_payOut_11 : decode cX4_payOut 11 = .ok (.istore_n 1, 1) := by decide +kernel
theorem dX4_payOut_12 : decode cX4_payOut 12 = .ok (.aload_n 0, 1) := by decide +kernel
theorem dX4_payOut_13 : decode cX4_payOut 13 = .ok (.dup, 1) := by decide +kernel
theorem dX4_payOut_14 : decode cX4_payOut 14 = .ok (.getfield 115, 3) := by decide +kernel
theorem dX4_payOut_17 : decode cX4_payOut 17 = .ok (.iload_n 1, 1) := by decide +kernel
theorem dX4_payOut_18 : decode cX4_payOut 18 = .ok (.isub, 1) := by decide +kernel
theorem dX4_payOut_19 : decode cX4_payOut 19 = .ok (.putfield 115, 3) := by decide +kernel
theorem dX4_payOut_22 : decode cX4_payOut 22 = .ok (.aload_n 0, 1) := by decide +kernel
theorem dX4_payOut_23 : decode cX4_payOut 23 = .ok (.dup, 1) := by decide +kernel
theorem dX4_payOut_24 : decode cX4_payOut 24 = .ok (.getfield 178, 3) := by decide +kernel
theorem dX4_payOut_27 : decode cX4_payOut 27 = .ok (.iload_n 1, 1) := by decide +kernel
theorem dX4_payOut_28 : decode cX4_payOut 28 = .ok (.iadd, 1) := by decide +kernel
theorem dX4_payOut_29 : decode cX4_payOut 29 = .ok (.putfield 178, 3) := by decide +kernel
theorem dX4_payOut_32 : decode cX4_payOut 32 = .ok (.aload_n 0, 1) := by decide +kernel
theorem dX4_payOut_33 : decode cX4_payOut 33 = .ok (.invokevirtual 131, 3) := by decide +kernel
theorem dX4_payOut_36 : decode cX4_payOut 36 = .ok (.iload_n 1, 1) := by decide +kernel
theorem dX4_payOut_37 : decode cX4_payOut 37 = .ok (.ireturn, 1) := by decide +kernel
set_option maxRecDepth 20000 in
theorem ggX4_free_X2_totalAfter : GoodIn wsX4_free wsX2_totalAfter := goodIn_r _ [10, 11, 12, 35, 36] (by decide +kernel) (by decide +kernel)
set_option maxRecDepth 20000 in
theorem gX4_free_X2_totalAfter : GoodIn wsX4_free (wsV RX4 221 RX2 yX2_totalAfter wsX2_totalAfter) := goodIn_app (goodIn_of _ (by decide +kernel)) ggX4_free_X2_totalAfter
set_option maxRecDepth 20000 in
theorem ggX4_free_X0_openSum : GoodIn wsX4_free wsX0_openSum := goodIn_r _ [17, 18, 19, 20, 37, 38, 39, 40, 41] (by decide +kernel) (by decide +kernel)
set_option maxRecDepth 20000 in
theorem gX4_free_X0_openSum : GoodIn wsX4_free (wsV RX4 224 RX0 yX0_openSum wsX0_openSum) := goodIn_app (goodIn_of _ (by decide +kernel)) ggX4_free_X0_openSum
theorem dX4_free_0 : decode cX4_free 0 = .ok (.aload_n 0, 1) := by decide +kernel
theorem dX4_free_1 : decode cX4_free 1 = .ok (.getfield 10, 3) := by decide +kernel
theorem dX4_free_4 : decode cX4_free 4 = .ok (.aload_n 0, 1) := by decide +kernel
theorem dX4_free_5 : decode cX4_free 5 = .ok (.getfield 37, 3) := by decide +kernel
theorem dX4_free_8 : decode cX4_free 8 = .ok (.invokevirtual 221, 3) := by decide +kernel
theorem dX4_free_11 : decode cX4_free 11 = .ok (.aload_n 0, 1) := by decide +kernel
theorem dX4_free_12 : decode cX4_free 12 = .ok (.getfield 26, 3) := by decide +kernel
theorem dX4_free_15 : decode cX4_free 15 = .ok (.invokevirtual 224, 3) := by decide +kernel
theorem dX4_free_18 : decode cX4_free 18 = .ok (.iadd, 1) := by decide +kernel
theorem dX4_free_19 : decode cX4_free 19 = .ok (.istore_n 1, 1) := by decide +kernel
theorem dX4_free_20 : decode cX4_free 20 = .ok (.aload_n 0, 1) := by decide +kernel
theorem dX4_free_21 : decode cX4_free 21 = .ok (.getfield 115, 3) := by decide +kernel
theorem dX4_free_24 : decode cX4_free 24 = .ok (.iload_n 1, 1) := by decide +kernel
theorem dX4_free_25 : decode cX4_free 25 = .ok (.if_icmp .le 23, 3) := by decide +kernel
theorem dX4_free_28 : decode cX4_free 28 = .ok (.aload_n 0, 1) := by decide +kernel
theorem dX4_free_29 : decode cX4_free 29 = .ok (.dup, 1) := by decide +kernel
theorem dX4_free_30 : decode cX4_free 30 = .ok (.getfield 118, 3) := by decide +kernel
theorem dX4_free_33 : decode cX4_free 33 = .ok (.aload_n 0, 1) := by decide +kernel
theorem dX4_free_34 : decode cX4_free 34 = .ok (.getfield 115, 3) := by decide +kernel
theorem dX4_free_37 : decode cX4_free 37 = .ok (.iload_n 1, 1) := by decide +kernel
theorem dX4_free_38 : decode cX4_free 38 = .ok (.isub, 1) := by decide +kernel
theorem dX4_free_39 : decode cX4_free 39 = .ok (.iadd, 1) := by decide +kernel
theorem dX4_free_40 : decode cX4_free 40 = .ok (.putfield 118, 3) := by decide +kernel
theorem dX4_free_43 : decode cX4_free 43 = .ok (.aload_n 0, 1) := by decide +kernel
theorem dX4_free_44 : decode cX4_free 44 = .ok (.iload_n 1, 1) := by decide +kernel
theorem dX4_free_45 : decode cX4_free 45 = .ok (.putfield 115, 3) := by decide +kernel
theorem dX4_free_48 : decode cX4_free 48 = .ok (.return_, 1) := by decide +kernel
set_option maxRecDepth 20000 in
theorem ggX4_owe_X4_leftOutstanding : GoodIn wsX4_owe wsX4_leftOutstanding := goodIn_r _ [12, 13, 6, 14, 15, 16, 11, 17, 18, 19, 20, 21, 22, 23, 24, 25, 26, 27, 28, 29, 30, 31, 32, 33, 34, 35, 36, 37, 38, 39, 2, 3, 4, 40, 41, 42, 43, 44, 45, 46, 47, 48, 49, 50, 51, 52, 53, 54, 55, 56, 57, 58, 59, 60, 61, 62, 63, 64, 65, 66, 67, 68, 69] (by decide +kernel) (by decide +kernel)
set_option maxRecDepth 20000 in
theorem gX4_owe_X4_leftOutstanding : GoodIn wsX4_owe (wsV RX4 190 RX4 yX4_leftOutstanding wsX4_leftOutstanding) := goodIn_app (goodIn_of _ (by decide +kernel)) ggX4_owe_X4_leftOutstanding
theorem dX4_owe_0 : decode cX4_owe 0 = .ok (.iload_n 1, 1) := by decide +kernel
theorem dX4_owe_1 : decode cX4_owe 1 = .ok (.aload_n 0, 1) := by decide +kernel
theorem dX4_owe_2 : decode cX4_owe 2 = .ok (.invokevirtual 190, 3) := by decide +kernel
theorem dX4_owe_5 : decode cX4_owe 5 = .ok (.invokestatic 112, 3) := by decide +kernel
theorem dX4_owe_8 : decode cX4_owe 8 = .ok (.istore_n 2, 1) := by decide +kernel
theorem dX4_owe_9 : decode cX4_owe 9 = .ok (.aload_n 0, 1) := by decide +kernel
theorem dX4_owe_10 : decode cX4_owe 10 = .ok (.dup, 1) := by decide +kernel
theorem dX4_owe_11 : decode cX4_owe 11 = .ok (.getfield 184, 3) := by decide +kernel
theorem dX4_owe_14 : decode cX4_owe 14 = .ok (.iload_n 1, 1) := by decide +kernel
theorem dX4_owe_15 : decode cX4_owe 15 = .ok (.iadd, 1) := by decide +kernel
theorem dX4_owe_16 : decode cX4_owe 16 = .ok (.putfield 184, 3) := by decide +kernel
theorem dX4_owe_19 : decode cX4_owe 19 = .ok (.aload_n 0, 1) := by decide +kernel
theorem dX4_owe_20 : decode cX4_owe 20 = .ok (.dup, 1) := by decide +kernel
theorem dX4_owe_21 : decode cX4_owe 21 = .ok (.getfield 181, 3) := by decide +kernel
theorem dX4_owe_24 : decode cX4_owe 24 = .ok (.iload_n 2, 1) := by decide +kernel
theorem dX4_owe_25 : decode cX4_owe 25 = .ok (.iadd, 1) := by decide +kernel
theorem dX4_owe_26 : decode cX4_owe 26 = .ok (.putfield 181, 3) := by decide +kernel
theorem dX4_owe_29 : decode cX4_owe 29 = .ok (.aload_n 0, 1) := by decide +kernel
theorem dX4_owe_30 : decode cX4_owe 30 = .ok (.dup, 1) := by decide +kernel
theorem dX4_owe_31 : decode cX4_owe 31 = .ok (.getfield 118, 3) := by decide +kernel
theorem dX4_owe_34 : decode cX4_owe 34 = .ok (.iload_n 1, 1) := by decide +kernel
theorem dX4_owe_35 : decode cX4_owe 35 = .ok (.iload_n 2, 1) := by decide +kernel
theorem dX4_owe_36 : decode cX4_owe 36 = .ok (.isub, 1) := by decide +kernel
theorem dX4_owe_37 : decode cX4_owe 37 = .ok (.iadd, 1) := by decide +kernel
theorem dX4_owe_38 : decode cX4_owe 38 = .ok (.putfield 118, 3) := by decide +kernel
theorem dX4_owe_41 : decode cX4_owe 41 = .ok (.iload_n 1, 1) := by decide +kernel
theorem dX4_owe_42 : decode cX4_owe 42 = .ok (.ireturn, 1) := by decide +kernel
theorem dJ9_max_7cf53_0 : decode cJ9_max_7cf53 0 = .ok (.iload_n 0, 1) := by decide +kernel
theorem dJ9_max_7cf53_1 : decode cJ9_max_7cf53 1 = .ok (.iload_n 1, 1) := by decide +kernel
theorem dJ9_max_7cf53_2 : decode cJ9_max_7cf53 2 = .ok (.if_icmp .lt 7, 3) := by decide +kernel
theorem dJ9_max_7cf53_5 : decode cJ9_max_7cf53 5 = .ok (.iload_n 0, 1) := by decide +kernel
theorem dJ9_max_7cf53_6 : decode cJ9_max_7cf53 6 = .ok (.goto 4, 3) := by decide +kernel
theorem dJ9_max_7cf53_9 : decode cJ9_max_7cf53 9 = .ok (.iload_n 1, 1) := by decide +kernel
theorem dJ9_max_7cf53_10 : decode cJ9_max_7cf53 10 = .ok (.ireturn, 1) := by decide +kernel
theorem dJ9_min_7cf53_0 : decode cJ9_min_7cf53 0 = .ok (.iload_n 0, 1) := by decide +kernel
theorem dJ9_min_7cf53_1 : decode cJ9_min_7cf53 1 = .ok (.iload_n 1, 1) := by decide +kernel
theorem dJ9_min_7cf53_2 : decode cJ9_min_7cf53 2 = .ok (.if_icmp .gt 7, 3) := by decide +kernel
theorem dJ9_min_7cf53_5 : decode cJ9_min_7cf53 5 = .ok (.iload_n 0, 1) := by decide +kernel
theorem dJ9_min_7cf53_6 : decode cJ9_min_7cf53 6 = .ok (.goto 4, 3) := by decide +kernel
theorem dJ9_min_7cf53_9 : decode cJ9_min_7cf53 9 = .ok (.iload_n 1, 1) := by decide +kernel
theorem dJ9_min_7cf53_10 : decode cJ9_min_7cf53 10 = .ok (.ireturn, 1) := by decide +kernel
end
section
set_option maxHeartbeats 4000000 in
set_option maxRecDepth 100000 in
/-- ClaimBook.openSum() -/
theorem cc_openSum (l : Launch) (D : va_G) (cI cZ : ClassId) (a : Nat → Nat) (sz : Nat) (u : pg_St) (n : Nat) (hn : u.1 10 = nI n) (h20 : n ≤ 20) : Met l yX0_openSum wsX0_openSum ({ frames := 0, cells := 0, slots := 0, locals := 0 }) (va_Pc [.ref (a 3)] (pg_B D (pg_ty cI cZ) (pg_wB cI cZ a u) sz)) (va_Qi (fun r u' => r = pg_open u.2 n ∧ u' = u) (pg_E D (pg_ty cI cZ) (va_A (pg_wB cI cZ a u) sz) (pg_wB cI cZ a)) (va_A (pg_wB cI cZ a u) sz)) 0 0 (va_A (pg_wB cI cZ a u) sz) := by
  refine Met.ofW (cc := cX0_openSum) (maxL := 3) (ret := (some .int)) (by decide) rfl ?_
  intro p e s m args below meth c s₁ B hml hv
  obtain ⟨rfl, hsz, hP, hK, hD0⟩ := hv
  have hx := B.exec
  have hb := B.bytes
  have hr := B.returns
  have hts := atoms_spec (ws := wsX0_openSum) B.pre
  have hown : s.vm.findClass RX0 = some m.cls := findClass_of_methodNamed B.named
  have hlocks := B.notSynchronized
  subst hsz
  have hD := hD0.self (sz := s.heap.size)
  generalize hAe : va_A (pg_wB cI cZ a u) s.heap.size = A at hD ⊢
  have hA : ∀ q : Nat, s.heap.size ≤ q → A q := fun q h => by rw [← hAe]; exact Or.inr h
  have hS : va_S A s.heap s.heap [] := va_S.rf
  have hl := lv_entry ([.ref (a 3)]) (n := 3) (Nat.le_of_ble_eq_true rfl)
  rw [lg_entry_eq]
  generalize (lg_sl ([.ref (a 3)]) ++ List.replicate (3 - (lg_sl ([.ref (a 3)])).length) Slot.unset).toArray = ls at hl ⊢
  have hl : lv_has ls 3 [(0, .ref (a 3))] := hl
  have hiX0 : ∀ w ∈ wsX00, w ∈ wsX0_openSum := fun _ h => List.mem_cons_of_mem _ (List.mem_append_right _ (h))
  have hw1 := hts (.fieldLink RX0 24 "PegBox$ClaimBook" "count" "I") (List.mem_of_getElem? (i := 1) rfl)
  have hw2 := hts (.fieldLink RX0 21 "PegBox$ClaimBook" "settled" "[I") (List.mem_of_getElem? (i := 2) rfl)
  have hw3 := hts (.fieldLink RX0 15 "PegBox$ClaimBook" "amounts" "[I") (List.mem_of_getElem? (i := 3) rfl)
  refine lv_iconst (v := 0) hx hb dX0_openSum_0 (by decide) ?_
  refine lv_istore_n (lv' := [(1, .int 0), (0, .ref (a 3))]) hx hb dX0_openSum_1 rfl hl (by decide) rfl (fun ls hl => ?_)
  refine lv_iconst (v := 0) hx hb dX0_openSum_2 (by decide) ?_
  refine lv_istore_n (lv' := [(2, .int 0), (1, .int 0), (0, .ref (a 3))]) hx hb dX0_openSum_3 rfl hl (by decide) rfl (fun ls hl => ?_)
  have L4 : ∀ (k9 i : Nat) (x : Int32), i ≤ n → n < i + k9 → x = pg_open u.2 i → ∀ (H : Heap) (locs : List Loc), va_P D vwCl (pg_wB cI cZ a u) H → va_D A (pg_wB cI cZ a u) → va_S A s.heap H locs → ∀ ls : Array Slot, lv_has ls 3 [(2, .int (nI i)), (1, .int x), (0, .ref (a 3))] → W p l e (headSpec wsX0_openSum ({ frames := 0, cells := 0, slots := 0, locals := 0 })).room s m ([.ref (a 3)] : List Value).toArray below meth c H locs 0 0 (MQ below (va_Qi (fun r u' => r = pg_open u.2 n ∧ u' = u) (pg_E D (pg_ty cI cZ) A (pg_wB cI cZ a)) A) ([.ref (a 3)] : List Value).toArray s 0 0 A) (F0 m 4 ls []) := by
    intro k9
    induction k9 with
    | zero => intro i x h1 h2; exact absurd h2 (by omega)
    | succ k9 ih =>
      intro i x hi9 hk9 hx9 H locs hP hD hS ls hl
      subst hx9
      refine lv_iload_n hx hb dX0_openSum_4 rfl (lv_at hl 0 rfl) ?_
      refine lv_aload_n hx hb dX0_openSum_5 rfl (lv_at hl 2 rfl) ?_
      refine va_get (D := D) (ci := 0) (v := .int (u.1 10)) (C := RX0) (T := TX0) (N := 5) hx hb hts hiX0 hown hK hP 3 rfl rfl 4 (by decide) hw1 (fun _ h9 => h9) rfl dX0_openSum_6 ?_
      refine lv_icmp_ge (tgt := 37) hx hb dX0_openSum_9 (by decide) (fun c_9 => ?_) (fun c_9 => ?_)
      · have hiN : i = n := pg_exit (hn) (by omega) hi9 c_9
        refine lv_iload_n hx hb dX0_openSum_37 rfl (lv_at hl 1 rfl) ?_
        exact W.iret (v := pg_open u.2 i) hx hb hr (fun t9 ht9 hW9 => ⟨⟨pg_open u.2 i, u, rfl, ⟨by rw [hiN], rfl⟩, by rw [ht9]; exact hP, va_K.moved hW9.alike hK, hD⟩, hS.F ht9⟩) hS.2.2 dX0_openSum_38
      · have hlt : i < n := pg_stay (hn) (by omega) c_9
        refine lv_aload_n hx hb dX0_openSum_12 rfl (lv_at hl 2 rfl) ?_
        refine va_get (D := D) (ci := 0) (v := .ref (a 15)) (C := RX0) (T := TX0) (N := 5) hx hb hts hiX0 hown hK hP 3 rfl rfl 3 (by decide) hw2 (fun _ h9 => h9) rfl dX0_openSum_13 ?_
        refine lv_iload_n hx hb dX0_openSum_16 rfl (lv_at hl 0 rfl) ?_
        refine pg_ild (f := u.2 10) hx hb hK hP 15 0 rfl rfl (show i < _ by omega) (by decide) dX0_openSum_17 ?_
        refine lv_iconst (v := (-1)) hx hb dX0_openSum_18 (by decide) ?_
        refine lv_icmp_ne (tgt := 31) hx hb dX0_openSum_19 (by decide) (fun c_19 => ?_) (fun c_19 => ?_)
        · refine lv_iinc (v := nI (i + 1)) (lv' := [(2, .int (nI (i + 1))), (1, .int (pg_open u.2 i)), (0, .ref (a 3))]) hx hb dX0_openSum_31 hl (k := 0) rfl (by rw [nI_succ]; rfl) (by decide) rfl (fun ls hl => ?_)
          refine lv_goto (tgt := 4) hx hb dX0_openSum_34 (by decide) ?_
          exact ih (i + 1) (pg_open u.2 i) (by omega) (by omega) (by show pg_open u.2 i = pg_open u.2 i + (if u.2 10 i = -1 then u.2 8 i else 0); rw [if_neg c_19, pg_a0]) _ _ hP hD hS ls (lv_sub hl [0, 1, 2] rfl)
        · refine lv_iload_n hx hb dX0_openSum_22 rfl (lv_at hl 1 rfl) ?_
          refine lv_aload_n hx hb dX0_openSum_23 rfl (lv_at hl 2 rfl) ?_
          refine va_get (D := D) (ci := 0) (v := .ref (a 13)) (C := RX0) (T := TX0) (N := 5) hx hb hts hiX0 hown hK hP 3 rfl rfl 1 (by decide) hw3 (fun _ h9 => h9) rfl dX0_openSum_24 ?_
          refine lv_iload_n hx hb dX0_openSum_27 rfl (lv_at hl 0 rfl) ?_
          refine pg_ild (f := u.2 8) hx hb hK hP 13 0 rfl rfl (show i < _ by omega) (by decide) dX0_openSum_28 ?_
          refine lv_iadd hx hb dX0_openSum_29 ?_
          refine lv_istore_n (lv' := [(1, .int ((pg_open u.2 i) + (u.2 8 i))), (2, .int (nI i)), (0, .ref (a 3))]) hx hb dX0_openSum_30 rfl hl (by decide) rfl (fun ls hl => ?_)
          refine lv_iinc (v := nI (i + 1)) (lv' := [(2, .int (nI (i + 1))), (1, .int ((pg_open u.2 i) + (u.2 8 i))), (0, .ref (a 3))]) hx hb dX0_openSum_31 hl (k := 1) rfl (by rw [nI_succ]; rfl) (by decide) rfl (fun ls hl => ?_)
          refine lv_goto (tgt := 4) hx hb dX0_openSum_34 (by decide) ?_
          exact ih (i + 1) ((pg_open u.2 i) + (u.2 8 i)) (by omega) (by omega) (by show pg_open u.2 i + u.2 8 i = pg_open u.2 i + (if u.2 10 i = -1 then u.2 8 i else 0); rw [if_pos c_19]) _ _ hP hD hS ls (lv_sub hl [0, 1, 2] rfl)
  exact L4 (n + 1) 0 0 (by omega) (by omega) rfl _ _ hP hD hS ls hl
set_option maxHeartbeats 4000000 in
set_option maxRecDepth 100000 in
/-- ClaimBook.settledSum(kind, least) -/
theorem cc_settledSum (l : Launch) (D : va_G) (cI cZ : ClassId) (a : Nat → Nat) (sz : Nat) (u : pg_St) (n : Nat) (hn : u.1 10 = nI n) (h20 : n ≤ 20) (k le : Int32) : Met l yX0_settledSum wsX0_settledSum ({ frames := 0, cells := 0, slots := 0, locals := 0 }) (va_Pc [.ref (a 3), .int k, .int le] (pg_B D (pg_ty cI cZ) (pg_wB cI cZ a u) sz)) (va_Qi (fun r u' => r = pg_set u.2 n k le ∧ u' = u) (pg_E D (pg_ty cI cZ) (va_A (pg_wB cI cZ a u) sz) (pg_wB cI cZ a)) (va_A (pg_wB cI cZ a u) sz)) 0 0 (va_A (pg_wB cI cZ a u) sz) := by
  refine Met.ofW (cc := cX0_settledSum) (maxL := 5) (ret := (some .int)) (by decide) rfl ?_
  intro p e s m args below meth c s₁ B hml hv
  obtain ⟨rfl, hsz, hP, hK, hD0⟩ := hv
  have hx := B.exec
  have hb := B.bytes
  have hr := B.returns
  have hts := atoms_spec (ws := wsX0_settledSum) B.pre
  have hown : s.vm.findClass RX0 = some m.cls := findClass_of_methodNamed B.named
  have hlocks := B.notSynchronized
  subst hsz
  have hD := hD0.self (sz := s.heap.size)
  generalize hAe : va_A (pg_wB cI cZ a u) s.heap.size = A at hD ⊢
  have hA : ∀ q : Nat, s.heap.size ≤ q → A q := fun q h => by rw [← hAe]; exact Or.inr h
  have hS : va_S A s.heap s.heap [] := va_S.rf
  have hl := lv_entry ([.ref (a 3), .int k, .int le]) (n := 5) (Nat.le_of_ble_eq_true rfl)
  rw [lg_entry_eq]
  generalize (lg_sl ([.ref (a 3), .int k, .int le]) ++ List.replicate (5 - (lg_sl ([.ref (a 3), .int k, .int le])).length) Slot.unset).toArray = ls at hl ⊢
  have hl : lv_has ls 5 [(0, .ref (a 3)), (1, .int k), (2, .int le)] := hl
  have hiX0 : ∀ w ∈ wsX00, w ∈ wsX0_settledSum := fun _ h => List.mem_cons_of_mem _ (List.mem_append_right _ (h))
  have hw1 := hts (.fieldLink RX0 24 "PegBox$ClaimBook" "count" "I") (List.mem_of_getElem? (i := 1) rfl)
  have hw2 := hts (.fieldLink RX0 9 "PegBox$ClaimBook" "kinds" "[I") (List.mem_of_getElem? (i := 2) rfl)
  have hw3 := hts (.fieldLink RX0 21 "PegBox$ClaimBook" "settled" "[I") (List.mem_of_getElem? (i := 3) rfl)
  refine lv_iconst (v := 0) hx hb dX0_settledSum_0 (by decide) ?_
  refine lv_istore_n (lv' := [(3, .int 0), (0, .ref (a 3)), (1, .int k), (2, .int le)]) hx hb dX0_settledSum_1 rfl hl (by decide) rfl (fun ls hl => ?_)
  refine lv_iconst (v := 0) hx hb dX0_settledSum_2 (by decide) ?_
  refine lv_istore (lv' := [(4, .int 0), (3, .int 0), (0, .ref (a 3)), (1, .int k), (2, .int le)]) hx hb dX0_settledSum_3 hl (by decide) rfl (fun ls hl => ?_)
  have L5 : ∀ (k9 i : Nat) (x : Int32), i ≤ n → n < i + k9 → x = pg_set u.2 i k le → ∀ (H : Heap) (locs : List Loc), va_P D vwCl (pg_wB cI cZ a u) H → va_D A (pg_wB cI cZ a u) → va_S A s.heap H locs → ∀ ls : Array Slot, lv_has ls 5 [(4, .int (nI i)), (3, .int x), (0, .ref (a 3)), (1, .int k), (2, .int le)] → W p l e (headSpec wsX0_settledSum ({ frames := 0, cells := 0, slots := 0, locals := 0 })).room s m ([.ref (a 3), .int k, .int le] : List Value).toArray below meth c H locs 0 0 (MQ below (va_Qi (fun r u' => r = pg_set u.2 n k le ∧ u' = u) (pg_E D (pg_ty cI cZ) A (pg_wB cI cZ a)) A) ([.ref (a 3), .int k, .int le] : List Value).toArray s 0 0 A) (F0 m 5 ls []) := by
    intro k9
    induction k9 with
    | zero => intro i x h1 h2; exact absurd h2 (by omega)
    | succ k9 ih =>
      intro i x hi9 hk9 hx9 H locs hP hD hS ls hl
      subst hx9
      refine lv_iload hx hb dX0_settledSum_5 (lv_at hl 0 rfl) ?_
      refine lv_aload_n hx hb dX0_settledSum_7 rfl (lv_at hl 2 rfl) ?_
      refine va_get (D := D) (ci := 0) (v := .int (u.1 10)) (C := RX0) (T := TX0) (N := 5) hx hb hts hiX0 hown hK hP 3 rfl rfl 4 (by decide) hw1 (fun _ h9 => h9) rfl dX0_settledSum_8 ?_
      refine lv_icmp_ge (tgt := 63) hx hb dX0_settledSum_11 (by decide) (fun c_11 => ?_) (fun c_11 => ?_)
      · have hiN : i = n := pg_exit (hn) (by omega) hi9 c_11
        refine lv_iload_n hx hb dX0_settledSum_63 rfl (lv_at hl 1 rfl) ?_
        exact W.iret (v := pg_set u.2 i k le) hx hb hr (fun t9 ht9 hW9 => ⟨⟨pg_set u.2 i k le, u, rfl, ⟨by rw [hiN], rfl⟩, by rw [ht9]; exact hP, va_K.moved hW9.alike hK, hD⟩, hS.F ht9⟩) hS.2.2 dX0_settledSum_64
      · have hlt : i < n := pg_stay (hn) (by omega) c_11
        refine lv_aload_n hx hb dX0_settledSum_14 rfl (lv_at hl 2 rfl) ?_
        refine va_get (D := D) (ci := 0) (v := .ref (a 12)) (C := RX0) (T := TX0) (N := 5) hx hb hts hiX0 hown hK hP 3 rfl rfl 0 (by decide) hw2 (fun _ h9 => h9) rfl dX0_settledSum_15 ?_
        refine lv_iload hx hb dX0_settledSum_18 (lv_at hl 0 rfl) ?_
        refine pg_ild (f := u.2 7) hx hb hK hP 12 0 rfl rfl (show i < _ by omega) (by decide) dX0_settledSum_20 ?_
        refine lv_iload_n hx hb dX0_settledSum_21 rfl (lv_at hl 3 rfl) ?_
        refine lv_icmp_ne (tgt := 57) hx hb dX0_settledSum_22 (by decide) (fun c_22 => ?_) (fun c_22 => ?_)
        · refine lv_iinc (v := nI (i + 1)) (lv' := [(4, .int (nI (i + 1))), (3, .int (pg_set u.2 i k le)), (0, .ref (a 3)), (1, .int k), (2, .int le)]) hx hb dX0_settledSum_57 hl (k := 0) rfl (by rw [nI_succ]; rfl) (by decide) rfl (fun ls hl => ?_)
          refine lv_goto (tgt := 5) hx hb dX0_settledSum_60 (by decide) ?_
          exact ih (i + 1) (pg_set u.2 i k le) (by omega) (by omega) (by show pg_set u.2 i k le = pg_set u.2 i k le + (if u.2 7 i = k then (if u.2 10 i = -1 then 0 else if u.2 10 i < le then 0 else u.2 10 i) else 0); rw [if_neg c_22, pg_a0]) _ _ hP hD hS ls (lv_sub hl [0, 1, 2, 3, 4] rfl)
        · refine lv_aload_n hx hb dX0_settledSum_25 rfl (lv_at hl 2 rfl) ?_
          refine va_get (D := D) (ci := 0) (v := .ref (a 15)) (C := RX0) (T := TX0) (N := 5) hx hb hts hiX0 hown hK hP 3 rfl rfl 3 (by decide) hw3 (fun _ h9 => h9) rfl dX0_settledSum_26 ?_
          refine lv_iload hx hb dX0_settledSum_29 (lv_at hl 0 rfl) ?_
          refine pg_ild (f := u.2 10) hx hb hK hP 15 0 rfl rfl (show i < _ by omega) (by decide) dX0_settledSum_31 ?_
          refine lv_iconst (v := (-1)) hx hb dX0_settledSum_32 (by decide) ?_
          refine lv_icmp_eq (tgt := 57) hx hb dX0_settledSum_33 (by decide) (fun c_33 => ?_) (fun c_33 => ?_)
          · refine lv_iinc (v := nI (i + 1)) (lv' := [(4, .int (nI (i + 1))), (3, .int (pg_set u.2 i k le)), (0, .ref (a 3)), (1, .int k), (2, .int le)]) hx hb dX0_settledSum_57 hl (k := 0) rfl (by rw [nI_succ]; rfl) (by decide) rfl (fun ls hl => ?_)
            refine lv_goto (tgt := 5) hx hb dX0_settledSum_60 (by decide) ?_
            exact ih (i + 1) (pg_set u.2 i k le) (by omega) (by omega) (by show pg_set u.2 i k le = pg_set u.2 i k le + (if u.2 7 i = k then (if u.2 10 i = -1 then 0 else if u.2 10 i < le then 0 else u.2 10 i) else 0); rw [if_pos c_22, if_pos c_33, pg_a0]) _ _ hP hD hS ls (lv_sub hl [0, 1, 2, 3, 4] rfl)
          · refine lv_aload_n hx hb dX0_settledSum_36 rfl (lv_at hl 2 rfl) ?_
            refine va_get (D := D) (ci := 0) (v := .ref (a 15)) (C := RX0) (T := TX0) (N := 5) hx hb hts hiX0 hown hK hP 3 rfl rfl 3 (by decide) hw3 (fun _ h9 => h9) rfl dX0_settledSum_37 ?_
            refine lv_iload hx hb dX0_settledSum_40 (lv_at hl 0 rfl) ?_
            refine pg_ild (f := u.2 10) hx hb hK hP 15 0 rfl rfl (show i < _ by omega) (by decide) dX0_settledSum_42 ?_
            refine lv_iload_n hx hb dX0_settledSum_43 rfl (lv_at hl 4 rfl) ?_
            refine lv_icmp_lt (tgt := 57) hx hb dX0_settledSum_44 (by decide) (fun c_44 => ?_) (fun c_44 => ?_)
            · refine lv_iinc (v := nI (i + 1)) (lv' := [(4, .int (nI (i + 1))), (3, .int (pg_set u.2 i k le)), (0, .ref (a 3)), (1, .int k), (2, .int le)]) hx hb dX0_settledSum_57 hl (k := 0) rfl (by rw [nI_succ]; rfl) (by decide) rfl (fun ls hl => ?_)
              refine lv_goto (tgt := 5) hx hb dX0_settledSum_60 (by decide) ?_
              exact ih (i + 1) (pg_set u.2 i k le) (by omega) (by omega) (by show pg_set u.2 i k le = pg_set u.2 i k le + (if u.2 7 i = k then (if u.2 10 i = -1 then 0 else if u.2 10 i < le then 0 else u.2 10 i) else 0); rw [if_pos c_22, if_neg c_33, if_pos c_44, pg_a0]) _ _ hP hD hS ls (lv_sub hl [0, 1, 2, 3, 4] rfl)
            · refine lv_iload_n hx hb dX0_settledSum_47 rfl (lv_at hl 1 rfl) ?_
              refine lv_aload_n hx hb dX0_settledSum_48 rfl (lv_at hl 2 rfl) ?_
              refine va_get (D := D) (ci := 0) (v := .ref (a 15)) (C := RX0) (T := TX0) (N := 5) hx hb hts hiX0 hown hK hP 3 rfl rfl 3 (by decide) hw3 (fun _ h9 => h9) rfl dX0_settledSum_49 ?_
              refine lv_iload hx hb dX0_settledSum_52 (lv_at hl 0 rfl) ?_
              refine pg_ild (f := u.2 10) hx hb hK hP 15 0 rfl rfl (show i < _ by omega) (by decide) dX0_settledSum_54 ?_
              refine lv_iadd hx hb dX0_settledSum_55 ?_
              refine lv_istore_n (lv' := [(3, .int ((pg_set u.2 i k le) + (u.2 10 i))), (4, .int (nI i)), (0, .ref (a 3)), (1, .int k), (2, .int le)]) hx hb dX0_settledSum_56 rfl hl (by decide) rfl (fun ls hl => ?_)
              refine lv_iinc (v := nI (i + 1)) (lv' := [(4, .int (nI (i + 1))), (3, .int ((pg_set u.2 i k le) + (u.2 10 i))), (0, .ref (a 3)), (1, .int k), (2, .int le)]) hx hb dX0_settledSum_57 hl (k := 1) rfl (by rw [nI_succ]; rfl) (by decide) rfl (fun ls hl => ?_)
              refine lv_goto (tgt := 5) hx hb dX0_settledSum_60 (by decide) ?_
              exact ih (i + 1) ((pg_set u.2 i k le) + (u.2 10 i)) (by omega) (by omega) (by show pg_set u.2 i k le + u.2 10 i = pg_set u.2 i k le + (if u.2 7 i = k then (if u.2 10 i = -1 then 0 else if u.2 10 i < le then 0 else u.2 10 i) else 0); rw [if_pos c_22, if_neg c_33, if_neg c_44]) _ _ hP hD hS ls (lv_sub hl [0, 1, 2, 3, 4] rfl)
  exact L5 (n + 1) 0 0 (by omega) (by omega) rfl _ _ hP hD hS ls hl
set_option maxHeartbeats 4000000 in
set_option maxRecDepth 100000 in
/-- Escrow.total() -/
theorem cc_total (l : Launch) (D : va_G) (cI cZ : ClassId) (a : Nat → Nat) (sz : Nat) (u : pg_St) : Met l yX2_total wsX2_total ({ frames := 0, cells := 0, slots := 0, locals := 0 }) (va_Pc [.ref (a 1)] (pg_B D (pg_ty cI cZ) (pg_wB cI cZ a u) sz)) (va_Qi (fun r u' => r = pg_sm (u.2 0) 4 ∧ u' = u) (pg_E D (pg_ty cI cZ) (va_A (pg_wB cI cZ a u) sz) (pg_wB cI cZ a)) (va_A (pg_wB cI cZ a u) sz)) 0 0 (va_A (pg_wB cI cZ a u) sz) := by
  refine Met.ofW (cc := cX2_total) (maxL := 3) (ret := (some .int)) (by decide) rfl ?_
  intro p e s m args below meth c s₁ B hml hv
  obtain ⟨rfl, hsz, hP, hK, hD0⟩ := hv
  have hx := B.exec
  have hb := B.bytes
  have hr := B.returns
  have hts := atoms_spec (ws := wsX2_total) B.pre
  have hown : s.vm.findClass RX2 = some m.cls := findClass_of_methodNamed B.named
  have hlocks := B.notSynchronized
  subst hsz
  have hD := hD0.self (sz := s.heap.size)
  generalize hAe : va_A (pg_wB cI cZ a u) s.heap.size = A at hD ⊢
  have hA : ∀ q : Nat, s.heap.size ≤ q → A q := fun q h => by rw [← hAe]; exact Or.inr h
  have hS : va_S A s.heap s.heap [] := va_S.rf
  have hl := lv_entry ([.ref (a 1)]) (n := 3) (Nat.le_of_ble_eq_true rfl)
  rw [lg_entry_eq]
  generalize (lg_sl ([.ref (a 1)]) ++ List.replicate (3 - (lg_sl ([.ref (a 1)])).length) Slot.unset).toArray = ls at hl ⊢
  have hl : lv_has ls 3 [(0, .ref (a 1))] := hl
  have hiX2 : ∀ w ∈ wsX20, w ∈ wsX2_total := fun _ h => List.mem_cons_of_mem _ (List.mem_append_right _ (h))
  have hw1 := hts (.fieldLink RX2 9 "PegBox$Escrow" "amounts" "[I") (List.mem_of_getElem? (i := 1) rfl)
  refine lv_iconst (v := 0) hx hb dX2_total_0 (by decide) ?_
  refine lv_istore_n (lv' := [(1, .int 0), (0, .ref (a 1))]) hx hb dX2_total_1 rfl hl (by decide) rfl (fun ls hl => ?_)
  refine lv_iconst (v := 0) hx hb dX2_total_2 (by decide) ?_
  refine lv_istore_n (lv' := [(2, .int 0), (1, .int 0), (0, .ref (a 1))]) hx hb dX2_total_3 rfl hl (by decide) rfl (fun ls hl => ?_)
  have L4 : ∀ (k9 i : Nat) (x : Int32), i ≤ 4 → 4 < i + k9 → x = pg_sm (u.2 0) i → ∀ (H : Heap) (locs : List Loc), va_P D vwCl (pg_wB cI cZ a u) H → va_D A (pg_wB cI cZ a u) → va_S A s.heap H locs → ∀ ls : Array Slot, lv_has ls 3 [(2, .int (nI i)), (1, .int x), (0, .ref (a 1))] → W p l e (headSpec wsX2_total ({ frames := 0, cells := 0, slots := 0, locals := 0 })).room s m ([.ref (a 1)] : List Value).toArray below meth c H locs 0 0 (MQ below (va_Qi (fun r u' => r = pg_sm (u.2 0) 4 ∧ u' = u) (pg_E D (pg_ty cI cZ) A (pg_wB cI cZ a)) A) ([.ref (a 1)] : List Value).toArray s 0 0 A) (F0 m 4 ls []) := by
    intro k9
    induction k9 with
    | zero => intro i x h1 h2; exact absurd h2 (by omega)
    | succ k9 ih =>
      intro i x hi9 hk9 hx9 H locs hP hD hS ls hl
      subst hx9
      refine lv_iload_n hx hb dX2_total_4 rfl (lv_at hl 0 rfl) ?_
      refine lv_iconst (v := 4) hx hb dX2_total_5 (by decide) ?_
      refine lv_icmp_ge (tgt := 24) hx hb dX2_total_6 (by decide) (fun c_6 => ?_) (fun c_6 => ?_)
      · have hiN : i = 4 := pg_exit (rfl) (by decide) hi9 c_6
        refine lv_iload_n hx hb dX2_total_24 rfl (lv_at hl 1 rfl) ?_
        exact W.iret (v := pg_sm (u.2 0) i) hx hb hr (fun t9 ht9 hW9 => ⟨⟨pg_sm (u.2 0) i, u, rfl, ⟨by rw [hiN], rfl⟩, by rw [ht9]; exact hP, va_K.moved hW9.alike hK, hD⟩, hS.F ht9⟩) hS.2.2 dX2_total_25
      · have hlt : i < 4 := pg_stay (rfl) (by omega) c_6
        refine lv_iload_n hx hb dX2_total_9 rfl (lv_at hl 1 rfl) ?_
        refine lv_aload_n hx hb dX2_total_10 rfl (lv_at hl 2 rfl) ?_
        refine va_get (D := D) (ci := 2) (v := .ref (a 5)) (C := RX2) (T := TX2) (N := 2) hx hb hts hiX2 hown hK hP 1 rfl rfl 0 (by decide) hw1 (fun _ h9 => h9) rfl dX2_total_11 ?_
        refine lv_iload_n hx hb dX2_total_14 rfl (lv_at hl 0 rfl) ?_
        refine pg_ild (f := u.2 0) hx hb hK hP 5 0 rfl rfl (show i < _ by omega) (by decide) dX2_total_15 ?_
        refine lv_iadd hx hb dX2_total_16 ?_
        refine lv_istore_n (lv' := [(1, .int ((pg_sm (u.2 0) i) + (u.2 0 i))), (2, .int (nI i)), (0, .ref (a 1))]) hx hb dX2_total_17 rfl hl (by decide) rfl (fun ls hl => ?_)
        refine lv_iinc (v := nI (i + 1)) (lv' := [(2, .int (nI (i + 1))), (1, .int ((pg_sm (u.2 0) i) + (u.2 0 i))), (0, .ref (a 1))]) hx hb dX2_total_18 hl (k := 1) rfl (by rw [nI_succ]; rfl) (by decide) rfl (fun ls hl => ?_)
        refine lv_goto (tgt := 4) hx hb dX2_total_21 (by decide) ?_
        exact ih (i + 1) ((pg_sm (u.2 0) i) + (u.2 0 i)) (by omega) (by omega) rfl _ _ hP hD hS ls (lv_sub hl [0, 1, 2] rfl)
  exact L4 (4 + 1) 0 0 (by omega) (by omega) rfl _ _ hP hD hS ls hl
set_option maxHeartbeats 4000000 in
set_option maxRecDepth 100000 in
/-- Escrow.totalAfter(day) -/
theorem cc_totalAfter (l : Launch) (D : va_G) (cI cZ : ClassId) (a : Nat → Nat) (sz : Nat) (u : pg_St) (d : Int32) : Met l yX2_totalAfter wsX2_totalAfter ({ frames := 0, cells := 0, slots := 0, locals := 0 }) (va_Pc [.ref (a 1), .int d] (pg_B D (pg_ty cI cZ) (pg_wB cI cZ a u) sz)) (va_Qi (fun r u' => r = pg_after u.2 d ∧ u' = u) (pg_E D (pg_ty cI cZ) (va_A (pg_wB cI cZ a u) sz) (pg_wB cI cZ a)) (va_A (pg_wB cI cZ a u) sz)) 0 0 (va_A (pg_wB cI cZ a u) sz) := by
  refine Met.ofW (cc := cX2_totalAfter) (maxL := 4) (ret := (some .int)) (by decide) rfl ?_
  intro p e s m args below meth c s₁ B hml hv
  obtain ⟨rfl, hsz, hP, hK, hD0⟩ := hv
  have hx := B.exec
  have hb := B.bytes
  have hr := B.returns
  have hts := atoms_spec (ws := wsX2_totalAfter) B.pre
  have hown : s.vm.findClass RX2 = some m.cls := findClass_of_methodNamed B.named
  have hlocks := B.notSynchronized
  subst hsz
  have hD := hD0.self (sz := s.heap.size)
  generalize hAe : va_A (pg_wB cI cZ a u) s.heap.size = A at hD ⊢
  have hA : ∀ q : Nat, s.heap.size ≤ q → A q := fun q h => by rw [← hAe]; exact Or.inr h
  have hS : va_S A s.heap s.heap [] := va_S.rf
  have hl := lv_entry ([.ref (a 1), .int d]) (n := 4) (Nat.le_of_ble_eq_true rfl)
  rw [lg_entry_eq]
  generalize (lg_sl ([.ref (a 1), .int d]) ++ List.replicate (4 - (lg_sl ([.ref (a 1), .int d])).length) Slot.unset).toArray = ls at hl ⊢
  have hl : lv_has ls 4 [(0, .ref (a 1)), (1, .int d)] := hl
  have hiX2 : ∀ w ∈ wsX20, w ∈ wsX2_totalAfter := fun _ h => List.mem_cons_of_mem _ (List.mem_append_right _ (h))
  have hw1 := hts (.fieldLink RX2 15 "PegBox$Escrow" "days" "[I") (List.mem_of_getElem? (i := 1) rfl)
  have hw2 := hts (.fieldLink RX2 9 "PegBox$Escrow" "amounts" "[I") (List.mem_of_getElem? (i := 2) rfl)
  refine lv_iconst (v := 0) hx hb dX2_totalAfter_0 (by decide) ?_
  refine lv_istore_n (lv' := [(2, .int 0), (0, .ref (a 1)), (1, .int d)]) hx hb dX2_totalAfter_1 rfl hl (by decide) rfl (fun ls hl => ?_)
  refine lv_iconst (v := 0) hx hb dX2_totalAfter_2 (by decide) ?_
  refine lv_istore_n (lv' := [(3, .int 0), (2, .int 0), (0, .ref (a 1)), (1, .int d)]) hx hb dX2_totalAfter_3 rfl hl (by decide) rfl (fun ls hl => ?_)
  have L4 : ∀ (k9 i : Nat) (x : Int32), i ≤ 4 → 4 < i + k9 → x = pg_sm (fun k => if u.2 1 k ≤ d then 0 else u.2 0 k) i → ∀ (H : Heap) (locs : List Loc), va_P D vwCl (pg_wB cI cZ a u) H → va_D A (pg_wB cI cZ a u) → va_S A s.heap H locs → ∀ ls : Array Slot, lv_has ls 4 [(3, .int (nI i)), (2, .int x), (0, .ref (a 1)), (1, .int d)] → W p l e (headSpec wsX2_totalAfter ({ frames := 0, cells := 0, slots := 0, locals := 0 })).room s m ([.ref (a 1), .int d] : List Value).toArray below meth c H locs 0 0 (MQ below (va_Qi (fun r u' => r = pg_after u.2 d ∧ u' = u) (pg_E D (pg_ty cI cZ) A (pg_wB cI cZ a)) A) ([.ref (a 1), .int d] : List Value).toArray s 0 0 A) (F0 m 4 ls []) := by
    intro k9
    induction k9 with
    | zero => intro i x h1 h2; exact absurd h2 (by omega)
    | succ k9 ih =>
      intro i x hi9 hk9 hx9 H locs hP hD hS ls hl
      subst hx9
      refine lv_iload_n hx hb dX2_totalAfter_4 rfl (lv_at hl 0 rfl) ?_
      refine lv_iconst (v := 4) hx hb dX2_totalAfter_5 (by decide) ?_
      refine lv_icmp_ge (tgt := 34) hx hb dX2_totalAfter_6 (by decide) (fun c_6 => ?_) (fun c_6 => ?_)
      · have hiN : i = 4 := pg_exit (rfl) (by decide) hi9 c_6
        refine lv_iload_n hx hb dX2_totalAfter_34 rfl (lv_at hl 1 rfl) ?_
        exact W.iret (v := pg_sm (fun k => if u.2 1 k ≤ d then 0 else u.2 0 k) i) hx hb hr (fun t9 ht9 hW9 => ⟨⟨pg_sm (fun k => if u.2 1 k ≤ d then 0 else u.2 0 k) i, u, rfl, ⟨by rw [hiN]; rfl, rfl⟩, by rw [ht9]; exact hP, va_K.moved hW9.alike hK, hD⟩, hS.F ht9⟩) hS.2.2 dX2_totalAfter_35
      · have hlt : i < 4 := pg_stay (rfl) (by omega) c_6
        refine lv_aload_n hx hb dX2_totalAfter_9 rfl (lv_at hl 2 rfl) ?_
        refine va_get (D := D) (ci := 2) (v := .ref (a 6)) (C := RX2) (T := TX2) (N := 2) hx hb hts hiX2 hown hK hP 1 rfl rfl 1 (by decide) hw1 (fun _ h9 => h9) rfl dX2_totalAfter_10 ?_
        refine lv_iload_n hx hb dX2_totalAfter_13 rfl (lv_at hl 0 rfl) ?_
        refine pg_ild (f := u.2 1) hx hb hK hP 6 0 rfl rfl (show i < _ by omega) (by decide) dX2_totalAfter_14 ?_
        refine lv_iload_n hx hb dX2_totalAfter_15 rfl (lv_at hl 3 rfl) ?_
        refine lv_icmp_le (tgt := 28) hx hb dX2_totalAfter_16 (by decide) (fun c_16 => ?_) (fun c_16 => ?_)
        · refine lv_iinc (v := nI (i + 1)) (lv' := [(3, .int (nI (i + 1))), (2, .int (pg_sm (fun k => if u.2 1 k ≤ d then 0 else u.2 0 k) i)), (0, .ref (a 1)), (1, .int d)]) hx hb dX2_totalAfter_28 hl (k := 0) rfl (by rw [nI_succ]; rfl) (by decide) rfl (fun ls hl => ?_)
          refine lv_goto (tgt := 4) hx hb dX2_totalAfter_31 (by decide) ?_
          exact ih (i + 1) (pg_sm (fun k => if u.2 1 k ≤ d then 0 else u.2 0 k) i) (by omega) (by omega) (by show pg_sm (fun k => if u.2 1 k ≤ d then 0 else u.2 0 k) i = pg_sm (fun k => if u.2 1 k ≤ d then 0 else u.2 0 k) i + (if u.2 1 i ≤ d then 0 else u.2 0 i); rw [if_pos c_16, pg_a0]) _ _ hP hD hS ls (lv_sub hl [0, 1, 2, 3] rfl)
        · refine lv_iload_n hx hb dX2_totalAfter_19 rfl (lv_at hl 1 rfl) ?_
          refine lv_aload_n hx hb dX2_totalAfter_20 rfl (lv_at hl 2 rfl) ?_
          refine va_get (D := D) (ci := 2) (v := .ref (a 5)) (C := RX2) (T := TX2) (N := 2) hx hb hts hiX2 hown hK hP 1 rfl rfl 0 (by decide) hw2 (fun _ h9 => h9) rfl dX2_totalAfter_21 ?_
          refine lv_iload_n hx hb dX2_totalAfter_24 rfl (lv_at hl 0 rfl) ?_
          refine pg_ild (f := u.2 0) hx hb hK hP 5 0 rfl rfl (show i < _ by omega) (by decide) dX2_totalAfter_25 ?_
          refine lv_iadd hx hb dX2_totalAfter_26 ?_
          refine lv_istore_n (lv' := [(2, .int ((pg_sm (fun k => if u.2 1 k ≤ d then 0 else u.2 0 k) i) + (u.2 0 i))), (3, .int (nI i)), (0, .ref (a 1)), (1, .int d)]) hx hb dX2_totalAfter_27 rfl hl (by decide) rfl (fun ls hl => ?_)
          refine lv_iinc (v := nI (i + 1)) (lv' := [(3, .int (nI (i + 1))), (2, .int ((pg_sm (fun k => if u.2 1 k ≤ d then 0 else u.2 0 k) i) + (u.2 0 i))), (0, .ref (a 1)), (1, .int d)]) hx hb dX2_totalAfter_28 hl (k := 1) rfl (by rw [nI_succ]; rfl) (by decide) rfl (fun ls hl => ?_)
          refine lv_goto (tgt := 4) hx hb dX2_totalAfter_31 (by decide) ?_
          exact ih (i + 1) ((pg_sm (fun k => if u.2 1 k ≤ d then 0 else u.2 0 k) i) + (u.2 0 i)) (by omega) (by omega) (by show pg_sm (fun k => if u.2 1 k ≤ d then 0 else u.2 0 k) i + u.2 0 i = pg_sm (fun k => if u.2 1 k ≤ d then 0 else u.2 0 k) i + (if u.2 1 i ≤ d then 0 else u.2 0 i); rw [if_neg c_16]) _ _ hP hD hS ls (lv_sub hl [0, 1, 2, 3] rfl)
  exact L4 (4 + 1) 0 0 (by omega) (by omega) rfl _ _ hP hD hS ls hl
set_option maxHeartbeats 4000000 in
set_option maxRecDepth 100000 in
/-- Kinds.pastBasket(kind, sum) -/
theorem cc_pastBasket (l : Launch) (D : va_G) (cI cZ : ClassId) (a : Nat → Nat) (sz : Nat) (u : pg_St) (k : Nat) (hk : k < 3) (s1 : Int32) : Met l yX3_pastBasket wsX3_pastBasket ({ frames := 0, cells := 0, slots := 0, locals := 0 }) (va_Pc [.ref (a 2), .int (nI k), .int s1] (pg_B D (pg_ty cI cZ) (pg_wB cI cZ a u) sz)) (va_Qi (fun r u' => r = pg_past u.2 k s1 ∧ u' = u) (pg_E D (pg_ty cI cZ) (va_A (pg_wB cI cZ a u) sz) (pg_wB cI cZ a)) (va_A (pg_wB cI cZ a u) sz)) 0 0 (va_A (pg_wB cI cZ a u) sz) := by
  refine Met.ofW (cc := cX3_pastBasket) (maxL := 4) (ret := (some .int)) (by decide) rfl ?_
  intro p e s m args below meth c s₁ B hml hv
  obtain ⟨rfl, hsz, hP, hK, hD0⟩ := hv
  have hx := B.exec
  have hb := B.bytes
  have hr := B.returns
  have hts := atoms_spec (ws := wsX3_pastBasket) B.pre
  have hown : s.vm.findClass RX3 = some m.cls := findClass_of_methodNamed B.named
  have hlocks := B.notSynchronized
  subst hsz
  have hD := hD0.self (sz := s.heap.size)
  generalize hAe : va_A (pg_wB cI cZ a u) s.heap.size = A at hD ⊢
  have hA : ∀ q : Nat, s.heap.size ≤ q → A q := fun q h => by rw [← hAe]; exact Or.inr h
  have hS : va_S A s.heap s.heap [] := va_S.rf
  have hl := lv_entry ([.ref (a 2), .int (nI k), .int s1]) (n := 4) (Nat.le_of_ble_eq_true rfl)
  rw [lg_entry_eq]
  generalize (lg_sl ([.ref (a 2), .int (nI k), .int s1]) ++ List.replicate (4 - (lg_sl ([.ref (a 2), .int (nI k), .int s1])).length) Slot.unset).toArray = ls at hl ⊢
  have hl : lv_has ls 4 [(0, .ref (a 2)), (1, .int (nI k)), (2, .int s1)] := hl
  have hiX3 : ∀ w ∈ wsX30, w ∈ wsX3_pastBasket := fun _ h => List.mem_cons_of_mem _ (List.mem_append_right _ (h))
  have hw1 := hts (.fieldLink RX3 15 "PegBox$Kinds" "baskets" "[I") (List.mem_of_getElem? (i := 1) rfl)
  have hw2 := hts (.fieldLink RX3 18 "PegBox$Kinds" "wholes" "[Z") (List.mem_of_getElem? (i := 2) rfl)
  refine lv_aload_n hx hb dX3_pastBasket_0 rfl (lv_at hl 0 rfl) ?_
  refine va_get (D := D) (ci := 3) (v := .ref (a 8)) (C := RX3) (T := TX3) (N := 5) hx hb hts hiX3 hown hK hP 2 rfl rfl 1 (by decide) hw1 (fun _ h9 => h9) rfl dX3_pastBasket_1 ?_
  refine lv_iload_n hx hb dX3_pastBasket_4 rfl (lv_at hl 1 rfl) ?_
  refine pg_ild (f := u.2 3) hx hb hK hP 8 0 rfl rfl (show k < _ by omega) (by decide) dX3_pastBasket_5 ?_
  refine lv_istore_n (lv' := [(3, .int (u.2 3 k)), (0, .ref (a 2)), (1, .int (nI k)), (2, .int s1)]) hx hb dX3_pastBasket_6 rfl hl (by decide) rfl (fun ls hl => ?_)
  refine lv_aload_n hx hb dX3_pastBasket_7 rfl (lv_at hl 1 rfl) ?_
  refine va_get (D := D) (ci := 3) (v := .ref (a 9)) (C := RX3) (T := TX3) (N := 5) hx hb hts hiX3 hown hK hP 2 rfl rfl 2 (by decide) hw2 (fun _ h9 => h9) rfl dX3_pastBasket_8 ?_
  refine lv_iload_n hx hb dX3_pastBasket_11 rfl (lv_at hl 2 rfl) ?_
  refine pg_zld (f := u.2 4) hx hb hK hP 9 1 rfl rfl (show k < _ by omega) (by decide) dX3_pastBasket_12 ?_
  refine lv_if_eq (tgt := 27) hx hb dX3_pastBasket_13 (by decide) (fun c_13 => ?_) (fun c_13 => ?_)
  · refine lv_iload_n hx hb dX3_pastBasket_27 rfl (lv_at hl 3 rfl) ?_
    refine lv_iload_n hx hb dX3_pastBasket_28 rfl (lv_at hl 0 rfl) ?_
    refine lv_icmp_le (tgt := 38) hx hb dX3_pastBasket_29 (by decide) (fun c_29 => ?_) (fun c_29 => ?_)
    · refine lv_iconst (v := 0) hx hb dX3_pastBasket_38 (by decide) ?_
      exact W.iret (v := 0) hx hb hr (fun t9 ht9 hW9 => ⟨⟨0, u, rfl, ⟨by rw [pg_past, if_pos c_13, if_pos c_29], rfl⟩, by rw [ht9]; exact hP, va_K.moved hW9.alike hK, hD⟩, hS.F ht9⟩) hS.2.2 dX3_pastBasket_39
    · refine lv_iload_n hx hb dX3_pastBasket_32 rfl (lv_at hl 3 rfl) ?_
      refine lv_iload_n hx hb dX3_pastBasket_33 rfl (lv_at hl 0 rfl) ?_
      refine lv_isub hx hb dX3_pastBasket_34 ?_
      refine lv_goto (tgt := 39) hx hb dX3_pastBasket_35 (by decide) ?_
      exact W.iret (v := s1 - (u.2 3 k)) hx hb hr (fun t9 ht9 hW9 => ⟨⟨s1 - (u.2 3 k), u, rfl, ⟨by rw [pg_past, if_pos c_13, if_neg c_29], rfl⟩, by rw [ht9]; exact hP, va_K.moved hW9.alike hK, hD⟩, hS.F ht9⟩) hS.2.2 dX3_pastBasket_39
  · refine lv_iload_n hx hb dX3_pastBasket_16 rfl (lv_at hl 3 rfl) ?_
    refine lv_iload_n hx hb dX3_pastBasket_17 rfl (lv_at hl 0 rfl) ?_
    refine lv_icmp_lt (tgt := 25) hx hb dX3_pastBasket_18 (by decide) (fun c_18 => ?_) (fun c_18 => ?_)
    · refine lv_iconst (v := 0) hx hb dX3_pastBasket_25 (by decide) ?_
      exact W.iret (v := 0) hx hb hr (fun t9 ht9 hW9 => ⟨⟨0, u, rfl, ⟨by rw [pg_past, if_neg c_13, if_pos c_18], rfl⟩, by rw [ht9]; exact hP, va_K.moved hW9.alike hK, hD⟩, hS.F ht9⟩) hS.2.2 dX3_pastBasket_26
    · refine lv_iload_n hx hb dX3_pastBasket_21 rfl (lv_at hl 3 rfl) ?_
      refine lv_goto (tgt := 26) hx hb dX3_pastBasket_22 (by decide) ?_
      exact W.iret (v := s1) hx hb hr (fun t9 ht9 hW9 => ⟨⟨s1, u, rfl, ⟨by rw [pg_past, if_neg c_13, if_neg c_18], rfl⟩, by rw [ht9]; exact hP, va_K.moved hW9.alike hK, hD⟩, hS.F ht9⟩) hS.2.2 dX3_pastBasket_26
set_option maxHeartbeats 4000000 in
set_option maxRecDepth 100000 in
/-- Kinds.limit(kind, sum) -/
theorem cc_limit (l : Launch) (D : va_G) (cI cZ : ClassId) (a : Nat → Nat) (sz : Nat) (u : pg_St) (k : Nat) (hk : k < 3) (s1 : Int32) : Met l yX3_limit wsX3_limit ({ frames := 1, cells := 0, slots := 0, locals := 23 }) (va_Pc [.ref (a 2), .int (nI k), .int s1] (pg_B D (pg_ty cI cZ) (pg_wB cI cZ a u) sz)) (va_Qi (fun r u' => r = pg_min (pg_past u.2 k s1) (u.2 5 k) ∧ u' = u) (pg_E D (pg_ty cI cZ) (va_A (pg_wB cI cZ a u) sz) (pg_wB cI cZ a)) (va_A (pg_wB cI cZ a u) sz)) 0 0 (va_A (pg_wB cI cZ a u) sz) := by
  refine Met.ofW (cc := cX3_limit) (maxL := 3) (ret := (some .int)) (by decide) rfl ?_
  intro p e s m args below meth c s₁ B hml hv
  obtain ⟨rfl, hsz, hP, hK, hD0⟩ := hv
  have hx := B.exec
  have hb := B.bytes
  have hr := B.returns
  have hts := atoms_spec (ws := wsX3_limit) B.pre
  have hown : s.vm.findClass RX3 = some m.cls := findClass_of_methodNamed B.named
  have hlocks := B.notSynchronized
  subst hsz
  have hD := hD0.self (sz := s.heap.size)
  generalize hAe : va_A (pg_wB cI cZ a u) s.heap.size = A at hD ⊢
  have hA : ∀ q : Nat, s.heap.size ≤ q → A q := fun q h => by rw [← hAe]; exact Or.inr h
  have hS : va_S A s.heap s.heap [] := va_S.rf
  have hl := lv_entry ([.ref (a 2), .int (nI k), .int s1]) (n := 3) (Nat.le_of_ble_eq_true rfl)
  rw [lg_entry_eq]
  generalize (lg_sl ([.ref (a 2), .int (nI k), .int s1]) ++ List.replicate (3 - (lg_sl ([.ref (a 2), .int (nI k), .int s1])).length) Slot.unset).toArray = ls at hl ⊢
  have hl : lv_has ls 3 [(0, .ref (a 2)), (1, .int (nI k)), (2, .int s1)] := hl
  have hiX3 : ∀ w ∈ wsX30, w ∈ wsX3_limit := fun _ h => List.mem_cons_of_mem _ (List.mem_append_right _ (h))
  have hw1 := hts (.fieldLink RX3 22 "PegBox$Kinds" "caps" "[I") (List.mem_of_getElem? (i := 1) rfl)
  have hw2 := hts (.methodLink RX3 32 Lib.Math.min.name) (List.mem_of_getElem? (i := 2) rfl)
  have hw3 := hts (.static Lib.Math.min.name) (List.mem_of_getElem? (i := 3) rfl)
  have hw4 := hts (.initialized "java/lang/Math") (List.mem_of_getElem? (i := 4) rfl)
  have hw5 := hts (.code Lib.Math.min.name Lib.Math.min.code 2 (some .int)) (List.mem_of_getElem? (i := 5) rfl)
  refine lv_aload_n hx hb dX3_limit_0 rfl (lv_at hl 0 rfl) ?_
  refine lv_iload_n hx hb dX3_limit_1 rfl (lv_at hl 1 rfl) ?_
  refine lv_iload_n hx hb dX3_limit_2 rfl (lv_at hl 2 rfl) ?_
  refine pg_iE (pg_rV (As := [.int (nI k), .int s1]) (rest := []) ⟨hx, hb, hml, hown, hts⟩ (cc_pastBasket l D cI cZ a s.heap.size u k hk s1) (cwV 2 hts gX3_limit_X3_pastBasket rfl rfl rfl (by decide +kernel) ⟨Nat.le_of_ble_eq_true rfl, Nat.le_of_ble_eq_true rfl⟩) hK hP hD 2 (ci := 3) rfl rfl rfl rfl hl.1 rfl (Nat.le_of_ble_eq_true rfl) dX3_limit_3 ⟨Nat.le_of_ble_eq_true rfl, Nat.le_of_ble_eq_true rfl⟩) hD hS hA (fun H locs hP hD hS => ?_)
  refine lv_aload_n hx hb dX3_limit_6 rfl (lv_at hl 0 rfl) ?_
  refine va_get (D := D) (ci := 3) (v := .ref (a 10)) (C := RX3) (T := TX3) (N := 5) hx hb hts hiX3 hown hK hP 2 rfl rfl 3 (by decide) hw1 (fun _ h9 => h9) rfl dX3_limit_7 ?_
  refine lv_iload_n hx hb dX3_limit_10 rfl (lv_at hl 1 rfl) ?_
  refine pg_ild (f := u.2 5) hx hb hK hP 10 0 rfl rfl (show k < _ by omega) (by decide) dX3_limit_11 ?_
  refine va_mmin hx hb (by rw [hml]; exact hl.1.symm) hown hw2 hw3 hw4 hw5 (Nat.le_of_ble_eq_true rfl) (Nat.le_of_ble_eq_true rfl) (Nat.le_of_ble_eq_true rfl) (Nat.le_of_ble_eq_true rfl) dX3_limit_12 ?_
  refine W.eq (g2 := F0 m 15 ls [.int (pg_min (pg_past u.2 k s1) (u.2 5 k))]) rfl ?_
  exact W.iret (v := pg_min (pg_past u.2 k s1) (u.2 5 k)) hx hb hr (fun t9 ht9 hW9 => ⟨⟨pg_min (pg_past u.2 k s1) (u.2 5 k), u, rfl, ⟨rfl, rfl⟩, by rw [ht9]; exact hP, va_K.moved hW9.alike hK, hD⟩, hS.F ht9⟩) hS.2.2 dX3_limit_15
end
section
theorem pg_h2_io : ∀ w ∈ (vx_atS RX4 203 "java/lang/IndexOutOfBoundsException" ["java/lang/RuntimeException", "java/lang/Exception"]).filter (fun w => !goodWord w), w ∈ pg_nw := by decide +kernel
theorem pg_hg_io : ∀ w ∈ Cond.classLink RX4 199 "java/lang/IndexOutOfBoundsException" :: Cond.initialized "java/lang/IndexOutOfBoundsException" :: vx_atS RX4 203 "java/lang/IndexOutOfBoundsException" ["java/lang/RuntimeException", "java/lang/Exception"], vx_ot w = true := by decide +kernel
theorem pg_h2_ia : ∀ w ∈ (vx_atS RX4 208 "java/lang/IllegalArgumentException" ["java/lang/RuntimeException", "java/lang/Exception"]).filter (fun w => !goodWord w), w ∈ pg_nw := by decide +kernel
theorem pg_hg_ia : ∀ w ∈ Cond.classLink RX4 204 "java/lang/IllegalArgumentException" :: Cond.initialized "java/lang/IllegalArgumentException" :: vx_atS RX4 208 "java/lang/IllegalArgumentException" ["java/lang/RuntimeException", "java/lang/Exception"], vx_ot w = true := by decide +kernel
theorem pg_h2_is : ∀ w ∈ (vx_atS RX4 128 "java/lang/IllegalStateException" ["java/lang/RuntimeException", "java/lang/Exception"]).filter (fun w => !goodWord w), w ∈ pg_nw := by decide +kernel
theorem pg_hg_is : ∀ w ∈ Cond.classLink RX4 124 "java/lang/IllegalStateException" :: Cond.initialized "java/lang/IllegalStateException" :: vx_atS RX4 128 "java/lang/IllegalStateException" ["java/lang/RuntimeException", "java/lang/Exception"], vx_ot w = true := by decide +kernel
set_option maxHeartbeats 4000000 in
set_option maxRecDepth 100000 in
/-- EarnOut.meet(first, end) -/
theorem cc_meet (l : Launch) (D : va_G) (cI cZ : ClassId) (a : Nat → Nat) (sz : Nat) (u : pg_St) (i0 j : Nat) (hij : i0 ≤ j) (hj : j ≤ 4) : Met l yX1_meet wsX1_meet ({ frames := 0, cells := 0, slots := 0, locals := 0 }) (va_Pc [.ref (a 4), .int (nI i0), .int (nI j)] (pg_B D (pg_ty cI cZ) (pg_wB cI cZ a u) sz)) (va_Qi (fun r u' => r = pg_msum u.2 i0 j ∧ u' = (u.1, pg_row u.2 13 (pg_met u.2 i0 j))) (pg_E D (pg_ty cI cZ) (va_A (pg_wB cI cZ a u) sz) (pg_wB cI cZ a)) (va_A (pg_wB cI cZ a u) sz)) 0 0 (va_A (pg_wB cI cZ a u) sz) := by
  refine Met.ofW (cc := cX1_meet) (maxL := 5) (ret := (some .int)) (by decide) rfl ?_
  intro p e s m args below meth c s₁ B hml hv
  obtain ⟨rfl, hsz, hP, hK, hD0⟩ := hv
  have hx := B.exec
  have hb := B.bytes
  have hr := B.returns
  have hts := atoms_spec (ws := wsX1_meet) B.pre
  have hown : s.vm.findClass RX1 = some m.cls := findClass_of_methodNamed B.named
  have hlocks := B.notSynchronized
  subst hsz
  have hD := hD0.self (sz := s.heap.size)
  generalize hAe : va_A (pg_wB cI cZ a u) s.heap.size = A at hD ⊢
  have hA : ∀ q : Nat, s.heap.size ≤ q → A q := fun q h => by rw [← hAe]; exact Or.inr h
  have hS : va_S A s.heap s.heap [] := va_S.rf
  have hl := lv_entry ([.ref (a 4), .int (nI i0), .int (nI j)]) (n := 5) (Nat.le_of_ble_eq_true rfl)
  rw [lg_entry_eq]
  generalize (lg_sl ([.ref (a 4), .int (nI i0), .int (nI j)]) ++ List.replicate (5 - (lg_sl ([.ref (a 4), .int (nI i0), .int (nI j)])).length) Slot.unset).toArray = ls at hl ⊢
  have hl : lv_has ls 5 [(0, .ref (a 4)), (1, .int (nI i0)), (2, .int (nI j))] := hl
  have hiX1 : ∀ w ∈ wsX10, w ∈ wsX1_meet := fun _ h => List.mem_cons_of_mem _ (List.mem_append_right _ (h))
  have hw1 := hts (.fieldLink RX1 18 "PegBox$EarnOut" "met" "[Z") (List.mem_of_getElem? (i := 1) rfl)
  have hw2 := hts (.fieldLink RX1 15 "PegBox$EarnOut" "amounts" "[I") (List.mem_of_getElem? (i := 2) rfl)
  refine lv_iconst (v := 0) hx hb dX1_meet_0 (by decide) ?_
  refine lv_istore_n (lv' := [(3, .int 0), (0, .ref (a 4)), (1, .int (nI i0)), (2, .int (nI j))]) hx hb dX1_meet_1 rfl hl (by decide) rfl (fun ls hl => ?_)
  refine lv_iload_n hx hb dX1_meet_2 rfl (lv_at hl 2 rfl) ?_
  refine lv_istore (lv' := [(4, .int (nI i0)), (3, .int 0), (0, .ref (a 4)), (1, .int (nI i0)), (2, .int (nI j))]) hx hb dX1_meet_3 hl (by decide) rfl (fun ls hl => ?_)
  have L5 : ∀ (k9 i : Nat) (x : Int32) (w9 : pg_St), i ≤ j → j < i + k9 → i0 ≤ i → x = pg_msum u.2 i0 i → w9 = (u.1, pg_row u.2 13 (pg_met u.2 i0 i)) → ∀ (H : Heap) (locs : List Loc), va_P D vwCl (pg_wB cI cZ a w9) H → va_D A (pg_wB cI cZ a w9) → va_S A s.heap H locs → ∀ ls : Array Slot, lv_has ls 5 [(4, .int (nI i)), (3, .int x), (0, .ref (a 4)), (1, .int (nI i0)), (2, .int (nI j))] → W p l e (headSpec wsX1_meet ({ frames := 0, cells := 0, slots := 0, locals := 0 })).room s m ([.ref (a 4), .int (nI i0), .int (nI j)] : List Value).toArray below meth c H locs 0 0 (MQ below (va_Qi (fun r u' => r = pg_msum u.2 i0 j ∧ u' = (u.1, pg_row u.2 13 (pg_met u.2 i0 j))) (pg_E D (pg_ty cI cZ) A (pg_wB cI cZ a)) A) ([.ref (a 4), .int (nI i0), .int (nI j)] : List Value).toArray s 0 0 A) (F0 m 5 ls []) := by
    intro k9
    induction k9 with
    | zero => intro i x w9 h1 h2; exact absurd h2 (by omega)
    | succ k9 ih =>
      intro i x w9 hi9 hk9 hlo9 hx9 hw99 H locs hP hD hS ls hl
      subst hx9
      subst hw99
      refine lv_iload hx hb dX1_meet_5 (lv_at hl 0 rfl) ?_
      refine lv_iload_n hx hb dX1_meet_7 rfl (lv_at hl 4 rfl) ?_
      refine lv_icmp_ge (tgt := 45) hx hb dX1_meet_8 (by decide) (fun c_8 => ?_) (fun c_8 => ?_)
      · have hiN : i = j := pg_exit (rfl) (by omega) hi9 c_8
        refine lv_iload_n hx hb dX1_meet_45 rfl (lv_at hl 1 rfl) ?_
        exact W.iret (v := pg_msum u.2 i0 i) hx hb hr (fun t9 ht9 hW9 => ⟨⟨pg_msum u.2 i0 i, (u.1, (pg_row u.2 13 (pg_met u.2 i0 i))), rfl, ⟨by rw [hiN], by rw [hiN]⟩, by rw [ht9]; exact hP, va_K.moved hW9.alike hK, hD⟩, hS.F ht9⟩) hS.2.2 dX1_meet_46
      · have hlt : i < j := pg_stay (rfl) (by omega) c_8
        refine lv_aload_n hx hb dX1_meet_11 rfl (lv_at hl 2 rfl) ?_
        refine va_get (D := D) (ci := 1) (v := .ref (a 18)) (C := RX1) (T := TX1) (N := 8) hx hb hts hiX1 hown hK hP 4 rfl rfl 2 (by decide) hw1 (fun _ h9 => h9) rfl dX1_meet_12 ?_
        refine lv_iload hx hb dX1_meet_15 (lv_at hl 0 rfl) ?_
        refine pg_zld (f := (pg_met u.2 i0 i)) hx hb hK hP 18 1 rfl rfl (show i < _ by omega) (by decide) dX1_meet_17 ?_
        refine lv_if_ne (tgt := 39) hx hb dX1_meet_18 (by decide) (fun c_18 => ?_) (fun c_18 => ?_)
        · refine lv_iinc (v := nI (i + 1)) (lv' := [(4, .int (nI (i + 1))), (3, .int (pg_msum u.2 i0 i)), (0, .ref (a 4)), (1, .int (nI i0)), (2, .int (nI j))]) hx hb dX1_meet_39 hl (k := 0) rfl (by rw [nI_succ]; rfl) (by decide) rfl (fun ls hl => ?_)
          refine lv_goto (tgt := 5) hx hb dX1_meet_42 (by decide) ?_
          rw [pg_met_at] at c_18
          exact ih (i + 1) (pg_msum u.2 i0 i) (u.1, (pg_row u.2 13 (pg_met u.2 i0 i))) (by omega) (by omega) (by omega) (pg_msum_b c_18) (by rw [pg_met_s c_18]) _ _ hP hD hS ls (lv_sub hl [0, 1, 2, 3, 4] rfl)
        · refine lv_aload_n hx hb dX1_meet_21 rfl (lv_at hl 2 rfl) ?_
          refine va_get (D := D) (ci := 1) (v := .ref (a 18)) (C := RX1) (T := TX1) (N := 8) hx hb hts hiX1 hown hK hP 4 rfl rfl 2 (by decide) hw1 (fun _ h9 => h9) rfl dX1_meet_22 ?_
          refine lv_iload hx hb dX1_meet_25 (lv_at hl 0 rfl) ?_
          refine lv_iconst (v := 1) hx hb dX1_meet_27 (by decide) ?_
          refine pg_zst hx hb hK hP hD hS 18 1 rfl rfl (show i < _ by omega) (by decide) rfl dX1_meet_28 (fun H locs hP hD hS => ?_)
          have hP : va_P D vwCl (pg_wB cI cZ a (u.1, (pg_row (pg_row u.2 13 (pg_met u.2 i0 i)) 13 (upd ((pg_met u.2 i0 i)) i 1)))) H := hP
          have hD : va_D A (pg_wB cI cZ a (u.1, (pg_row (pg_row u.2 13 (pg_met u.2 i0 i)) 13 (upd ((pg_met u.2 i0 i)) i 1)))) := hD
          refine lv_iload_n hx hb dX1_meet_29 rfl (lv_at hl 1 rfl) ?_
          refine lv_aload_n hx hb dX1_meet_30 rfl (lv_at hl 2 rfl) ?_
          refine va_get (D := D) (ci := 1) (v := .ref (a 17)) (C := RX1) (T := TX1) (N := 8) hx hb hts hiX1 hown hK hP 4 rfl rfl 1 (by decide) hw2 (fun _ h9 => h9) rfl dX1_meet_31 ?_
          refine lv_iload hx hb dX1_meet_34 (lv_at hl 0 rfl) ?_
          refine pg_ild (f := u.2 12) hx hb hK hP 17 0 rfl rfl (show i < _ by omega) (by decide) dX1_meet_36 ?_
          refine lv_iadd hx hb dX1_meet_37 ?_
          refine lv_istore_n (lv' := [(3, .int ((pg_msum u.2 i0 i) + (u.2 12 i))), (4, .int (nI i)), (0, .ref (a 4)), (1, .int (nI i0)), (2, .int (nI j))]) hx hb dX1_meet_38 rfl hl (by decide) rfl (fun ls hl => ?_)
          refine lv_iinc (v := nI (i + 1)) (lv' := [(4, .int (nI (i + 1))), (3, .int ((pg_msum u.2 i0 i) + (u.2 12 i))), (0, .ref (a 4)), (1, .int (nI i0)), (2, .int (nI j))]) hx hb dX1_meet_39 hl (k := 1) rfl (by rw [nI_succ]; rfl) (by decide) rfl (fun ls hl => ?_)
          refine lv_goto (tgt := 5) hx hb dX1_meet_42 (by decide) ?_
          rw [pg_met_at] at c_18
          exact ih (i + 1) ((pg_msum u.2 i0 i) + (u.2 12 i)) (u.1, (pg_row (pg_row u.2 13 (pg_met u.2 i0 i)) 13 (upd ((pg_met u.2 i0 i)) i 1))) (by omega) (by omega) (by omega) (pg_msum_a hlo9 c_18) (by rw [pg_row_row, pg_met_w hlo9 c_18]) _ _ hP hD hS ls (lv_sub hl [0, 1, 2, 3, 4] rfl)
  exact L5 (j + 1) i0 0 u (by omega) (by omega) (by omega) (pg_msum_0 u.2 i0).symm (by rw [pg_met_0, pg_row_self]) _ _ hP hD hS ls hl
set_option maxHeartbeats 4000000 in
set_option maxRecDepth 100000 in
/-- EarnOut.tell(result) -/
theorem cc_tell (l : Launch) (D : va_G) (cI cZ : ClassId) (a : Nat → Nat) (sz : Nat) (u : pg_St) (t : Nat) (ht : u.1 13 = nI t) (h4 : t < 4) (x : Int32) : Met l yX1_tell wsX1_tell ({ frames := 1, cells := 0, slots := 0, locals := 24 }) (va_Pc [.ref (a 4), .int x] (pg_B D (pg_ty cI cZ) (pg_wB cI cZ a u) sz)) (va_Qi (fun r u' => r = pg_tellr u t x ∧ u' = pg_tell u t x) (pg_E D (pg_ty cI cZ) (va_A (pg_wB cI cZ a u) sz) (pg_wB cI cZ a)) (va_A (pg_wB cI cZ a u) sz)) 0 0 (va_A (pg_wB cI cZ a u) sz) := by
  refine Met.ofW (cc := cX1_tell) (maxL := 3) (ret := (some .int)) (by decide) rfl ?_
  intro p e s m args below meth c s₁ B hml hv
  obtain ⟨rfl, hsz, hP, hK, hD0⟩ := hv
  have hx := B.exec
  have hb := B.bytes
  have hr := B.returns
  have hts := atoms_spec (ws := wsX1_tell) B.pre
  have hown : s.vm.findClass RX1 = some m.cls := findClass_of_methodNamed B.named
  have hlocks := B.notSynchronized
  subst hsz
  have hD := hD0.self (sz := s.heap.size)
  generalize hAe : va_A (pg_wB cI cZ a u) s.heap.size = A at hD ⊢
  have hA : ∀ q : Nat, s.heap.size ≤ q → A q := fun q h => by rw [← hAe]; exact Or.inr h
  have hS : va_S A s.heap s.heap [] := va_S.rf
  have hl := lv_entry ([.ref (a 4), .int x]) (n := 3) (Nat.le_of_ble_eq_true rfl)
  rw [lg_entry_eq]
  generalize (lg_sl ([.ref (a 4), .int x]) ++ List.replicate (3 - (lg_sl ([.ref (a 4), .int x])).length) Slot.unset).toArray = ls at hl ⊢
  have hl : lv_has ls 3 [(0, .ref (a 4)), (1, .int x)] := hl
  have hiX1 : ∀ w ∈ wsX10, w ∈ wsX1_tell := fun _ h => List.mem_cons_of_mem _ (List.mem_append_right _ (h))
  have hw1 := hts (.fieldLink RX1 22 "PegBox$EarnOut" "told" "I") (List.mem_of_getElem? (i := 1) rfl)
  have hw2 := hts (.fieldLink RX1 26 "PegBox$EarnOut" "resultSum" "I") (List.mem_of_getElem? (i := 2) rfl)
  have hw3 := hts (.fieldLink RX1 29 "PegBox$EarnOut" "targetSum" "I") (List.mem_of_getElem? (i := 3) rfl)
  have hw4 := hts (.fieldLink RX1 9 "PegBox$EarnOut" "targets" "[I") (List.mem_of_getElem? (i := 4) rfl)
  have hw5 := hts (.fieldLink RX1 32 "PegBox$EarnOut" "isCarried" "Z") (List.mem_of_getElem? (i := 5) rfl)
  refine lv_aload_n hx hb dX1_tell_0 rfl (lv_at hl 0 rfl) ?_
  refine va_get (D := D) (ci := 1) (v := .int (u.1 13)) (C := RX1) (T := TX1) (N := 8) hx hb hts hiX1 hown hK hP 4 rfl rfl 5 (by decide) hw1 (fun _ h9 => h9) rfl dX1_tell_1 ?_
  rw [ht]
  refine lv_istore_n (lv' := [(2, .int (nI t)), (0, .ref (a 4)), (1, .int x)]) hx hb dX1_tell_4 rfl hl (by decide) rfl (fun ls hl => ?_)
  refine lv_iload_n hx hb dX1_tell_5 rfl (lv_at hl 0 rfl) ?_
  refine lv_iconst (v := 4) hx hb dX1_tell_6 (by decide) ?_
  refine lv_icmp_lt (tgt := 12) hx hb dX1_tell_7 (by decide) (fun c_7 => ?_) (fun c_7 => absurd (show nI t < 4 from nI_lt (b := 4) h4 (by decide)) c_7)
  refine lv_aload_n hx hb dX1_tell_12 rfl (lv_at hl 1 rfl) ?_
  refine lv_iload_n hx hb dX1_tell_13 rfl (lv_at hl 0 rfl) ?_
  refine lv_iconst (v := 1) hx hb dX1_tell_14 (by decide) ?_
  refine lv_iadd hx hb dX1_tell_15 ?_
  rw [← nI_succ t]
  refine va_put (D := D) (ci := 1) (v := .int (nI (t + 1))) (ty := .int) (C := RX1) (T := TX1) (N := 8) hx hb hts hiX1 tyX1 tyX1_ok nmX1 hown hK hP hD hS 4 rfl rfl 5 (by decide) hw1 (fun _ h9 => h9) rfl (by decide +kernel) rfl rfl (Nat.le_of_ble_eq_true rfl) dX1_tell_16 (fun H locs hP hD hS => ?_)
  have hP : va_P D vwCl (pg_wB cI cZ a ((upd u.1 13 (nI (t + 1))), u.2)) H := hP
  have hD : va_D A (pg_wB cI cZ a ((upd u.1 13 (nI (t + 1))), u.2)) := hD
  refine lv_aload_n hx hb dX1_tell_19 rfl (lv_at hl 1 rfl) ?_
  refine lv_dup hx hb dX1_tell_20 rfl ?_
  refine va_get (D := D) (ci := 1) (v := .int (u.1 14)) (C := RX1) (T := TX1) (N := 8) hx hb hts hiX1 hown hK hP 4 rfl rfl 6 (by decide) hw2 (fun _ h9 => h9) rfl dX1_tell_21 ?_
  refine lv_iload_n hx hb dX1_tell_24 rfl (lv_at hl 2 rfl) ?_
  refine lv_iadd hx hb dX1_tell_25 ?_
  refine va_put (D := D) (ci := 1) (v := .int ((u.1 14) + x)) (ty := .int) (C := RX1) (T := TX1) (N := 8) hx hb hts hiX1 tyX1 tyX1_ok nmX1 hown hK hP hD hS 4 rfl rfl 6 (by decide) hw2 (fun _ h9 => h9) rfl (by decide +kernel) rfl rfl (Nat.le_of_ble_eq_true rfl) dX1_tell_26 (fun H locs hP hD hS => ?_)
  have hP : va_P D vwCl (pg_wB cI cZ a ((upd (upd u.1 13 (nI (t + 1))) 14 ((u.1 14) + x)), u.2)) H := hP
  have hD : va_D A (pg_wB cI cZ a ((upd (upd u.1 13 (nI (t + 1))) 14 ((u.1 14) + x)), u.2)) := hD
  refine lv_aload_n hx hb dX1_tell_29 rfl (lv_at hl 1 rfl) ?_
  refine lv_dup hx hb dX1_tell_30 rfl ?_
  refine va_get (D := D) (ci := 1) (v := .int (u.1 15)) (C := RX1) (T := TX1) (N := 8) hx hb hts hiX1 hown hK hP 4 rfl rfl 7 (by decide) hw3 (fun _ h9 => h9) rfl dX1_tell_31 ?_
  refine lv_aload_n hx hb dX1_tell_34 rfl (lv_at hl 1 rfl) ?_
  refine va_get (D := D) (ci := 1) (v := .ref (a 16)) (C := RX1) (T := TX1) (N := 8) hx hb hts hiX1 hown hK hP 4 rfl rfl 0 (by decide) hw4 (fun _ h9 => h9) rfl dX1_tell_35 ?_
  refine lv_iload_n hx hb dX1_tell_38 rfl (lv_at hl 0 rfl) ?_
  refine pg_ild (f := u.2 11) hx hb hK hP 16 0 rfl rfl (show t < _ by omega) (by decide) dX1_tell_39 ?_
  refine lv_iadd hx hb dX1_tell_40 ?_
  refine va_put (D := D) (ci := 1) (v := .int ((u.1 15) + (u.2 11 t))) (ty := .int) (C := RX1) (T := TX1) (N := 8) hx hb hts hiX1 tyX1 tyX1_ok nmX1 hown hK hP hD hS 4 rfl rfl 7 (by decide) hw3 (fun _ h9 => h9) rfl (by decide +kernel) rfl rfl (Nat.le_of_ble_eq_true rfl) dX1_tell_41 (fun H locs hP hD hS => ?_)
  have hP : va_P D vwCl (pg_wB cI cZ a ((upd (upd (upd u.1 13 (nI (t + 1))) 14 ((u.1 14) + x)) 15 ((u.1 15) + (u.2 11 t))), u.2)) H := hP
  have hD : va_D A (pg_wB cI cZ a ((upd (upd (upd u.1 13 (nI (t + 1))) 14 ((u.1 14) + x)) 15 ((u.1 15) + (u.2 11 t))), u.2)) := hD
  refine lv_aload_n hx hb dX1_tell_44 rfl (lv_at hl 1 rfl) ?_
  refine va_get (D := D) (ci := 1) (v := .int (u.1 11)) (C := RX1) (T := TX1) (N := 8) hx hb hts hiX1 hown hK hP 4 rfl rfl 3 (by decide) hw5 (fun _ h9 => h9) rfl dX1_tell_45 ?_
  refine lv_if_eq (tgt := 72) hx hb dX1_tell_48 (by decide) (fun c_48 => ?_) (fun c_48 => ?_)
  · refine lv_iload_n hx hb dX1_tell_72 rfl (lv_at hl 2 rfl) ?_
    refine lv_aload_n hx hb dX1_tell_73 rfl (lv_at hl 1 rfl) ?_
    refine va_get (D := D) (ci := 1) (v := .ref (a 16)) (C := RX1) (T := TX1) (N := 8) hx hb hts hiX1 hown hK hP 4 rfl rfl 0 (by decide) hw4 (fun _ h9 => h9) rfl dX1_tell_74 ?_
    refine lv_iload_n hx hb dX1_tell_77 rfl (lv_at hl 0 rfl) ?_
    refine pg_ild (f := u.2 11) hx hb hK hP 16 0 rfl rfl (show t < _ by omega) (by decide) dX1_tell_78 ?_
    refine lv_icmp_lt (tgt := 94) hx hb dX1_tell_79 (by decide) (fun c_79 => ?_) (fun c_79 => ?_)
    · refine lv_iconst (v := 0) hx hb dX1_tell_94 (by decide) ?_
      have ek : pg_tk u t x = t + 1 := by rw [pg_tk, if_pos c_48, if_pos c_79]
      exact W.iret (v := 0) hx hb hr (fun t9 ht9 hW9 => ⟨⟨0, ((upd (upd (upd u.1 13 (nI (t + 1))) 14 ((u.1 14) + x)) 15 ((u.1 15) + (u.2 11 t))), u.2), rfl, ⟨by rw [pg_tellr, ek, pg_msum_0], by rw [pg_tell, ek, pg_met_0, pg_row_self]⟩, by rw [ht9]; exact hP, va_K.moved hW9.alike hK, hD⟩, hS.F ht9⟩) hS.2.2 dX1_tell_95
    · refine lv_aload_n hx hb dX1_tell_82 rfl (lv_at hl 1 rfl) ?_
      refine lv_iload_n hx hb dX1_tell_83 rfl (lv_at hl 0 rfl) ?_
      refine lv_aload_n hx hb dX1_tell_84 rfl (lv_at hl 1 rfl) ?_
      refine va_get (D := D) (ci := 1) (v := .int (nI (t + 1))) (C := RX1) (T := TX1) (N := 8) hx hb hts hiX1 hown hK hP 4 rfl rfl 5 (by decide) hw1 (fun _ h9 => h9) rfl dX1_tell_85 ?_
      refine pg_iE (pg_rV (As := [.int (nI t), .int (nI (t + 1))]) (rest := []) ⟨hx, hb, hml, hown, hts⟩ (cc_meet l D cI cZ a H.size ((upd (upd (upd u.1 13 (nI (t + 1))) 14 ((u.1 14) + x)) 15 ((u.1 15) + (u.2 11 t))), u.2) t (t + 1) (by omega) (by omega)) (cwV 2 hts gX1_tell_X1_meet rfl rfl rfl (by decide +kernel) ⟨Nat.le_of_ble_eq_true rfl, Nat.le_of_ble_eq_true rfl⟩) hK hP hD 4 (ci := 1) rfl rfl rfl rfl hl.1 rfl (Nat.le_of_ble_eq_true rfl) dX1_tell_88 ⟨Nat.le_of_ble_eq_true rfl, Nat.le_of_ble_eq_true rfl⟩) hD hS hA (fun H locs hP hD hS => ?_)
      refine lv_goto (tgt := 95) hx hb dX1_tell_91 (by decide) ?_
      have ek : pg_tk u t x = t := by rw [pg_tk, if_pos c_48, if_neg c_79]
      exact W.iret (v := pg_msum u.2 t (t + 1)) hx hb hr (fun t9 ht9 hW9 => ⟨⟨pg_msum u.2 t (t + 1), ((upd (upd (upd u.1 13 (nI (t + 1))) 14 ((u.1 14) + x)) 15 ((u.1 15) + (u.2 11 t))), pg_row u.2 13 (pg_met u.2 t (t + 1))), rfl, ⟨by rw [pg_tellr, ek], by rw [pg_tell, ek]⟩, by rw [ht9]; exact hP, va_K.moved hW9.alike hK, hD⟩, hS.F ht9⟩) hS.2.2 dX1_tell_95
  · refine lv_aload_n hx hb dX1_tell_51 rfl (lv_at hl 1 rfl) ?_
    refine va_get (D := D) (ci := 1) (v := .int ((u.1 14) + x)) (C := RX1) (T := TX1) (N := 8) hx hb hts hiX1 hown hK hP 4 rfl rfl 6 (by decide) hw2 (fun _ h9 => h9) rfl dX1_tell_52 ?_
    refine lv_aload_n hx hb dX1_tell_55 rfl (lv_at hl 1 rfl) ?_
    refine va_get (D := D) (ci := 1) (v := .int ((u.1 15) + (u.2 11 t))) (C := RX1) (T := TX1) (N := 8) hx hb hts hiX1 hown hK hP 4 rfl rfl 7 (by decide) hw3 (fun _ h9 => h9) rfl dX1_tell_56 ?_
    refine lv_icmp_lt (tgt := 72) hx hb dX1_tell_59 (by decide) (fun c_59 => ?_) (fun c_59 => ?_)
    · refine lv_iload_n hx hb dX1_tell_72 rfl (lv_at hl 2 rfl) ?_
      refine lv_aload_n hx hb dX1_tell_73 rfl (lv_at hl 1 rfl) ?_
      refine va_get (D := D) (ci := 1) (v := .ref (a 16)) (C := RX1) (T := TX1) (N := 8) hx hb hts hiX1 hown hK hP 4 rfl rfl 0 (by decide) hw4 (fun _ h9 => h9) rfl dX1_tell_74 ?_
      refine lv_iload_n hx hb dX1_tell_77 rfl (lv_at hl 0 rfl) ?_
      refine pg_ild (f := u.2 11) hx hb hK hP 16 0 rfl rfl (show t < _ by omega) (by decide) dX1_tell_78 ?_
      refine lv_icmp_lt (tgt := 94) hx hb dX1_tell_79 (by decide) (fun c_79 => ?_) (fun c_79 => ?_)
      · refine lv_iconst (v := 0) hx hb dX1_tell_94 (by decide) ?_
        have ek : pg_tk u t x = t + 1 := by rw [pg_tk, if_neg c_48, if_pos c_59, if_pos c_79]
        exact W.iret (v := 0) hx hb hr (fun t9 ht9 hW9 => ⟨⟨0, ((upd (upd (upd u.1 13 (nI (t + 1))) 14 ((u.1 14) + x)) 15 ((u.1 15) + (u.2 11 t))), u.2), rfl, ⟨by rw [pg_tellr, ek, pg_msum_0], by rw [pg_tell, ek, pg_met_0, pg_row_self]⟩, by rw [ht9]; exact hP, va_K.moved hW9.alike hK, hD⟩, hS.F ht9⟩) hS.2.2 dX1_tell_95
      · refine lv_aload_n hx hb dX1_tell_82 rfl (lv_at hl 1 rfl) ?_
        refine lv_iload_n hx hb dX1_tell_83 rfl (lv_at hl 0 rfl) ?_
        refine lv_aload_n hx hb dX1_tell_84 rfl (lv_at hl 1 rfl) ?_
        refine va_get (D := D) (ci := 1) (v := .int (nI (t + 1))) (C := RX1) (T := TX1) (N := 8) hx hb hts hiX1 hown hK hP 4 rfl rfl 5 (by decide) hw1 (fun _ h9 => h9) rfl dX1_tell_85 ?_
        refine pg_iE (pg_rV (As := [.int (nI t), .int (nI (t + 1))]) (rest := []) ⟨hx, hb, hml, hown, hts⟩ (cc_meet l D cI cZ a H.size ((upd (upd (upd u.1 13 (nI (t + 1))) 14 ((u.1 14) + x)) 15 ((u.1 15) + (u.2 11 t))), u.2) t (t + 1) (by omega) (by omega)) (cwV 2 hts gX1_tell_X1_meet rfl rfl rfl (by decide +kernel) ⟨Nat.le_of_ble_eq_true rfl, Nat.le_of_ble_eq_true rfl⟩) hK hP hD 4 (ci := 1) rfl rfl rfl rfl hl.1 rfl (Nat.le_of_ble_eq_true rfl) dX1_tell_88 ⟨Nat.le_of_ble_eq_true rfl, Nat.le_of_ble_eq_true rfl⟩) hD hS hA (fun H locs hP hD hS => ?_)
        refine lv_goto (tgt := 95) hx hb dX1_tell_91 (by decide) ?_
        have ek : pg_tk u t x = t := by rw [pg_tk, if_neg c_48, if_pos c_59, if_neg c_79]
        exact W.iret (v := pg_msum u.2 t (t + 1)) hx hb hr (fun t9 ht9 hW9 => ⟨⟨pg_msum u.2 t (t + 1), ((upd (upd (upd u.1 13 (nI (t + 1))) 14 ((u.1 14) + x)) 15 ((u.1 15) + (u.2 11 t))), pg_row u.2 13 (pg_met u.2 t (t + 1))), rfl, ⟨by rw [pg_tellr, ek], by rw [pg_tell, ek]⟩, by rw [ht9]; exact hP, va_K.moved hW9.alike hK, hD⟩, hS.F ht9⟩) hS.2.2 dX1_tell_95
    · refine lv_aload_n hx hb dX1_tell_62 rfl (lv_at hl 1 rfl) ?_
      refine lv_iconst (v := 0) hx hb dX1_tell_63 (by decide) ?_
      refine lv_aload_n hx hb dX1_tell_64 rfl (lv_at hl 1 rfl) ?_
      refine va_get (D := D) (ci := 1) (v := .int (nI (t + 1))) (C := RX1) (T := TX1) (N := 8) hx hb hts hiX1 hown hK hP 4 rfl rfl 5 (by decide) hw1 (fun _ h9 => h9) rfl dX1_tell_65 ?_
      refine pg_iE (pg_rV (As := [.int (nI 0), .int (nI (t + 1))]) (rest := []) ⟨hx, hb, hml, hown, hts⟩ (cc_meet l D cI cZ a H.size ((upd (upd (upd u.1 13 (nI (t + 1))) 14 ((u.1 14) + x)) 15 ((u.1 15) + (u.2 11 t))), u.2) 0 (t + 1) (by omega) (by omega)) (cwV 2 hts gX1_tell_X1_meet rfl rfl rfl (by decide +kernel) ⟨Nat.le_of_ble_eq_true rfl, Nat.le_of_ble_eq_true rfl⟩) hK hP hD 4 (ci := 1) rfl rfl rfl rfl hl.1 rfl (Nat.le_of_ble_eq_true rfl) dX1_tell_68 ⟨Nat.le_of_ble_eq_true rfl, Nat.le_of_ble_eq_true rfl⟩) hD hS hA (fun H locs hP hD hS => ?_)
      have ek : pg_tk u t x = 0 := by rw [pg_tk, if_neg c_48, if_neg c_59]
      exact W.iret (v := pg_msum u.2 0 (t + 1)) hx hb hr (fun t9 ht9 hW9 => ⟨⟨pg_msum u.2 0 (t + 1), ((upd (upd (upd u.1 13 (nI (t + 1))) 14 ((u.1 14) + x)) 15 ((u.1 15) + (u.2 11 t))), pg_row u.2 13 (pg_met u.2 0 (t + 1))), rfl, ⟨by rw [pg_tellr, ek], by rw [pg_tell, ek]⟩, by rw [ht9]; exact hP, va_K.moved hW9.alike hK, hD⟩, hS.F ht9⟩) hS.2.2 dX1_tell_71
set_option maxHeartbeats 4000000 in
set_option maxRecDepth 100000 in
/-- EarnOut.hasten() -/
theorem cc_hasten (l : Launch) (D : va_G) (cI cZ : ClassId) (a : Nat → Nat) (sz : Nat) (u : pg_St) (t : Nat) (ht : u.1 13 = nI t) (h4 : t ≤ 4) : Met l yX1_hasten wsX1_hasten ({ frames := 1, cells := 0, slots := 0, locals := 24 }) (va_Pc [.ref (a 4)] (pg_B D (pg_ty cI cZ) (pg_wB cI cZ a u) sz)) (va_Qi (fun r u' => r = pg_hasr u t ∧ u' = pg_has u t) (pg_E D (pg_ty cI cZ) (va_A (pg_wB cI cZ a u) sz) (pg_wB cI cZ a)) (va_A (pg_wB cI cZ a u) sz)) 0 0 (va_A (pg_wB cI cZ a u) sz) := by
  refine Met.ofW (cc := cX1_hasten) (maxL := 1) (ret := (some .int)) (by decide) rfl ?_
  intro p e s m args below meth c s₁ B hml hv
  obtain ⟨rfl, hsz, hP, hK, hD0⟩ := hv
  have hx := B.exec
  have hb := B.bytes
  have hr := B.returns
  have hts := atoms_spec (ws := wsX1_hasten) B.pre
  have hown : s.vm.findClass RX1 = some m.cls := findClass_of_methodNamed B.named
  have hlocks := B.notSynchronized
  subst hsz
  have hD := hD0.self (sz := s.heap.size)
  generalize hAe : va_A (pg_wB cI cZ a u) s.heap.size = A at hD ⊢
  have hA : ∀ q : Nat, s.heap.size ≤ q → A q := fun q h => by rw [← hAe]; exact Or.inr h
  have hS : va_S A s.heap s.heap [] := va_S.rf
  have hl := lv_entry ([.ref (a 4)]) (n := 1) (Nat.le_of_ble_eq_true rfl)
  rw [lg_entry_eq]
  generalize (lg_sl ([.ref (a 4)]) ++ List.replicate (1 - (lg_sl ([.ref (a 4)])).length) Slot.unset).toArray = ls at hl ⊢
  have hl : lv_has ls 1 [(0, .ref (a 4))] := hl
  have hiX1 : ∀ w ∈ wsX10, w ∈ wsX1_hasten := fun _ h => List.mem_cons_of_mem _ (List.mem_append_right _ (h))
  have hw1 := hts (.fieldLink RX1 40 "PegBox$EarnOut" "isSpedUp" "Z") (List.mem_of_getElem? (i := 1) rfl)
  have hw2 := hts (.fieldLink RX1 22 "PegBox$EarnOut" "told" "I") (List.mem_of_getElem? (i := 2) rfl)
  refine lv_aload_n hx hb dX1_hasten_0 rfl (lv_at hl 0 rfl) ?_
  refine lv_iconst (v := 1) hx hb dX1_hasten_1 (by decide) ?_
  refine va_put (D := D) (ci := 1) (v := .int 1) (ty := .boolean) (C := RX1) (T := TX1) (N := 8) hx hb hts hiX1 tyX1 tyX1_ok nmX1 hown hK hP hD hS 4 rfl rfl 4 (by decide) hw1 (fun _ h9 => h9) rfl (by decide +kernel) rfl rfl (Nat.le_of_ble_eq_true rfl) dX1_hasten_2 (fun H locs hP hD hS => ?_)
  have hP : va_P D vwCl (pg_wB cI cZ a ((upd u.1 12 1), u.2)) H := hP
  have hD : va_D A (pg_wB cI cZ a ((upd u.1 12 1), u.2)) := hD
  refine lv_aload_n hx hb dX1_hasten_5 rfl (lv_at hl 0 rfl) ?_
  refine lv_aload_n hx hb dX1_hasten_6 rfl (lv_at hl 0 rfl) ?_
  refine va_get (D := D) (ci := 1) (v := .int (u.1 13)) (C := RX1) (T := TX1) (N := 8) hx hb hts hiX1 hown hK hP 4 rfl rfl 5 (by decide) hw2 (fun _ h9 => h9) rfl dX1_hasten_7 ?_
  rw [ht]
  refine lv_iconst (v := 4) hx hb dX1_hasten_10 (by decide) ?_
  refine pg_iE (pg_rV (As := [.int (nI t), .int (nI 4)]) (rest := []) ⟨hx, hb, hml, hown, hts⟩ (cc_meet l D cI cZ a H.size ((upd u.1 12 1), u.2) t 4 h4 (by omega)) (cwV 2 hts gX1_hasten_X1_meet rfl rfl rfl (by decide +kernel) ⟨Nat.le_of_ble_eq_true rfl, Nat.le_of_ble_eq_true rfl⟩) hK hP hD 4 (ci := 1) rfl rfl rfl rfl hl.1 rfl (Nat.le_of_ble_eq_true rfl) dX1_hasten_11 ⟨Nat.le_of_ble_eq_true rfl, Nat.le_of_ble_eq_true rfl⟩) hD hS hA (fun H locs hP hD hS => ?_)
  exact W.iret (v := pg_msum u.2 t 4) hx hb hr (fun t9 ht9 hW9 => ⟨⟨pg_msum u.2 t 4, ((upd u.1 12 1), pg_row u.2 13 (pg_met u.2 t 4)), rfl, ⟨rfl, rfl⟩, by rw [ht9]; exact hP, va_K.moved hW9.alike hK, hD⟩, hS.F ht9⟩) hS.2.2 dX1_hasten_14
set_option maxHeartbeats 4000000 in
set_option maxRecDepth 100000 in
theorem cc_num_ok (l : Launch) (D : va_G) (tys : List (ClassId × FieldType)) (ws : va_W) (sz : Nat) (x n : Int32) (h : pg_nb x n = true) : Met l yX4_checkNumber wsX4_checkNumber ({ frames := 0, cells := 0, slots := 0, locals := 0 }) (va_Pc [.int x, .int n] (pg_B D tys (ws) sz)) (va_Qv (fun _ : Unit => True) (pg_E D tys (va_A (ws) sz) (fun _ : Unit => ws)) (va_A (ws) sz)) 0 0 (va_A (ws) sz) := by
  refine Met.ofW (cc := cX4_checkNumber) (maxL := 2) (ret := none) (by decide) rfl ?_
  intro p e s m args below meth c s₁ B hml hv
  obtain ⟨rfl, hsz, hP, hK, hD0⟩ := hv
  have hx := B.exec
  have hb := B.bytes
  have hr := B.returns
  have hts := atoms_spec (ws := wsX4_checkNumber) B.pre
  have hown : s.vm.findClass RX4 = some m.cls := findClass_of_methodNamed B.named
  have hlocks := B.notSynchronized
  subst hsz
  have hD := hD0.self (sz := s.heap.size)
  generalize hAe : va_A (ws) s.heap.size = A at hD ⊢
  have hA : ∀ q : Nat, s.heap.size ≤ q → A q := fun q h => by rw [← hAe]; exact Or.inr h
  have hS : va_S A s.heap s.heap [] := va_S.rf
  have hl := lv_entry ([.int x, .int n]) (n := 2) (Nat.le_of_ble_eq_true rfl)
  rw [lg_entry_eq]
  generalize (lg_sl ([.int x, .int n]) ++ List.replicate (2 - (lg_sl ([.int x, .int n])).length) Slot.unset).toArray = ls at hl ⊢
  have hl : lv_has ls 2 [(0, .int x), (1, .int n)] := hl
  refine lv_iload_n hx hb dX4_checkNumber_0 rfl (lv_at hl 0 rfl) ?_
  refine lv_if_lt (tgt := 9) hx hb dX4_checkNumber_1 (by decide) (fun c_1 => absurd c_1 (pg_nb_e h).1) (fun c_1 => ?_)
  refine lv_iload_n hx hb dX4_checkNumber_4 rfl (lv_at hl 0 rfl) ?_
  refine lv_iload_n hx hb dX4_checkNumber_5 rfl (lv_at hl 1 rfl) ?_
  refine lv_icmp_lt (tgt := 19) hx hb dX4_checkNumber_6 (by decide) (fun c_6 => ?_) (fun c_6 => absurd (pg_nb_e h).2 c_6)
  exact W.vret hx hb hr (fun t9 ht9 hW9 => ⟨⟨(), rfl, trivial, by rw [ht9]; exact hP, va_K.moved hW9.alike hK, hD⟩, hS.F ht9⟩) hS.2.2 dX4_checkNumber_19
set_option maxHeartbeats 4000000 in
set_option maxRecDepth 100000 in
theorem cc_num_no (l : Launch) (hfl : l.stackTraces = false) (D : va_G) (tys : List (ClassId × FieldType)) (ws : va_W) (sz : Nat) (x n : Int32) (h : pg_nb x n = false) : vx_Met l yX4_checkNumber wsX4_checkNumber ({ frames := 6, cells := 1, slots := 6, locals := 86 }) (va_Pc [.int x, .int n] (pg_T D tys (ws) sz)) pg_No (pg_X D (ws) (va_A (ws) sz) pg_io) 1 6 (va_A (ws) sz) := by
  refine vx_ofW (cc := cX4_checkNumber) (maxL := 2) (ret := none) (by decide) rfl ?_
  intro p e s m args below meth c s₁ B hml hout hv
  obtain ⟨rfl, ⟨hsz, hP, hK, hD0⟩, hE⟩ := hv
  have hx := B.exec
  have hb := B.bytes
  have hr := B.returns
  have hts := atoms_spec (ws := wsX4_checkNumber) B.pre
  have hown : s.vm.findClass RX4 = some m.cls := findClass_of_methodNamed B.named
  have hlocks := B.notSynchronized
  subst hsz
  have hD := hD0.self (sz := s.heap.size)
  generalize hAe : va_A (ws) s.heap.size = A at hD hE ⊢
  have hA : ∀ q : Nat, s.heap.size ≤ q → A q := fun q h => by rw [← hAe]; exact Or.inr h
  have hS : va_S A s.heap s.heap [] := va_S.rf
  have hl := lv_entry ([.int x, .int n]) (n := 2) (Nat.le_of_ble_eq_true rfl)
  rw [lg_entry_eq]
  generalize (lg_sl ([.int x, .int n]) ++ List.replicate (2 - (lg_sl ([.int x, .int n])).length) Slot.unset).toArray = ls at hl ⊢
  have hl : lv_has ls 2 [(0, .int x), (1, .int n)] := hl
  have hw1 := hts (.classLink RX4 199 "java/lang/IndexOutOfBoundsException") (List.mem_of_getElem? (i := 1) rfl)
  have hw2 := hts (.initialized "java/lang/IndexOutOfBoundsException") (List.mem_of_getElem? (i := 2) rfl)
  refine lv_iload_n hx hb dX4_checkNumber_0 rfl (lv_at hl 0 rfl) ?_
  refine lv_if_lt (tgt := 9) hx hb dX4_checkNumber_1 (by decide) (fun c_1 => ?_) (fun c_1 => ?_)
  · exact pg_thr (nm := pg_io) (i := 0) hx hb hfl hown (by decide +kernel) hw1 hw2 rfl (fun w9 h => hts w9 (List.mem_cons_of_mem _ (List.mem_append_right _ (h)))) pg_h2_io pg_hg_io hE hP hS hA (by rw [hml]; exact hl.1) dX4_checkNumber_9 dX4_checkNumber_12 dX4_checkNumber_13 dX4_checkNumber_15 dX4_checkNumber_18 hout (Nat.le_of_ble_eq_true rfl) (Nat.le_of_ble_eq_true rfl) (Nat.le_of_ble_eq_true rfl) (Nat.le_of_ble_eq_true rfl) hlocks (Nat.le_of_ble_eq_true rfl) (Nat.le_of_ble_eq_true rfl)
  · refine lv_iload_n hx hb dX4_checkNumber_4 rfl (lv_at hl 0 rfl) ?_
    refine lv_iload_n hx hb dX4_checkNumber_5 rfl (lv_at hl 1 rfl) ?_
    refine lv_icmp_lt (tgt := 19) hx hb dX4_checkNumber_6 (by decide) (fun c_6 => ?_) (fun c_6 => ?_)
    · exact pg_no (pg_nb_t c_1 c_6) h
    · exact pg_thr (nm := pg_io) (i := 0) hx hb hfl hown (by decide +kernel) hw1 hw2 rfl (fun w9 h => hts w9 (List.mem_cons_of_mem _ (List.mem_append_right _ (h)))) pg_h2_io pg_hg_io hE hP hS hA (by rw [hml]; exact hl.1) dX4_checkNumber_9 dX4_checkNumber_12 dX4_checkNumber_13 dX4_checkNumber_15 dX4_checkNumber_18 hout (Nat.le_of_ble_eq_true rfl) (Nat.le_of_ble_eq_true rfl) (Nat.le_of_ble_eq_true rfl) (Nat.le_of_ble_eq_true rfl) hlocks (Nat.le_of_ble_eq_true rfl) (Nat.le_of_ble_eq_true rfl)
set_option maxHeartbeats 4000000 in
set_option maxRecDepth 100000 in
theorem cc_rng_ok (l : Launch) (D : va_G) (tys : List (ClassId × FieldType)) (ws : va_W) (sz : Nat) (x lo hi : Int32) (h : pg_in x lo hi = true) : Met l yX4_checkRange wsX4_checkRange ({ frames := 0, cells := 0, slots := 0, locals := 0 }) (va_Pc [.int x, .int lo, .int hi] (pg_B D tys (ws) sz)) (va_Qv (fun _ : Unit => True) (pg_E D tys (va_A (ws) sz) (fun _ : Unit => ws)) (va_A (ws) sz)) 0 0 (va_A (ws) sz) := by
  refine Met.ofW (cc := cX4_checkRange) (maxL := 3) (ret := none) (by decide) rfl ?_
  intro p e s m args below meth c s₁ B hml hv
  obtain ⟨rfl, hsz, hP, hK, hD0⟩ := hv
  have hx := B.exec
  have hb := B.bytes
  have hr := B.returns
  have hts := atoms_spec (ws := wsX4_checkRange) B.pre
  have hown : s.vm.findClass RX4 = some m.cls := findClass_of_methodNamed B.named
  have hlocks := B.notSynchronized
  subst hsz
  have hD := hD0.self (sz := s.heap.size)
  generalize hAe : va_A (ws) s.heap.size = A at hD ⊢
  have hA : ∀ q : Nat, s.heap.size ≤ q → A q := fun q h => by rw [← hAe]; exact Or.inr h
  have hS : va_S A s.heap s.heap [] := va_S.rf
  have hl := lv_entry ([.int x, .int lo, .int hi]) (n := 3) (Nat.le_of_ble_eq_true rfl)
  rw [lg_entry_eq]
  generalize (lg_sl ([.int x, .int lo, .int hi]) ++ List.replicate (3 - (lg_sl ([.int x, .int lo, .int hi])).length) Slot.unset).toArray = ls at hl ⊢
  have hl : lv_has ls 3 [(0, .int x), (1, .int lo), (2, .int hi)] := hl
  refine lv_iload_n hx hb dX4_checkRange_0 rfl (lv_at hl 0 rfl) ?_
  refine lv_iload_n hx hb dX4_checkRange_1 rfl (lv_at hl 1 rfl) ?_
  refine lv_icmp_lt (tgt := 10) hx hb dX4_checkRange_2 (by decide) (fun c_2 => absurd c_2 (pg_in_e h).1) (fun c_2 => ?_)
  refine lv_iload_n hx hb dX4_checkRange_5 rfl (lv_at hl 0 rfl) ?_
  refine lv_iload_n hx hb dX4_checkRange_6 rfl (lv_at hl 2 rfl) ?_
  refine lv_icmp_le (tgt := 20) hx hb dX4_checkRange_7 (by decide) (fun c_7 => ?_) (fun c_7 => absurd (pg_in_e h).2 c_7)
  exact W.vret hx hb hr (fun t9 ht9 hW9 => ⟨⟨(), rfl, trivial, by rw [ht9]; exact hP, va_K.moved hW9.alike hK, hD⟩, hS.F ht9⟩) hS.2.2 dX4_checkRange_20
set_option maxHeartbeats 4000000 in
set_option maxRecDepth 100000 in
theorem cc_rng_no (l : Launch) (hfl : l.stackTraces = false) (D : va_G) (tys : List (ClassId × FieldType)) (ws : va_W) (sz : Nat) (x lo hi : Int32) (h : pg_in x lo hi = false) : vx_Met l yX4_checkRange wsX4_checkRange ({ frames := 6, cells := 1, slots := 6, locals := 86 }) (va_Pc [.int x, .int lo, .int hi] (pg_T D tys (ws) sz)) pg_No (pg_X D (ws) (va_A (ws) sz) pg_ia) 1 6 (va_A (ws) sz) := by
  refine vx_ofW (cc := cX4_checkRange) (maxL := 3) (ret := none) (by decide) rfl ?_
  intro p e s m args below meth c s₁ B hml hout hv
  obtain ⟨rfl, ⟨hsz, hP, hK, hD0⟩, hE⟩ := hv
  have hx := B.exec
  have hb := B.bytes
  have hr := B.returns
  have hts := atoms_spec (ws := wsX4_checkRange) B.pre
  have hown : s.vm.findClass RX4 = some m.cls := findClass_of_methodNamed B.named
  have hlocks := B.notSynchronized
  subst hsz
  have hD := hD0.self (sz := s.heap.size)
  generalize hAe : va_A (ws) s.heap.size = A at hD hE ⊢
  have hA : ∀ q : Nat, s.heap.size ≤ q → A q := fun q h => by rw [← hAe]; exact Or.inr h
  have hS : va_S A s.heap s.heap [] := va_S.rf
  have hl := lv_entry ([.int x, .int lo, .int hi]) (n := 3) (Nat.le_of_ble_eq_true rfl)
  rw [lg_entry_eq]
  generalize (lg_sl ([.int x, .int lo, .int hi]) ++ List.replicate (3 - (lg_sl ([.int x, .int lo, .int hi])).length) Slot.unset).toArray = ls at hl ⊢
  have hl : lv_has ls 3 [(0, .int x), (1, .int lo), (2, .int hi)] := hl
  have hw1 := hts (.classLink RX4 204 "java/lang/IllegalArgumentException") (List.mem_of_getElem? (i := 1) rfl)
  have hw2 := hts (.initialized "java/lang/IllegalArgumentException") (List.mem_of_getElem? (i := 2) rfl)
  refine lv_iload_n hx hb dX4_checkRange_0 rfl (lv_at hl 0 rfl) ?_
  refine lv_iload_n hx hb dX4_checkRange_1 rfl (lv_at hl 1 rfl) ?_
  refine lv_icmp_lt (tgt := 10) hx hb dX4_checkRange_2 (by decide) (fun c_2 => ?_) (fun c_2 => ?_)
  · exact pg_thr (nm := pg_ia) (i := 1) hx hb hfl hown (by decide +kernel) hw1 hw2 rfl (fun w9 h => hts w9 (List.mem_cons_of_mem _ (List.mem_append_right _ (h)))) pg_h2_ia pg_hg_ia hE hP hS hA (by rw [hml]; exact hl.1) dX4_checkRange_10 dX4_checkRange_13 dX4_checkRange_14 dX4_checkRange_16 dX4_checkRange_19 hout (Nat.le_of_ble_eq_true rfl) (Nat.le_of_ble_eq_true rfl) (Nat.le_of_ble_eq_true rfl) (Nat.le_of_ble_eq_true rfl) hlocks (Nat.le_of_ble_eq_true rfl) (Nat.le_of_ble_eq_true rfl)
  · refine lv_iload_n hx hb dX4_checkRange_5 rfl (lv_at hl 0 rfl) ?_
    refine lv_iload_n hx hb dX4_checkRange_6 rfl (lv_at hl 2 rfl) ?_
    refine lv_icmp_le (tgt := 20) hx hb dX4_checkRange_7 (by decide) (fun c_7 => ?_) (fun c_7 => ?_)
    · exact pg_no (pg_in_t c_2 c_7) h
    · exact pg_thr (nm := pg_ia) (i := 1) hx hb hfl hown (by decide +kernel) hw1 hw2 rfl (fun w9 h => hts w9 (List.mem_cons_of_mem _ (List.mem_append_right _ (h)))) pg_h2_ia pg_hg_ia hE hP hS hA (by rw [hml]; exact hl.1) dX4_checkRange_10 dX4_checkRange_13 dX4_checkRange_14 dX4_checkRange_16 dX4_checkRange_19 hout (Nat.le_of_ble_eq_true rfl) (Nat.le_of_ble_eq_true rfl) (Nat.le_of_ble_eq_true rfl) (Nat.le_of_ble_eq_true rfl) hlocks (Nat.le_of_ble_eq_true rfl) (Nat.le_of_ble_eq_true rfl)
set_option maxHeartbeats 4000000 in
set_option maxRecDepth 100000 in
theorem cc_opn_ok (l : Launch) (D : va_G) (tys : List (ClassId × FieldType)) (ws : va_W) (sz : Nat) (x : Int32) (h : pg_eq x (-1) = true) : Met l yX4_checkOpen wsX4_checkOpen ({ frames := 0, cells := 0, slots := 0, locals := 0 }) (va_Pc [.int x] (pg_B D tys (ws) sz)) (va_Qv (fun _ : Unit => True) (pg_E D tys (va_A (ws) sz) (fun _ : Unit => ws)) (va_A (ws) sz)) 0 0 (va_A (ws) sz) := by
  refine Met.ofW (cc := cX4_checkOpen) (maxL := 1) (ret := none) (by decide) rfl ?_
  intro p e s m args below meth c s₁ B hml hv
  obtain ⟨rfl, hsz, hP, hK, hD0⟩ := hv
  have hx := B.exec
  have hb := B.bytes
  have hr := B.returns
  have hts := atoms_spec (ws := wsX4_checkOpen) B.pre
  have hown : s.vm.findClass RX4 = some m.cls := findClass_of_methodNamed B.named
  have hlocks := B.notSynchronized
  subst hsz
  have hD := hD0.self (sz := s.heap.size)
  generalize hAe : va_A (ws) s.heap.size = A at hD ⊢
  have hA : ∀ q : Nat, s.heap.size ≤ q → A q := fun q h => by rw [← hAe]; exact Or.inr h
  have hS : va_S A s.heap s.heap [] := va_S.rf
  have hl := lv_entry ([.int x]) (n := 1) (Nat.le_of_ble_eq_true rfl)
  rw [lg_entry_eq]
  generalize (lg_sl ([.int x]) ++ List.replicate (1 - (lg_sl ([.int x])).length) Slot.unset).toArray = ls at hl ⊢
  have hl : lv_has ls 1 [(0, .int x)] := hl
  refine lv_iload_n hx hb dX4_checkOpen_0 rfl (lv_at hl 0 rfl) ?_
  refine lv_iconst (v := (-1)) hx hb dX4_checkOpen_1 (by decide) ?_
  refine lv_icmp_eq (tgt := 15) hx hb dX4_checkOpen_2 (by decide) (fun c_2 => ?_) (fun c_2 => absurd (pg_eq_e h) c_2)
  exact W.vret hx hb hr (fun t9 ht9 hW9 => ⟨⟨(), rfl, trivial, by rw [ht9]; exact hP, va_K.moved hW9.alike hK, hD⟩, hS.F ht9⟩) hS.2.2 dX4_checkOpen_15
set_option maxHeartbeats 4000000 in
set_option maxRecDepth 100000 in
theorem cc_opn_no (l : Launch) (hfl : l.stackTraces = false) (D : va_G) (tys : List (ClassId × FieldType)) (ws : va_W) (sz : Nat) (x : Int32) (h : pg_eq x (-1) = false) : vx_Met l yX4_checkOpen wsX4_checkOpen ({ frames := 6, cells := 1, slots := 6, locals := 86 }) (va_Pc [.int x] (pg_T D tys (ws) sz)) pg_No (pg_X D (ws) (va_A (ws) sz) pg_is) 1 6 (va_A (ws) sz) := by
  refine vx_ofW (cc := cX4_checkOpen) (maxL := 1) (ret := none) (by decide) rfl ?_
  intro p e s m args below meth c s₁ B hml hout hv
  obtain ⟨rfl, ⟨hsz, hP, hK, hD0⟩, hE⟩ := hv
  have hx := B.exec
  have hb := B.bytes
  have hr := B.returns
  have hts := atoms_spec (ws := wsX4_checkOpen) B.pre
  have hown : s.vm.findClass RX4 = some m.cls := findClass_of_methodNamed B.named
  have hlocks := B.notSynchronized
  subst hsz
  have hD := hD0.self (sz := s.heap.size)
  generalize hAe : va_A (ws) s.heap.size = A at hD hE ⊢
  have hA : ∀ q : Nat, s.heap.size ≤ q → A q := fun q h => by rw [← hAe]; exact Or.inr h
  have hS : va_S A s.heap s.heap [] := va_S.rf
  have hl := lv_entry ([.int x]) (n := 1) (Nat.le_of_ble_eq_true rfl)
  rw [lg_entry_eq]
  generalize (lg_sl ([.int x]) ++ List.replicate (1 - (lg_sl ([.int x])).length) Slot.unset).toArray = ls at hl ⊢
  have hl : lv_has ls 1 [(0, .int x)] := hl
  have hw1 := hts (.classLink RX4 124 "java/lang/IllegalStateException") (List.mem_of_getElem? (i := 1) rfl)
  have hw2 := hts (.initialized "java/lang/IllegalStateException") (List.mem_of_getElem? (i := 2) rfl)
  refine lv_iload_n hx hb dX4_checkOpen_0 rfl (lv_at hl 0 rfl) ?_
  refine lv_iconst (v := (-1)) hx hb dX4_checkOpen_1 (by decide) ?_
  refine lv_icmp_eq (tgt := 15) hx hb dX4_checkOpen_2 (by decide) (fun c_2 => absurd c_2 (pg_eq_n h)) (fun c_2 => ?_)
  exact pg_thr (nm := pg_is) (i := 2) hx hb hfl hown (by decide +kernel) hw1 hw2 rfl (fun w9 h => hts w9 (List.mem_cons_of_mem _ (List.mem_append_right _ (h)))) pg_h2_is pg_hg_is hE hP hS hA (by rw [hml]; exact hl.1) dX4_checkOpen_5 dX4_checkOpen_8 dX4_checkOpen_9 dX4_checkOpen_11 dX4_checkOpen_14 hout (Nat.le_of_ble_eq_true rfl) (Nat.le_of_ble_eq_true rfl) (Nat.le_of_ble_eq_true rfl) (Nat.le_of_ble_eq_true rfl) hlocks (Nat.le_of_ble_eq_true rfl) (Nat.le_of_ble_eq_true rfl)
set_option maxHeartbeats 4000000 in
set_option maxRecDepth 100000 in
theorem cc_ncl_ok (l : Launch) (D : va_G) (cI cZ : ClassId) (a : Nat → Nat) (sz : Nat) (u : pg_St) (h : pg_eq (u.1 3) (-1) = true) : Met l yX4_checkNotClosed wsX4_checkNotClosed ({ frames := 0, cells := 0, slots := 0, locals := 0 }) (va_Pc [.ref (a 0)] (pg_B D (pg_ty cI cZ) (pg_wB cI cZ a u) sz)) (va_Qv (fun u' => u' = u) (pg_E D (pg_ty cI cZ) (va_A (pg_wB cI cZ a u) sz) (pg_wB cI cZ a)) (va_A (pg_wB cI cZ a u) sz)) 0 0 (va_A (pg_wB cI cZ a u) sz) := by
  refine Met.ofW (cc := cX4_checkNotClosed) (maxL := 1) (ret := none) (by decide) rfl ?_
  intro p e s m args below meth c s₁ B hml hv
  obtain ⟨rfl, hsz, hP, hK, hD0⟩ := hv
  have hx := B.exec
  have hb := B.bytes
  have hr := B.returns
  have hts := atoms_spec (ws := wsX4_checkNotClosed) B.pre
  have hown : s.vm.findClass RX4 = some m.cls := findClass_of_methodNamed B.named
  have hlocks := B.notSynchronized
  subst hsz
  have hD := hD0.self (sz := s.heap.size)
  generalize hAe : va_A (pg_wB cI cZ a u) s.heap.size = A at hD ⊢
  have hA : ∀ q : Nat, s.heap.size ≤ q → A q := fun q h => by rw [← hAe]; exact Or.inr h
  have hS : va_S A s.heap s.heap [] := va_S.rf
  have hl := lv_entry ([.ref (a 0)]) (n := 1) (Nat.le_of_ble_eq_true rfl)
  rw [lg_entry_eq]
  generalize (lg_sl ([.ref (a 0)]) ++ List.replicate (1 - (lg_sl ([.ref (a 0)])).length) Slot.unset).toArray = ls at hl ⊢
  have hl : lv_has ls 1 [(0, .ref (a 0))] := hl
  have hiX4 : ∀ w ∈ wsX40, w ∈ wsX4_checkNotClosed := fun _ h => List.mem_cons_of_mem _ (List.mem_append_left _ (List.mem_append_right _ (h)))
  have hw3 := hts (.fieldLink RX4 37 "PegBox" "day" "I") (List.mem_of_getElem? (i := 3) rfl)
  refine lv_aload_n hx hb dX4_checkNotClosed_0 rfl (lv_at hl 0 rfl) ?_
  refine va_get (D := D) (ci := 4) (v := .int (u.1 3)) (C := RX4) (T := TX4) (N := 14) hx hb hts hiX4 hown hK hP 0 rfl rfl 7 (by decide) hw3 (fun _ h9 => h9) rfl dX4_checkNotClosed_1 ?_
  refine lv_iconst (v := (-1)) hx hb dX4_checkNotClosed_4 (by decide) ?_
  refine lv_icmp_eq (tgt := 18) hx hb dX4_checkNotClosed_5 (by decide) (fun c_5 => ?_) (fun c_5 => absurd (pg_eq_e h) c_5)
  exact W.vret hx hb hr (fun t9 ht9 hW9 => ⟨⟨u, rfl, rfl, by rw [ht9]; exact hP, va_K.moved hW9.alike hK, hD⟩, hS.F ht9⟩) hS.2.2 dX4_checkNotClosed_18
set_option maxHeartbeats 4000000 in
set_option maxRecDepth 100000 in
theorem cc_ncl_no (l : Launch) (hfl : l.stackTraces = false) (D : va_G) (cI cZ : ClassId) (a : Nat → Nat) (sz : Nat) (u : pg_St) (h : pg_eq (u.1 3) (-1) = false) : vx_Met l yX4_checkNotClosed wsX4_checkNotClosed ({ frames := 6, cells := 1, slots := 6, locals := 86 }) (va_Pc [.ref (a 0)] (pg_T D (pg_ty cI cZ) (pg_wB cI cZ a u) sz)) pg_No (pg_X D (pg_wB cI cZ a u) (va_A (pg_wB cI cZ a u) sz) pg_is) 1 6 (va_A (pg_wB cI cZ a u) sz) := by
  refine vx_ofW (cc := cX4_checkNotClosed) (maxL := 1) (ret := none) (by decide) rfl ?_
  intro p e s m args below meth c s₁ B hml hout hv
  obtain ⟨rfl, ⟨hsz, hP, hK, hD0⟩, hE⟩ := hv
  have hx := B.exec
  have hb := B.bytes
  have hr := B.returns
  have hts := atoms_spec (ws := wsX4_checkNotClosed) B.pre
  have hown : s.vm.findClass RX4 = some m.cls := findClass_of_methodNamed B.named
  have hlocks := B.notSynchronized
  subst hsz
  have hD := hD0.self (sz := s.heap.size)
  generalize hAe : va_A (pg_wB cI cZ a u) s.heap.size = A at hD hE ⊢
  have hA : ∀ q : Nat, s.heap.size ≤ q → A q := fun q h => by rw [← hAe]; exact Or.inr h
  have hS : va_S A s.heap s.heap [] := va_S.rf
  have hl := lv_entry ([.ref (a 0)]) (n := 1) (Nat.le_of_ble_eq_true rfl)
  rw [lg_entry_eq]
  generalize (lg_sl ([.ref (a 0)]) ++ List.replicate (1 - (lg_sl ([.ref (a 0)])).length) Slot.unset).toArray = ls at hl ⊢
  have hl : lv_has ls 1 [(0, .ref (a 0))] := hl
  have hiX4 : ∀ w ∈ wsX40, w ∈ wsX4_checkNotClosed := fun _ h => List.mem_cons_of_mem _ (List.mem_append_left _ (List.mem_append_right _ (h)))
  have hw1 := hts (.classLink RX4 124 "java/lang/IllegalStateException") (List.mem_of_getElem? (i := 1) rfl)
  have hw2 := hts (.initialized "java/lang/IllegalStateException") (List.mem_of_getElem? (i := 2) rfl)
  have hw3 := hts (.fieldLink RX4 37 "PegBox" "day" "I") (List.mem_of_getElem? (i := 3) rfl)
  refine lv_aload_n hx hb dX4_checkNotClosed_0 rfl (lv_at hl 0 rfl) ?_
  refine va_get (D := D) (ci := 4) (v := .int (u.1 3)) (C := RX4) (T := TX4) (N := 14) hx hb hts hiX4 hown hK hP 0 rfl rfl 7 (by decide) hw3 (fun _ h9 => h9) rfl dX4_checkNotClosed_1 ?_
  refine lv_iconst (v := (-1)) hx hb dX4_checkNotClosed_4 (by decide) ?_
  refine lv_icmp_eq (tgt := 18) hx hb dX4_checkNotClosed_5 (by decide) (fun c_5 => absurd c_5 (pg_eq_n h)) (fun c_5 => ?_)
  exact pg_thr (nm := pg_is) (i := 3) hx hb hfl hown (by decide +kernel) hw1 hw2 rfl (fun w9 h => hts w9 (List.mem_cons_of_mem _ (List.mem_append_right _ (h)))) pg_h2_is pg_hg_is hE hP hS hA (by rw [hml]; exact hl.1) dX4_checkNotClosed_8 dX4_checkNotClosed_11 dX4_checkNotClosed_12 dX4_checkNotClosed_14 dX4_checkNotClosed_17 hout (Nat.le_of_ble_eq_true rfl) (Nat.le_of_ble_eq_true rfl) (Nat.le_of_ble_eq_true rfl) (Nat.le_of_ble_eq_true rfl) hlocks (Nat.le_of_ble_eq_true rfl) (Nat.le_of_ble_eq_true rfl)
set_option maxHeartbeats 4000000 in
set_option maxRecDepth 100000 in
theorem cc_cls_ok (l : Launch) (D : va_G) (cI cZ : ClassId) (a : Nat → Nat) (sz : Nat) (u : pg_St) (h : pg_eq (u.1 3) (-1) = false) : Met l yX4_checkClosed wsX4_checkClosed ({ frames := 0, cells := 0, slots := 0, locals := 0 }) (va_Pc [.ref (a 0)] (pg_B D (pg_ty cI cZ) (pg_wB cI cZ a u) sz)) (va_Qv (fun u' => u' = u) (pg_E D (pg_ty cI cZ) (va_A (pg_wB cI cZ a u) sz) (pg_wB cI cZ a)) (va_A (pg_wB cI cZ a u) sz)) 0 0 (va_A (pg_wB cI cZ a u) sz) := by
  refine Met.ofW (cc := cX4_checkClosed) (maxL := 1) (ret := none) (by decide) rfl ?_
  intro p e s m args below meth c s₁ B hml hv
  obtain ⟨rfl, hsz, hP, hK, hD0⟩ := hv
  have hx := B.exec
  have hb := B.bytes
  have hr := B.returns
  have hts := atoms_spec (ws := wsX4_checkClosed) B.pre
  have hown : s.vm.findClass RX4 = some m.cls := findClass_of_methodNamed B.named
  have hlocks := B.notSynchronized
  subst hsz
  have hD := hD0.self (sz := s.heap.size)
  generalize hAe : va_A (pg_wB cI cZ a u) s.heap.size = A at hD ⊢
  have hA : ∀ q : Nat, s.heap.size ≤ q → A q := fun q h => by rw [← hAe]; exact Or.inr h
  have hS : va_S A s.heap s.heap [] := va_S.rf
  have hl := lv_entry ([.ref (a 0)]) (n := 1) (Nat.le_of_ble_eq_true rfl)
  rw [lg_entry_eq]
  generalize (lg_sl ([.ref (a 0)]) ++ List.replicate (1 - (lg_sl ([.ref (a 0)])).length) Slot.unset).toArray = ls at hl ⊢
  have hl : lv_has ls 1 [(0, .ref (a 0))] := hl
  have hiX4 : ∀ w ∈ wsX40, w ∈ wsX4_checkClosed := fun _ h => List.mem_cons_of_mem _ (List.mem_append_left _ (List.mem_append_right _ (h)))
  have hw3 := hts (.fieldLink RX4 37 "PegBox" "day" "I") (List.mem_of_getElem? (i := 3) rfl)
  refine lv_aload_n hx hb dX4_checkClosed_0 rfl (lv_at hl 0 rfl) ?_
  refine va_get (D := D) (ci := 4) (v := .int (u.1 3)) (C := RX4) (T := TX4) (N := 14) hx hb hts hiX4 hown hK hP 0 rfl rfl 7 (by decide) hw3 (fun _ h9 => h9) rfl dX4_checkClosed_1 ?_
  refine lv_iconst (v := (-1)) hx hb dX4_checkClosed_4 (by decide) ?_
  refine lv_icmp_ne (tgt := 18) hx hb dX4_checkClosed_5 (by decide) (fun c_5 => ?_) (fun c_5 => absurd c_5 (pg_eq_n h))
  exact W.vret hx hb hr (fun t9 ht9 hW9 => ⟨⟨u, rfl, rfl, by rw [ht9]; exact hP, va_K.moved hW9.alike hK, hD⟩, hS.F ht9⟩) hS.2.2 dX4_checkClosed_18
set_option maxHeartbeats 4000000 in
set_option maxRecDepth 100000 in
theorem cc_cls_no (l : Launch) (hfl : l.stackTraces = false) (D : va_G) (cI cZ : ClassId) (a : Nat → Nat) (sz : Nat) (u : pg_St) (h : pg_eq (u.1 3) (-1) = true) : vx_Met l yX4_checkClosed wsX4_checkClosed ({ frames := 6, cells := 1, slots := 6, locals := 86 }) (va_Pc [.ref (a 0)] (pg_T D (pg_ty cI cZ) (pg_wB cI cZ a u) sz)) pg_No (pg_X D (pg_wB cI cZ a u) (va_A (pg_wB cI cZ a u) sz) pg_is) 1 6 (va_A (pg_wB cI cZ a u) sz) := by
  refine vx_ofW (cc := cX4_checkClosed) (maxL := 1) (ret := none) (by decide) rfl ?_
  intro p e s m args below meth c s₁ B hml hout hv
  obtain ⟨rfl, ⟨hsz, hP, hK, hD0⟩, hE⟩ := hv
  have hx := B.exec
  have hb := B.bytes
  have hr := B.returns
  have hts := atoms_spec (ws := wsX4_checkClosed) B.pre
  have hown : s.vm.findClass RX4 = some m.cls := findClass_of_methodNamed B.named
  have hlocks := B.notSynchronized
  subst hsz
  have hD := hD0.self (sz := s.heap.size)
  generalize hAe : va_A (pg_wB cI cZ a u) s.heap.size = A at hD hE ⊢
  have hA : ∀ q : Nat, s.heap.size ≤ q → A q := fun q h => by rw [← hAe]; exact Or.inr h
  have hS : va_S A s.heap s.heap [] := va_S.rf
  have hl := lv_entry ([.ref (a 0)]) (n := 1) (Nat.le_of_ble_eq_true rfl)
  rw [lg_entry_eq]
  generalize (lg_sl ([.ref (a 0)]) ++ List.replicate (1 - (lg_sl ([.ref (a 0)])).length) Slot.unset).toArray = ls at hl ⊢
  have hl : lv_has ls 1 [(0, .ref (a 0))] := hl
  have hiX4 : ∀ w ∈ wsX40, w ∈ wsX4_checkClosed := fun _ h => List.mem_cons_of_mem _ (List.mem_append_left _ (List.mem_append_right _ (h)))
  have hw1 := hts (.classLink RX4 124 "java/lang/IllegalStateException") (List.mem_of_getElem? (i := 1) rfl)
  have hw2 := hts (.initialized "java/lang/IllegalStateException") (List.mem_of_getElem? (i := 2) rfl)
  have hw3 := hts (.fieldLink RX4 37 "PegBox" "day" "I") (List.mem_of_getElem? (i := 3) rfl)
  refine lv_aload_n hx hb dX4_checkClosed_0 rfl (lv_at hl 0 rfl) ?_
  refine va_get (D := D) (ci := 4) (v := .int (u.1 3)) (C := RX4) (T := TX4) (N := 14) hx hb hts hiX4 hown hK hP 0 rfl rfl 7 (by decide) hw3 (fun _ h9 => h9) rfl dX4_checkClosed_1 ?_
  refine lv_iconst (v := (-1)) hx hb dX4_checkClosed_4 (by decide) ?_
  refine lv_icmp_ne (tgt := 18) hx hb dX4_checkClosed_5 (by decide) (fun c_5 => absurd (pg_eq_e h) c_5) (fun c_5 => ?_)
  exact pg_thr (nm := pg_is) (i := 4) hx hb hfl hown (by decide +kernel) hw1 hw2 rfl (fun w9 h => hts w9 (List.mem_cons_of_mem _ (List.mem_append_right _ (h)))) pg_h2_is pg_hg_is hE hP hS hA (by rw [hml]; exact hl.1) dX4_checkClosed_8 dX4_checkClosed_11 dX4_checkClosed_12 dX4_checkClosed_14 dX4_checkClosed_17 hout (Nat.le_of_ble_eq_true rfl) (Nat.le_of_ble_eq_true rfl) (Nat.le_of_ble_eq_true rfl) (Nat.le_of_ble_eq_true rfl) hlocks (Nat.le_of_ble_eq_true rfl) (Nat.le_of_ble_eq_true rfl)
set_option maxHeartbeats 4000000 in
set_option maxRecDepth 100000 in
/-- beyondCollar(d) -/
theorem cc_col (l : Launch) (D : va_G) (cI cZ : ClassId) (a : Nat → Nat) (sz : Nat) (u : pg_St) (d : Int32) : Met l yX4_beyondCollar wsX4_beyondCollar ({ frames := 0, cells := 0, slots := 0, locals := 0 }) (va_Pc [.ref (a 0), .int d] (pg_B D (pg_ty cI cZ) (pg_wB cI cZ a u) sz)) (va_Qi (fun r u' => r = pg_col u.1 d ∧ u' = u) (pg_E D (pg_ty cI cZ) (va_A (pg_wB cI cZ a u) sz) (pg_wB cI cZ a)) (va_A (pg_wB cI cZ a u) sz)) 0 0 (va_A (pg_wB cI cZ a u) sz) := by
  refine Met.ofW (cc := cX4_beyondCollar) (maxL := 2) (ret := (some .int)) (by decide) rfl ?_
  intro p e s m args below meth c s₁ B hml hv
  obtain ⟨rfl, hsz, hP, hK, hD0⟩ := hv
  have hx := B.exec
  have hb := B.bytes
  have hr := B.returns
  have hts := atoms_spec (ws := wsX4_beyondCollar) B.pre
  have hown : s.vm.findClass RX4 = some m.cls := findClass_of_methodNamed B.named
  have hlocks := B.notSynchronized
  subst hsz
  have hD := hD0.self (sz := s.heap.size)
  generalize hAe : va_A (pg_wB cI cZ a u) s.heap.size = A at hD ⊢
  have hA : ∀ q : Nat, s.heap.size ≤ q → A q := fun q h => by rw [← hAe]; exact Or.inr h
  have hS : va_S A s.heap s.heap [] := va_S.rf
  have hl := lv_entry ([.ref (a 0), .int d]) (n := 2) (Nat.le_of_ble_eq_true rfl)
  rw [lg_entry_eq]
  generalize (lg_sl ([.ref (a 0), .int d]) ++ List.replicate (2 - (lg_sl ([.ref (a 0), .int d])).length) Slot.unset).toArray = ls at hl ⊢
  have hl : lv_has ls 2 [(0, .ref (a 0)), (1, .int d)] := hl
  have hiX4 : ∀ w ∈ wsX40, w ∈ wsX4_beyondCollar := fun _ h => List.mem_cons_of_mem _ (List.mem_append_right _ (h))
  have hw1 := hts (.fieldLink RX4 59 "PegBox" "collar" "I") (List.mem_of_getElem? (i := 1) rfl)
  refine lv_iload_n hx hb dX4_beyondCollar_0 rfl (lv_at hl 1 rfl) ?_
  refine lv_aload_n hx hb dX4_beyondCollar_1 rfl (lv_at hl 0 rfl) ?_
  refine va_get (D := D) (ci := 4) (v := .int (u.1 2)) (C := RX4) (T := TX4) (N := 14) hx hb hts hiX4 hown hK hP 0 rfl rfl 6 (by decide) hw1 (fun _ h9 => h9) rfl dX4_beyondCollar_2 ?_
  refine lv_icmp_le (tgt := 15) hx hb dX4_beyondCollar_5 (by decide) (fun c_5 => ?_) (fun c_5 => ?_)
  · refine lv_iload_n hx hb dX4_beyondCollar_15 rfl (lv_at hl 1 rfl) ?_
    refine lv_aload_n hx hb dX4_beyondCollar_16 rfl (lv_at hl 0 rfl) ?_
    refine va_get (D := D) (ci := 4) (v := .int (u.1 2)) (C := RX4) (T := TX4) (N := 14) hx hb hts hiX4 hown hK hP 0 rfl rfl 6 (by decide) hw1 (fun _ h9 => h9) rfl dX4_beyondCollar_17 ?_
    refine lv_ineg hx hb dX4_beyondCollar_20 ?_
    refine lv_icmp_ge (tgt := 31) hx hb dX4_beyondCollar_21 (by decide) (fun c_21 => ?_) (fun c_21 => ?_)
    · refine lv_iconst (v := 0) hx hb dX4_beyondCollar_31 (by decide) ?_
      exact W.iret (v := 0) hx hb hr (fun t9 ht9 hW9 => ⟨⟨0, u, rfl, ⟨by rw [pg_col, if_pos c_5, if_pos c_21], rfl⟩, by rw [ht9]; exact hP, va_K.moved hW9.alike hK, hD⟩, hS.F ht9⟩) hS.2.2 dX4_beyondCollar_32
    · refine lv_iload_n hx hb dX4_beyondCollar_24 rfl (lv_at hl 1 rfl) ?_
      refine lv_aload_n hx hb dX4_beyondCollar_25 rfl (lv_at hl 0 rfl) ?_
      refine va_get (D := D) (ci := 4) (v := .int (u.1 2)) (C := RX4) (T := TX4) (N := 14) hx hb hts hiX4 hown hK hP 0 rfl rfl 6 (by decide) hw1 (fun _ h9 => h9) rfl dX4_beyondCollar_26 ?_
      refine lv_iadd hx hb dX4_beyondCollar_29 ?_
      exact W.iret (v := d + (u.1 2)) hx hb hr (fun t9 ht9 hW9 => ⟨⟨d + (u.1 2), u, rfl, ⟨by rw [pg_col, if_pos c_5, if_neg c_21], rfl⟩, by rw [ht9]; exact hP, va_K.moved hW9.alike hK, hD⟩, hS.F ht9⟩) hS.2.2 dX4_beyondCollar_30
  · refine lv_iload_n hx hb dX4_beyondCollar_8 rfl (lv_at hl 1 rfl) ?_
    refine lv_aload_n hx hb dX4_beyondCollar_9 rfl (lv_at hl 0 rfl) ?_
    refine va_get (D := D) (ci := 4) (v := .int (u.1 2)) (C := RX4) (T := TX4) (N := 14) hx hb hts hiX4 hown hK hP 0 rfl rfl 6 (by decide) hw1 (fun _ h9 => h9) rfl dX4_beyondCollar_10 ?_
    refine lv_isub hx hb dX4_beyondCollar_13 ?_
    exact W.iret (v := d - (u.1 2)) hx hb hr (fun t9 ht9 hW9 => ⟨⟨d - (u.1 2), u, rfl, ⟨by rw [pg_col, if_neg c_5], rfl⟩, by rw [ht9]; exact hP, va_K.moved hW9.alike hK, hD⟩, hS.F ht9⟩) hS.2.2 dX4_beyondCollar_14
set_option maxHeartbeats 4000000 in
set_option maxRecDepth 100000 in
/-- dueOfKind(kind) -/
theorem cc_dueOfKind (l : Launch) (D : va_G) (cI cZ : ClassId) (a : Nat → Nat) (sz : Nat) (u : pg_St) (n : Nat) (hn : u.1 10 = nI n) (h20 : n ≤ 20) (k : Nat) (hk : k < 3) : Met l yX4_dueOfKind wsX4_dueOfKind ({ frames := 2, cells := 0, slots := 0, locals := 45 }) (va_Pc [.ref (a 0), .int (nI k)] (pg_B D (pg_ty cI cZ) (pg_wB cI cZ a u) sz)) (va_Qi (fun r u' => r = pg_due u.2 n k ∧ u' = u) (pg_E D (pg_ty cI cZ) (va_A (pg_wB cI cZ a u) sz) (pg_wB cI cZ a)) (va_A (pg_wB cI cZ a u) sz)) 0 0 (va_A (pg_wB cI cZ a u) sz) := by
  refine Met.ofW (cc := cX4_dueOfKind) (maxL := 2) (ret := (some .int)) (by decide) rfl ?_
  intro p e s m args below meth c s₁ B hml hv
  obtain ⟨rfl, hsz, hP, hK, hD0⟩ := hv
  have hx := B.exec
  have hb := B.bytes
  have hr := B.returns
  have hts := atoms_spec (ws := wsX4_dueOfKind) B.pre
  have hown : s.vm.findClass RX4 = some m.cls := findClass_of_methodNamed B.named
  have hlocks := B.notSynchronized
  subst hsz
  have hD := hD0.self (sz := s.heap.size)
  generalize hAe : va_A (pg_wB cI cZ a u) s.heap.size = A at hD ⊢
  have hA : ∀ q : Nat, s.heap.size ≤ q → A q := fun q h => by rw [← hAe]; exact Or.inr h
  have hS : va_S A s.heap s.heap [] := va_S.rf
  have hl := lv_entry ([.ref (a 0), .int (nI k)]) (n := 2) (Nat.le_of_ble_eq_true rfl)
  rw [lg_entry_eq]
  generalize (lg_sl ([.ref (a 0), .int (nI k)]) ++ List.replicate (2 - (lg_sl ([.ref (a 0), .int (nI k)])).length) Slot.unset).toArray = ls at hl ⊢
  have hl : lv_has ls 2 [(0, .ref (a 0)), (1, .int (nI k))] := hl
  have hiX3 : ∀ w ∈ wsX30, w ∈ wsX4_dueOfKind := fun _ h => List.mem_cons_of_mem _ (List.mem_append_left _ (List.mem_append_right _ (h)))
  have hiX4 : ∀ w ∈ wsX40, w ∈ wsX4_dueOfKind := fun _ h => List.mem_cons_of_mem _ (List.mem_append_left _ (List.mem_append_left _ (List.mem_append_right _ (h))))
  have hw1 := hts (.fieldLink RX4 19 "PegBox" "kinds" "LPegBox$Kinds;") (List.mem_of_getElem? (i := 1) rfl)
  have hw2 := hts (.fieldLink RX4 26 "PegBox" "book" "LPegBox$ClaimBook;") (List.mem_of_getElem? (i := 2) rfl)
  have hw3 := hts (.fieldLink RX4 74 "PegBox$Kinds" "leasts" "[I") (List.mem_of_getElem? (i := 3) rfl)
  refine lv_aload_n hx hb dX4_dueOfKind_0 rfl (lv_at hl 0 rfl) ?_
  refine va_get (D := D) (ci := 4) (v := .ref (a 2)) (C := RX4) (T := TX4) (N := 14) hx hb hts hiX4 hown hK hP 0 rfl rfl 1 (by decide) hw1 (fun _ h9 => h9) rfl dX4_dueOfKind_1 ?_
  refine lv_iload_n hx hb dX4_dueOfKind_4 rfl (lv_at hl 1 rfl) ?_
  refine lv_aload_n hx hb dX4_dueOfKind_5 rfl (lv_at hl 0 rfl) ?_
  refine va_get (D := D) (ci := 4) (v := .ref (a 3)) (C := RX4) (T := TX4) (N := 14) hx hb hts hiX4 hown hK hP 0 rfl rfl 2 (by decide) hw2 (fun _ h9 => h9) rfl dX4_dueOfKind_6 ?_
  refine lv_iload_n hx hb dX4_dueOfKind_9 rfl (lv_at hl 1 rfl) ?_
  refine lv_aload_n hx hb dX4_dueOfKind_10 rfl (lv_at hl 0 rfl) ?_
  refine va_get (D := D) (ci := 4) (v := .ref (a 2)) (C := RX4) (T := TX4) (N := 14) hx hb hts hiX4 hown hK hP 0 rfl rfl 1 (by decide) hw1 (fun _ h9 => h9) rfl dX4_dueOfKind_11 ?_
  refine va_get (D := D) (ci := 3) (v := .ref (a 7)) (C := RX3) (T := TX3) (N := 5) hx hb hts hiX3 hown hK hP 2 rfl rfl 0 (by decide) hw3 (fun _ h9 => h9) rfl dX4_dueOfKind_14 ?_
  refine lv_iload_n hx hb dX4_dueOfKind_17 rfl (lv_at hl 1 rfl) ?_
  refine pg_ild (f := u.2 2) hx hb hK hP 7 0 rfl rfl (show k < _ by omega) (by decide) dX4_dueOfKind_18 ?_
  refine pg_iE (pg_rV (As := [.int (nI k), .int (u.2 2 k)]) (rest := [.int (nI k), .ref (a 2)]) ⟨hx, hb, hml, hown, hts⟩ (cc_settledSum l D cI cZ a s.heap.size u n hn h20 (nI k) (u.2 2 k)) (cwV 2 hts gX4_dueOfKind_X0_settledSum rfl rfl rfl (by decide +kernel) ⟨Nat.le_of_ble_eq_true rfl, Nat.le_of_ble_eq_true rfl⟩) hK hP hD 3 (ci := 0) rfl rfl rfl rfl hl.1 rfl (Nat.le_of_ble_eq_true rfl) dX4_dueOfKind_19 ⟨Nat.le_of_ble_eq_true rfl, Nat.le_of_ble_eq_true rfl⟩) hD hS hA (fun H locs hP hD hS => ?_)
  refine pg_iE (pg_rV (As := [.int (nI k), .int (pg_set u.2 n (nI k) (u.2 2 k))]) (rest := []) ⟨hx, hb, hml, hown, hts⟩ (cc_limit l D cI cZ a H.size u k hk (pg_set u.2 n (nI k) (u.2 2 k))) (cwV 2 hts gX4_dueOfKind_X3_limit rfl rfl rfl (by decide +kernel) ⟨Nat.le_of_ble_eq_true rfl, Nat.le_of_ble_eq_true rfl⟩) hK hP hD 2 (ci := 3) rfl rfl rfl rfl hl.1 rfl (Nat.le_of_ble_eq_true rfl) dX4_dueOfKind_22 ⟨Nat.le_of_ble_eq_true rfl, Nat.le_of_ble_eq_true rfl⟩) hD hS hA (fun H locs hP hD hS => ?_)
  exact W.iret (v := pg_due u.2 n k) hx hb hr (fun t9 ht9 hW9 => ⟨⟨pg_due u.2 n k, u, rfl, ⟨rfl, rfl⟩, by rw [ht9]; exact hP, va_K.moved hW9.alike hK, hD⟩, hS.F ht9⟩) hS.2.2 dX4_dueOfKind_25
set_option maxHeartbeats 4000000 in
set_option maxRecDepth 100000 in
/-- dueInAll() -/
theorem cc_dueInAll (l : Launch) (D : va_G) (cI cZ : ClassId) (a : Nat → Nat) (sz : Nat) (u : pg_St) (n : Nat) (hn : u.1 10 = nI n) (h20 : n ≤ 20) : Met l yX4_dueInAll wsX4_dueInAll ({ frames := 3, cells := 0, slots := 0, locals := 66 }) (va_Pc [.ref (a 0)] (pg_B D (pg_ty cI cZ) (pg_wB cI cZ a u) sz)) (va_Qi (fun r u' => r = pg_all u.2 n ∧ u' = u) (pg_E D (pg_ty cI cZ) (va_A (pg_wB cI cZ a u) sz) (pg_wB cI cZ a)) (va_A (pg_wB cI cZ a u) sz)) 0 0 (va_A (pg_wB cI cZ a u) sz) := by
  refine Met.ofW (cc := cX4_dueInAll) (maxL := 3) (ret := (some .int)) (by decide) rfl ?_
  intro p e s m args below meth c s₁ B hml hv
  obtain ⟨rfl, hsz, hP, hK, hD0⟩ := hv
  have hx := B.exec
  have hb := B.bytes
  have hr := B.returns
  have hts := atoms_spec (ws := wsX4_dueInAll) B.pre
  have hown : s.vm.findClass RX4 = some m.cls := findClass_of_methodNamed B.named
  have hlocks := B.notSynchronized
  subst hsz
  have hD := hD0.self (sz := s.heap.size)
  generalize hAe : va_A (pg_wB cI cZ a u) s.heap.size = A at hD ⊢
  have hA : ∀ q : Nat, s.heap.size ≤ q → A q := fun q h => by rw [← hAe]; exact Or.inr h
  have hS : va_S A s.heap s.heap [] := va_S.rf
  have hl := lv_entry ([.ref (a 0)]) (n := 3) (Nat.le_of_ble_eq_true rfl)
  rw [lg_entry_eq]
  generalize (lg_sl ([.ref (a 0)]) ++ List.replicate (3 - (lg_sl ([.ref (a 0)])).length) Slot.unset).toArray = ls at hl ⊢
  have hl : lv_has ls 3 [(0, .ref (a 0))] := hl
  refine lv_iconst (v := 0) hx hb dX4_dueInAll_0 (by decide) ?_
  refine lv_istore_n (lv' := [(1, .int 0), (0, .ref (a 0))]) hx hb dX4_dueInAll_1 rfl hl (by decide) rfl (fun ls hl => ?_)
  refine lv_iconst (v := 0) hx hb dX4_dueInAll_2 (by decide) ?_
  refine lv_istore_n (lv' := [(2, .int 0), (1, .int 0), (0, .ref (a 0))]) hx hb dX4_dueInAll_3 rfl hl (by decide) rfl (fun ls hl => ?_)
  have L4 : ∀ (k9 i : Nat) (x : Int32), i ≤ 3 → 3 < i + k9 → x = pg_sm (pg_due u.2 n) i → ∀ (H : Heap) (locs : List Loc), va_P D vwCl (pg_wB cI cZ a u) H → va_D A (pg_wB cI cZ a u) → va_S A s.heap H locs → ∀ ls : Array Slot, lv_has ls 3 [(2, .int (nI i)), (1, .int x), (0, .ref (a 0))] → W p l e (headSpec wsX4_dueInAll ({ frames := 3, cells := 0, slots := 0, locals := 66 })).room s m ([.ref (a 0)] : List Value).toArray below meth c H locs 0 0 (MQ below (va_Qi (fun r u' => r = pg_all u.2 n ∧ u' = u) (pg_E D (pg_ty cI cZ) A (pg_wB cI cZ a)) A) ([.ref (a 0)] : List Value).toArray s 0 0 A) (F0 m 4 ls []) := by
    intro k9
    induction k9 with
    | zero => intro i x h1 h2; exact absurd h2 (by omega)
    | succ k9 ih =>
      intro i x hi9 hk9 hx9 H locs hP hD hS ls hl
      subst hx9
      refine lv_iload_n hx hb dX4_dueInAll_4 rfl (lv_at hl 0 rfl) ?_
      refine lv_iconst (v := 3) hx hb dX4_dueInAll_5 (by decide) ?_
      refine lv_icmp_ge (tgt := 23) hx hb dX4_dueInAll_6 (by decide) (fun c_6 => ?_) (fun c_6 => ?_)
      · have hiN : i = 3 := pg_exit (rfl) (by decide) hi9 c_6
        refine lv_iload_n hx hb dX4_dueInAll_23 rfl (lv_at hl 1 rfl) ?_
        exact W.iret (v := pg_sm (pg_due u.2 n) i) hx hb hr (fun t9 ht9 hW9 => ⟨⟨pg_sm (pg_due u.2 n) i, u, rfl, ⟨by rw [hiN]; rfl, rfl⟩, by rw [ht9]; exact hP, va_K.moved hW9.alike hK, hD⟩, hS.F ht9⟩) hS.2.2 dX4_dueInAll_24
      · have hlt : i < 3 := pg_stay (rfl) (by omega) c_6
        refine lv_iload_n hx hb dX4_dueInAll_9 rfl (lv_at hl 1 rfl) ?_
        refine lv_aload_n hx hb dX4_dueInAll_10 rfl (lv_at hl 2 rfl) ?_
        refine lv_iload_n hx hb dX4_dueInAll_11 rfl (lv_at hl 0 rfl) ?_
        refine pg_iE (pg_rV (As := [.int (nI i)]) (rest := [.int (pg_sm (pg_due u.2 n) i)]) ⟨hx, hb, hml, hown, hts⟩ (cc_dueOfKind l D cI cZ a H.size u n hn h20 i (by omega)) (cwV 1 hts gX4_dueInAll_X4_dueOfKind rfl rfl rfl (by decide +kernel) ⟨Nat.le_of_ble_eq_true rfl, Nat.le_of_ble_eq_true rfl⟩) hK hP hD 0 (ci := 4) rfl rfl rfl rfl hl.1 rfl (Nat.le_of_ble_eq_true rfl) dX4_dueInAll_12 ⟨Nat.le_of_ble_eq_true rfl, Nat.le_of_ble_eq_true rfl⟩) hD hS hA (fun H locs hP hD hS => ?_)
        refine lv_iadd hx hb dX4_dueInAll_15 ?_
        refine lv_istore_n (lv' := [(1, .int ((pg_sm (pg_due u.2 n) i) + (pg_due u.2 n i))), (2, .int (nI i)), (0, .ref (a 0))]) hx hb dX4_dueInAll_16 rfl hl (by decide) rfl (fun ls hl => ?_)
        refine lv_iinc (v := nI (i + 1)) (lv' := [(2, .int (nI (i + 1))), (1, .int ((pg_sm (pg_due u.2 n) i) + (pg_due u.2 n i))), (0, .ref (a 0))]) hx hb dX4_dueInAll_17 hl (k := 1) rfl (by rw [nI_succ]; rfl) (by decide) rfl (fun ls hl => ?_)
        refine lv_goto (tgt := 4) hx hb dX4_dueInAll_20 (by decide) ?_
        exact ih (i + 1) ((pg_sm (pg_due u.2 n) i) + (pg_due u.2 n i)) (by omega) (by omega) rfl _ _ hP hD hS ls (lv_sub hl [0, 1, 2] rfl)
  exact L4 (3 + 1) 0 0 (by omega) (by omega) rfl _ _ hP hD hS ls hl
set_option maxHeartbeats 4000000 in
set_option maxRecDepth 100000 in
/-- leftOutstanding() -/
theorem cc_left (l : Launch) (D : va_G) (cI cZ : ClassId) (a : Nat → Nat) (sz : Nat) (u : pg_St) (n : Nat) (hn : u.1 10 = nI n) (h20 : n ≤ 20) : Met l yX4_leftOutstanding wsX4_leftOutstanding ({ frames := 4, cells := 0, slots := 0, locals := 88 }) (va_Pc [.ref (a 0)] (pg_B D (pg_ty cI cZ) (pg_wB cI cZ a u) sz)) (va_Qi (fun r u' => r = pg_out u n ∧ u' = u) (pg_E D (pg_ty cI cZ) (va_A (pg_wB cI cZ a u) sz) (pg_wB cI cZ a)) (va_A (pg_wB cI cZ a u) sz)) 0 0 (va_A (pg_wB cI cZ a u) sz) := by
  refine Met.ofW (cc := cX4_leftOutstanding) (maxL := 1) (ret := (some .int)) (by decide) rfl ?_
  intro p e s m args below meth c s₁ B hml hv
  obtain ⟨rfl, hsz, hP, hK, hD0⟩ := hv
  have hx := B.exec
  have hb := B.bytes
  have hr := B.returns
  have hts := atoms_spec (ws := wsX4_leftOutstanding) B.pre
  have hown : s.vm.findClass RX4 = some m.cls := findClass_of_methodNamed B.named
  have hlocks := B.notSynchronized
  subst hsz
  have hD := hD0.self (sz := s.heap.size)
  generalize hAe : va_A (pg_wB cI cZ a u) s.heap.size = A at hD ⊢
  have hA : ∀ q : Nat, s.heap.size ≤ q → A q := fun q h => by rw [← hAe]; exact Or.inr h
  have hS : va_S A s.heap s.heap [] := va_S.rf
  have hl := lv_entry ([.ref (a 0)]) (n := 1) (Nat.le_of_ble_eq_true rfl)
  rw [lg_entry_eq]
  generalize (lg_sl ([.ref (a 0)]) ++ List.replicate (1 - (lg_sl ([.ref (a 0)])).length) Slot.unset).toArray = ls at hl ⊢
  have hl : lv_has ls 1 [(0, .ref (a 0))] := hl
  have hiX4 : ∀ w ∈ wsX40, w ∈ wsX4_leftOutstanding := fun _ h => List.mem_cons_of_mem _ (List.mem_append_left _ (List.mem_append_left _ (List.mem_append_right _ (h))))
  have hw1 := hts (.fieldLink RX4 178 "PegBox" "returned" "I") (List.mem_of_getElem? (i := 1) rfl)
  have hw2 := hts (.fieldLink RX4 181 "PegBox" "setOff" "I") (List.mem_of_getElem? (i := 2) rfl)
  refine lv_aload_n hx hb dX4_leftOutstanding_0 rfl (lv_at hl 0 rfl) ?_
  refine pg_iE (pg_rV (As := []) (rest := []) ⟨hx, hb, hml, hown, hts⟩ (cc_dueInAll l D cI cZ a s.heap.size u n hn h20) (cwV 0 hts gX4_leftOutstanding_X4_dueInAll rfl rfl rfl (by decide +kernel) ⟨Nat.le_of_ble_eq_true rfl, Nat.le_of_ble_eq_true rfl⟩) hK hP hD 0 (ci := 4) rfl rfl rfl rfl hl.1 rfl (Nat.le_of_ble_eq_true rfl) dX4_leftOutstanding_1 ⟨Nat.le_of_ble_eq_true rfl, Nat.le_of_ble_eq_true rfl⟩) hD hS hA (fun H locs hP hD hS => ?_)
  refine lv_aload_n hx hb dX4_leftOutstanding_4 rfl (lv_at hl 0 rfl) ?_
  refine va_get (D := D) (ci := 4) (v := .int (u.1 7)) (C := RX4) (T := TX4) (N := 14) hx hb hts hiX4 hown hK hP 0 rfl rfl 11 (by decide) hw1 (fun _ h9 => h9) rfl dX4_leftOutstanding_5 ?_
  refine lv_isub hx hb dX4_leftOutstanding_8 ?_
  refine lv_aload_n hx hb dX4_leftOutstanding_9 rfl (lv_at hl 0 rfl) ?_
  refine va_get (D := D) (ci := 4) (v := .int (u.1 8)) (C := RX4) (T := TX4) (N := 14) hx hb hts hiX4 hown hK hP 0 rfl rfl 12 (by decide) hw2 (fun _ h9 => h9) rfl dX4_leftOutstanding_10 ?_
  refine lv_isub hx hb dX4_leftOutstanding_13 ?_
  exact W.iret (v := ((pg_all u.2 n) - (u.1 7)) - (u.1 8)) hx hb hr (fun t9 ht9 hW9 => ⟨⟨((pg_all u.2 n) - (u.1 7)) - (u.1 8), u, rfl, ⟨rfl, rfl⟩, by rw [ht9]; exact hP, va_K.moved hW9.alike hK, hD⟩, hS.F ht9⟩) hS.2.2 dX4_leftOutstanding_14
set_option maxHeartbeats 4000000 in
set_option maxRecDepth 100000 in
/-- free() -/
theorem cc_free (l : Launch) (D : va_G) (cI cZ : ClassId) (a : Nat → Nat) (sz : Nat) (u : pg_St) (n : Nat) (hn : u.1 10 = nI n) (h20 : n ≤ 20) : Met l yX4_free wsX4_free ({ frames := 1, cells := 0, slots := 0, locals := 23 }) (va_Pc [.ref (a 0)] (pg_B D (pg_ty cI cZ) (pg_wB cI cZ a u) sz)) (va_Qv (fun u' => u' = pg_free u n (u.1 3)) (pg_E D (pg_ty cI cZ) (va_A (pg_wB cI cZ a u) sz) (pg_wB cI cZ a)) (va_A (pg_wB cI cZ a u) sz)) 0 0 (va_A (pg_wB cI cZ a u) sz) := by
  refine Met.ofW (cc := cX4_free) (maxL := 2) (ret := none) (by decide) rfl ?_
  intro p e s m args below meth c s₁ B hml hv
  obtain ⟨rfl, hsz, hP, hK, hD0⟩ := hv
  have hx := B.exec
  have hb := B.bytes
  have hr := B.returns
  have hts := atoms_spec (ws := wsX4_free) B.pre
  have hown : s.vm.findClass RX4 = some m.cls := findClass_of_methodNamed B.named
  have hlocks := B.notSynchronized
  subst hsz
  have hD := hD0.self (sz := s.heap.size)
  generalize hAe : va_A (pg_wB cI cZ a u) s.heap.size = A at hD ⊢
  have hA : ∀ q : Nat, s.heap.size ≤ q → A q := fun q h => by rw [← hAe]; exact Or.inr h
  have hS : va_S A s.heap s.heap [] := va_S.rf
  have hl := lv_entry ([.ref (a 0)]) (n := 2) (Nat.le_of_ble_eq_true rfl)
  rw [lg_entry_eq]
  generalize (lg_sl ([.ref (a 0)]) ++ List.replicate (2 - (lg_sl ([.ref (a 0)])).length) Slot.unset).toArray = ls at hl ⊢
  have hl : lv_has ls 2 [(0, .ref (a 0))] := hl
  have hiX4 : ∀ w ∈ wsX40, w ∈ wsX4_free := fun _ h => List.mem_cons_of_mem _ (List.mem_append_left _ (List.mem_append_left _ (List.mem_append_right _ (h))))
  have hw1 := hts (.fieldLink RX4 10 "PegBox" "escrow" "LPegBox$Escrow;") (List.mem_of_getElem? (i := 1) rfl)
  have hw2 := hts (.fieldLink RX4 37 "PegBox" "day" "I") (List.mem_of_getElem? (i := 2) rfl)
  have hw3 := hts (.fieldLink RX4 26 "PegBox" "book" "LPegBox$ClaimBook;") (List.mem_of_getElem? (i := 3) rfl)
  have hw4 := hts (.fieldLink RX4 115 "PegBox" "held" "I") (List.mem_of_getElem? (i := 4) rfl)
  have hw5 := hts (.fieldLink RX4 118 "PegBox" "paid" "I") (List.mem_of_getElem? (i := 5) rfl)
  refine lv_aload_n hx hb dX4_free_0 rfl (lv_at hl 0 rfl) ?_
  refine va_get (D := D) (ci := 4) (v := .ref (a 1)) (C := RX4) (T := TX4) (N := 14) hx hb hts hiX4 hown hK hP 0 rfl rfl 0 (by decide) hw1 (fun _ h9 => h9) rfl dX4_free_1 ?_
  refine lv_aload_n hx hb dX4_free_4 rfl (lv_at hl 0 rfl) ?_
  refine va_get (D := D) (ci := 4) (v := .int (u.1 3)) (C := RX4) (T := TX4) (N := 14) hx hb hts hiX4 hown hK hP 0 rfl rfl 7 (by decide) hw2 (fun _ h9 => h9) rfl dX4_free_5 ?_
  refine pg_iE (pg_rV (As := [.int (u.1 3)]) (rest := []) ⟨hx, hb, hml, hown, hts⟩ (cc_totalAfter l D cI cZ a s.heap.size u (u.1 3)) (cwV 1 hts gX4_free_X2_totalAfter rfl rfl rfl (by decide +kernel) ⟨Nat.le_of_ble_eq_true rfl, Nat.le_of_ble_eq_true rfl⟩) hK hP hD 1 (ci := 2) rfl rfl rfl rfl hl.1 rfl (Nat.le_of_ble_eq_true rfl) dX4_free_8 ⟨Nat.le_of_ble_eq_true rfl, Nat.le_of_ble_eq_true rfl⟩) hD hS hA (fun H locs hP hD hS => ?_)
  refine lv_aload_n hx hb dX4_free_11 rfl (lv_at hl 0 rfl) ?_
  refine va_get (D := D) (ci := 4) (v := .ref (a 3)) (C := RX4) (T := TX4) (N := 14) hx hb hts hiX4 hown hK hP 0 rfl rfl 2 (by decide) hw3 (fun _ h9 => h9) rfl dX4_free_12 ?_
  refine pg_iE (pg_rV (As := []) (rest := [.int (pg_after u.2 (u.1 3))]) ⟨hx, hb, hml, hown, hts⟩ (cc_openSum l D cI cZ a H.size u n hn h20) (cwV 0 hts gX4_free_X0_openSum rfl rfl rfl (by decide +kernel) ⟨Nat.le_of_ble_eq_true rfl, Nat.le_of_ble_eq_true rfl⟩) hK hP hD 3 (ci := 0) rfl rfl rfl rfl hl.1 rfl (Nat.le_of_ble_eq_true rfl) dX4_free_15 ⟨Nat.le_of_ble_eq_true rfl, Nat.le_of_ble_eq_true rfl⟩) hD hS hA (fun H locs hP hD hS => ?_)
  refine lv_iadd hx hb dX4_free_18 ?_
  refine W.eq (g2 := F0 m 19 ls [.int (pg_kept u n (u.1 3))]) rfl ?_
  refine lv_istore_n (lv' := [(1, .int (pg_kept u n (u.1 3))), (0, .ref (a 0))]) hx hb dX4_free_19 rfl hl (by decide) rfl (fun ls hl => ?_)
  refine lv_aload_n hx hb dX4_free_20 rfl (lv_at hl 1 rfl) ?_
  refine va_get (D := D) (ci := 4) (v := .int (u.1 5)) (C := RX4) (T := TX4) (N := 14) hx hb hts hiX4 hown hK hP 0 rfl rfl 9 (by decide) hw4 (fun _ h9 => h9) rfl dX4_free_21 ?_
  refine lv_iload_n hx hb dX4_free_24 rfl (lv_at hl 0 rfl) ?_
  refine lv_icmp_le (tgt := 48) hx hb dX4_free_25 (by decide) (fun c_25 => ?_) (fun c_25 => ?_)
  · exact W.vret hx hb hr (fun t9 ht9 hW9 => ⟨⟨u, rfl, (by rw [pg_free, if_pos c_25]), by rw [ht9]; exact hP, va_K.moved hW9.alike hK, hD⟩, hS.F ht9⟩) hS.2.2 dX4_free_48
  · refine lv_aload_n hx hb dX4_free_28 rfl (lv_at hl 1 rfl) ?_
    refine lv_dup hx hb dX4_free_29 rfl ?_
    refine va_get (D := D) (ci := 4) (v := .int (u.1 6)) (C := RX4) (T := TX4) (N := 14) hx hb hts hiX4 hown hK hP 0 rfl rfl 10 (by decide) hw5 (fun _ h9 => h9) rfl dX4_free_30 ?_
    refine lv_aload_n hx hb dX4_free_33 rfl (lv_at hl 1 rfl) ?_
    refine va_get (D := D) (ci := 4) (v := .int (u.1 5)) (C := RX4) (T := TX4) (N := 14) hx hb hts hiX4 hown hK hP 0 rfl rfl 9 (by decide) hw4 (fun _ h9 => h9) rfl dX4_free_34 ?_
    refine lv_iload_n hx hb dX4_free_37 rfl (lv_at hl 0 rfl) ?_
    refine lv_isub hx hb dX4_free_38 ?_
    refine lv_iadd hx hb dX4_free_39 ?_
    refine va_put (D := D) (ci := 4) (v := .int ((u.1 6) + ((u.1 5) - (pg_kept u n (u.1 3))))) (ty := .int) (C := RX4) (T := TX4) (N := 14) hx hb hts hiX4 tyX4 tyX4_ok nmX4 hown hK hP hD hS 0 rfl rfl 10 (by decide) hw5 (fun _ h9 => h9) rfl (by decide +kernel) rfl rfl (Nat.le_of_ble_eq_true rfl) dX4_free_40 (fun H locs hP hD hS => ?_)
    have hP : va_P D vwCl (pg_wB cI cZ a ((upd u.1 6 ((u.1 6) + ((u.1 5) - (pg_kept u n (u.1 3))))), u.2)) H := hP
    have hD : va_D A (pg_wB cI cZ a ((upd u.1 6 ((u.1 6) + ((u.1 5) - (pg_kept u n (u.1 3))))), u.2)) := hD
    refine lv_aload_n hx hb dX4_free_43 rfl (lv_at hl 1 rfl) ?_
    refine lv_iload_n hx hb dX4_free_44 rfl (lv_at hl 0 rfl) ?_
    refine va_put (D := D) (ci := 4) (v := .int (pg_kept u n (u.1 3))) (ty := .int) (C := RX4) (T := TX4) (N := 14) hx hb hts hiX4 tyX4 tyX4_ok nmX4 hown hK hP hD hS 0 rfl rfl 9 (by decide) hw4 (fun _ h9 => h9) rfl (by decide +kernel) rfl rfl (Nat.le_of_ble_eq_true rfl) dX4_free_45 (fun H locs hP hD hS => ?_)
    have hP : va_P D vwCl (pg_wB cI cZ a ((upd (upd u.1 6 ((u.1 6) + ((u.1 5) - (pg_kept u n (u.1 3))))) 5 (pg_kept u n (u.1 3))), u.2)) H := hP
    have hD : va_D A (pg_wB cI cZ a ((upd (upd u.1 6 ((u.1 6) + ((u.1 5) - (pg_kept u n (u.1 3))))) 5 (pg_kept u n (u.1 3))), u.2)) := hD
    exact W.vret hx hb hr (fun t9 ht9 hW9 => ⟨⟨((upd (upd u.1 6 ((u.1 6) + ((u.1 5) - (pg_kept u n (u.1 3))))) 5 (pg_kept u n (u.1 3))), u.2), rfl, (by rw [pg_free, if_neg c_25]), by rw [ht9]; exact hP, va_K.moved hW9.alike hK, hD⟩, hS.F ht9⟩) hS.2.2 dX4_free_48
set_option maxHeartbeats 4000000 in
set_option maxRecDepth 100000 in
/-- payOut() -/
theorem cc_payOut (l : Launch) (D : va_G) (cI cZ : ClassId) (a : Nat → Nat) (sz : Nat) (u : pg_St) (n : Nat) (hn : u.1 10 = nI n) (h20 : n ≤ 20) : Met l yX4_payOut wsX4_payOut ({ frames := 5, cells := 0, slots := 0, locals := 108 }) (va_Pc [.ref (a 0)] (pg_B D (pg_ty cI cZ) (pg_wB cI cZ a u) sz)) (va_Qi (fun r u' => r = pg_back u n ∧ u' = pg_pay u n (u.1 3)) (pg_E D (pg_ty cI cZ) (va_A (pg_wB cI cZ a u) sz) (pg_wB cI cZ a)) (va_A (pg_wB cI cZ a u) sz)) 0 0 (va_A (pg_wB cI cZ a u) sz) := by
  refine Met.ofW (cc := cX4_payOut) (maxL := 2) (ret := (some .int)) (by decide) rfl ?_
  intro p e s m args below meth c s₁ B hml hv
  obtain ⟨rfl, hsz, hP, hK, hD0⟩ := hv
  have hx := B.exec
  have hb := B.bytes
  have hr := B.returns
  have hts := atoms_spec (ws := wsX4_payOut) B.pre
  have hown : s.vm.findClass RX4 = some m.cls := findClass_of_methodNamed B.named
  have hlocks := B.notSynchronized
  subst hsz
  have hD := hD0.self (sz := s.heap.size)
  generalize hAe : va_A (pg_wB cI cZ a u) s.heap.size = A at hD ⊢
  have hA : ∀ q : Nat, s.heap.size ≤ q → A q := fun q h => by rw [← hAe]; exact Or.inr h
  have hS : va_S A s.heap s.heap [] := va_S.rf
  have hl := lv_entry ([.ref (a 0)]) (n := 2) (Nat.le_of_ble_eq_true rfl)
  rw [lg_entry_eq]
  generalize (lg_sl ([.ref (a 0)]) ++ List.replicate (2 - (lg_sl ([.ref (a 0)])).length) Slot.unset).toArray = ls at hl ⊢
  have hl : lv_has ls 2 [(0, .ref (a 0))] := hl
  have hiX4 : ∀ w ∈ wsX40, w ∈ wsX4_payOut := fun _ h => List.mem_cons_of_mem _ (List.mem_append_left _ (List.mem_append_left _ (List.mem_append_left _ (List.mem_append_right _ (h)))))
  have hw1 := hts (.fieldLink RX4 115 "PegBox" "held" "I") (List.mem_of_getElem? (i := 1) rfl)
  have hw2 := hts (.methodLink RX4 112 Lib.Math.min.name) (List.mem_of_getElem? (i := 2) rfl)
  have hw3 := hts (.static Lib.Math.min.name) (List.mem_of_getElem? (i := 3) rfl)
  have hw4 := hts (.initialized "java/lang/Math") (List.mem_of_getElem? (i := 4) rfl)
  have hw5 := hts (.code Lib.Math.min.name Lib.Math.min.code 2 (some .int)) (List.mem_of_getElem? (i := 5) rfl)
  have hw6 := hts (.fieldLink RX4 178 "PegBox" "returned" "I") (List.mem_of_getElem? (i := 6) rfl)
  refine lv_aload_n hx hb dX4_payOut_0 rfl (lv_at hl 0 rfl) ?_
  refine pg_iE (pg_rV (As := []) (rest := []) ⟨hx, hb, hml, hown, hts⟩ (cc_left l D cI cZ a s.heap.size u n hn h20) (cwV 0 hts gX4_payOut_X4_leftOutstanding rfl rfl rfl (by decide +kernel) ⟨Nat.le_of_ble_eq_true rfl, Nat.le_of_ble_eq_true rfl⟩) hK hP hD 0 (ci := 4) rfl rfl rfl rfl hl.1 rfl (Nat.le_of_ble_eq_true rfl) dX4_payOut_1 ⟨Nat.le_of_ble_eq_true rfl, Nat.le_of_ble_eq_true rfl⟩) hD hS hA (fun H locs hP hD hS => ?_)
  refine lv_aload_n hx hb dX4_payOut_4 rfl (lv_at hl 0 rfl) ?_
  refine va_get (D := D) (ci := 4) (v := .int (u.1 5)) (C := RX4) (T := TX4) (N := 14) hx hb hts hiX4 hown hK hP 0 rfl rfl 9 (by decide) hw1 (fun _ h9 => h9) rfl dX4_payOut_5 ?_
  refine va_mmin hx hb (by rw [hml]; exact hl.1.symm) hown hw2 hw3 hw4 hw5 (Nat.le_of_ble_eq_true rfl) (Nat.le_of_ble_eq_true rfl) (Nat.le_of_ble_eq_true rfl) (Nat.le_of_ble_eq_true rfl) dX4_payOut_8 ?_
  refine W.eq (g2 := F0 m 11 ls [.int (pg_min (pg_out u n) (u.1 5))]) rfl ?_
  refine W.eq (g2 := F0 m 11 ls [.int (pg_back u n)]) rfl ?_
  refine lv_istore_n (lv' := [(1, .int (pg_back u n)), (0, .ref (a 0))]) hx hb dX4_payOut_11 rfl hl (by decide) rfl (fun ls hl => ?_)
  refine lv_aload_n hx hb dX4_payOut_12 rfl (lv_at hl 1 rfl) ?_
  refine lv_dup hx hb dX4_payOut_13 rfl ?_
  refine va_get (D := D) (ci := 4) (v := .int (u.1 5)) (C := RX4) (T := TX4) (N := 14) hx hb hts hiX4 hown hK hP 0 rfl rfl 9 (by decide) hw1 (fun _ h9 => h9) rfl dX4_payOut_14 ?_
  refine lv_iload_n hx hb dX4_payOut_17 rfl (lv_at hl 0 rfl) ?_
  refine lv_isub hx hb dX4_payOut_18 ?_
  refine va_put (D := D) (ci := 4) (v := .int ((u.1 5) - (pg_back u n))) (ty := .int) (C := RX4) (T := TX4) (N := 14) hx hb hts hiX4 tyX4 tyX4_ok nmX4 hown hK hP hD hS 0 rfl rfl 9 (by decide) hw1 (fun _ h9 => h9) rfl (by decide +kernel) rfl rfl (Nat.le_of_ble_eq_true rfl) dX4_payOut_19 (fun H locs hP hD hS => ?_)
  have hP : va_P D vwCl (pg_wB cI cZ a ((upd u.1 5 ((u.1 5) - (pg_back u n))), u.2)) H := hP
  have hD : va_D A (pg_wB cI cZ a ((upd u.1 5 ((u.1 5) - (pg_back u n))), u.2)) := hD
  refine lv_aload_n hx hb dX4_payOut_22 rfl (lv_at hl 1 rfl) ?_
  refine lv_dup hx hb dX4_payOut_23 rfl ?_
  refine va_get (D := D) (ci := 4) (v := .int (u.1 7)) (C := RX4) (T := TX4) (N := 14) hx hb hts hiX4 hown hK hP 0 rfl rfl 11 (by decide) hw6 (fun _ h9 => h9) rfl dX4_payOut_24 ?_
  refine lv_iload_n hx hb dX4_payOut_27 rfl (lv_at hl 0 rfl) ?_
  refine lv_iadd hx hb dX4_payOut_28 ?_
  refine va_put (D := D) (ci := 4) (v := .int ((u.1 7) + (pg_back u n))) (ty := .int) (C := RX4) (T := TX4) (N := 14) hx hb hts hiX4 tyX4 tyX4_ok nmX4 hown hK hP hD hS 0 rfl rfl 11 (by decide) hw6 (fun _ h9 => h9) rfl (by decide +kernel) rfl rfl (Nat.le_of_ble_eq_true rfl) dX4_payOut_29 (fun H locs hP hD hS => ?_)
  have hP : va_P D vwCl (pg_wB cI cZ a ((upd (upd u.1 5 ((u.1 5) - (pg_back u n))) 7 ((u.1 7) + (pg_back u n))), u.2)) H := hP
  have hD : va_D A (pg_wB cI cZ a ((upd (upd u.1 5 ((u.1 5) - (pg_back u n))) 7 ((u.1 7) + (pg_back u n))), u.2)) := hD
  refine lv_aload_n hx hb dX4_payOut_32 rfl (lv_at hl 1 rfl) ?_
  refine pg_vE (pg_rV (As := []) (rest := []) ⟨hx, hb, hml, hown, hts⟩ (cc_free l D cI cZ a H.size ((upd (upd u.1 5 ((u.1 5) - (pg_back u n))) 7 ((u.1 7) + (pg_back u n))), u.2) n hn h20) (cwV 0 hts gX4_payOut_X4_free rfl rfl rfl (by decide +kernel) ⟨Nat.le_of_ble_eq_true rfl, Nat.le_of_ble_eq_true rfl⟩) hK hP hD 0 (ci := 4) rfl rfl rfl rfl hl.1 rfl (Nat.le_of_ble_eq_true rfl) dX4_payOut_33 ⟨Nat.le_of_ble_eq_true rfl, Nat.le_of_ble_eq_true rfl⟩) hD hS hA (fun H locs hP hD hS => ?_)
  refine lv_iload_n hx hb dX4_payOut_36 rfl (lv_at hl 0 rfl) ?_
  exact W.iret (v := pg_back u n) hx hb hr (fun t9 ht9 hW9 => ⟨⟨pg_back u n, (pg_free (pg_ret u n) n (u.1 3)), rfl, ⟨rfl, rfl⟩, by rw [ht9]; exact hP, va_K.moved hW9.alike hK, hD⟩, hS.F ht9⟩) hS.2.2 dX4_payOut_37
set_option maxHeartbeats 4000000 in
set_option maxRecDepth 100000 in
/-- owe(amount) -/
theorem cc_owe (l : Launch) (D : va_G) (cI cZ : ClassId) (a : Nat → Nat) (sz : Nat) (u : pg_St) (n : Nat) (hn : u.1 10 = nI n) (h20 : n ≤ 20) (x : Int32) : Met l yX4_owe wsX4_owe ({ frames := 5, cells := 0, slots := 0, locals := 108 }) (va_Pc [.ref (a 0), .int x] (pg_B D (pg_ty cI cZ) (pg_wB cI cZ a u) sz)) (va_Qi (fun r u' => r = x ∧ u' = pg_owe u n x) (pg_E D (pg_ty cI cZ) (va_A (pg_wB cI cZ a u) sz) (pg_wB cI cZ a)) (va_A (pg_wB cI cZ a u) sz)) 0 0 (va_A (pg_wB cI cZ a u) sz) := by
  refine Met.ofW (cc := cX4_owe) (maxL := 3) (ret := (some .int)) (by decide) rfl ?_
  intro p e s m args below meth c s₁ B hml hv
  obtain ⟨rfl, hsz, hP, hK, hD0⟩ := hv
  have hx := B.exec
  have hb := B.bytes
  have hr := B.returns
  have hts := atoms_spec (ws := wsX4_owe) B.pre
  have hown : s.vm.findClass RX4 = some m.cls := findClass_of_methodNamed B.named
  have hlocks := B.notSynchronized
  subst hsz
  have hD := hD0.self (sz := s.heap.size)
  generalize hAe : va_A (pg_wB cI cZ a u) s.heap.size = A at hD ⊢
  have hA : ∀ q : Nat, s.heap.size ≤ q → A q := fun q h => by rw [← hAe]; exact Or.inr h
  have hS : va_S A s.heap s.heap [] := va_S.rf
  have hl := lv_entry ([.ref (a 0), .int x]) (n := 3) (Nat.le_of_ble_eq_true rfl)
  rw [lg_entry_eq]
  generalize (lg_sl ([.ref (a 0), .int x]) ++ List.replicate (3 - (lg_sl ([.ref (a 0), .int x])).length) Slot.unset).toArray = ls at hl ⊢
  have hl : lv_has ls 3 [(0, .ref (a 0)), (1, .int x)] := hl
  have hiX4 : ∀ w ∈ wsX40, w ∈ wsX4_owe := fun _ h => List.mem_cons_of_mem _ (List.mem_append_left _ (List.mem_append_left _ (List.mem_append_right _ (h))))
  have hw1 := hts (.methodLink RX4 112 Lib.Math.min.name) (List.mem_of_getElem? (i := 1) rfl)
  have hw2 := hts (.static Lib.Math.min.name) (List.mem_of_getElem? (i := 2) rfl)
  have hw3 := hts (.initialized "java/lang/Math") (List.mem_of_getElem? (i := 3) rfl)
  have hw4 := hts (.code Lib.Math.min.name Lib.Math.min.code 2 (some .int)) (List.mem_of_getElem? (i := 4) rfl)
  have hw5 := hts (.fieldLink RX4 184 "PegBox" "owed" "I") (List.mem_of_getElem? (i := 5) rfl)
  have hw6 := hts (.fieldLink RX4 181 "PegBox" "setOff" "I") (List.mem_of_getElem? (i := 6) rfl)
  have hw7 := hts (.fieldLink RX4 118 "PegBox" "paid" "I") (List.mem_of_getElem? (i := 7) rfl)
  refine lv_iload_n hx hb dX4_owe_0 rfl (lv_at hl 1 rfl) ?_
  refine lv_aload_n hx hb dX4_owe_1 rfl (lv_at hl 0 rfl) ?_
  refine pg_iE (pg_rV (As := []) (rest := [.int x]) ⟨hx, hb, hml, hown, hts⟩ (cc_left l D cI cZ a s.heap.size u n hn h20) (cwV 0 hts gX4_owe_X4_leftOutstanding rfl rfl rfl (by decide +kernel) ⟨Nat.le_of_ble_eq_true rfl, Nat.le_of_ble_eq_true rfl⟩) hK hP hD 0 (ci := 4) rfl rfl rfl rfl hl.1 rfl (Nat.le_of_ble_eq_true rfl) dX4_owe_2 ⟨Nat.le_of_ble_eq_true rfl, Nat.le_of_ble_eq_true rfl⟩) hD hS hA (fun H locs hP hD hS => ?_)
  refine va_mmin hx hb (by rw [hml]; exact hl.1.symm) hown hw1 hw2 hw3 hw4 (Nat.le_of_ble_eq_true rfl) (Nat.le_of_ble_eq_true rfl) (Nat.le_of_ble_eq_true rfl) (Nat.le_of_ble_eq_true rfl) dX4_owe_5 ?_
  refine W.eq (g2 := F0 m 8 ls [.int (pg_min x (pg_out u n))]) rfl ?_
  refine lv_istore_n (lv' := [(2, .int (pg_min x (pg_out u n))), (0, .ref (a 0)), (1, .int x)]) hx hb dX4_owe_8 rfl hl (by decide) rfl (fun ls hl => ?_)
  refine lv_aload_n hx hb dX4_owe_9 rfl (lv_at hl 1 rfl) ?_
  refine lv_dup hx hb dX4_owe_10 rfl ?_
  refine va_get (D := D) (ci := 4) (v := .int (u.1 9)) (C := RX4) (T := TX4) (N := 14) hx hb hts hiX4 hown hK hP 0 rfl rfl 13 (by decide) hw5 (fun _ h9 => h9) rfl dX4_owe_11 ?_
  refine lv_iload_n hx hb dX4_owe_14 rfl (lv_at hl 2 rfl) ?_
  refine lv_iadd hx hb dX4_owe_15 ?_
  refine va_put (D := D) (ci := 4) (v := .int ((u.1 9) + x)) (ty := .int) (C := RX4) (T := TX4) (N := 14) hx hb hts hiX4 tyX4 tyX4_ok nmX4 hown hK hP hD hS 0 rfl rfl 13 (by decide) hw5 (fun _ h9 => h9) rfl (by decide +kernel) rfl rfl (Nat.le_of_ble_eq_true rfl) dX4_owe_16 (fun H locs hP hD hS => ?_)
  have hP : va_P D vwCl (pg_wB cI cZ a ((upd u.1 9 ((u.1 9) + x)), u.2)) H := hP
  have hD : va_D A (pg_wB cI cZ a ((upd u.1 9 ((u.1 9) + x)), u.2)) := hD
  refine lv_aload_n hx hb dX4_owe_19 rfl (lv_at hl 1 rfl) ?_
  refine lv_dup hx hb dX4_owe_20 rfl ?_
  refine va_get (D := D) (ci := 4) (v := .int (u.1 8)) (C := RX4) (T := TX4) (N := 14) hx hb hts hiX4 hown hK hP 0 rfl rfl 12 (by decide) hw6 (fun _ h9 => h9) rfl dX4_owe_21 ?_
  refine lv_iload_n hx hb dX4_owe_24 rfl (lv_at hl 0 rfl) ?_
  refine lv_iadd hx hb dX4_owe_25 ?_
  refine va_put (D := D) (ci := 4) (v := .int ((u.1 8) + (pg_min x (pg_out u n)))) (ty := .int) (C := RX4) (T := TX4) (N := 14) hx hb hts hiX4 tyX4 tyX4_ok nmX4 hown hK hP hD hS 0 rfl rfl 12 (by decide) hw6 (fun _ h9 => h9) rfl (by decide +kernel) rfl rfl (Nat.le_of_ble_eq_true rfl) dX4_owe_26 (fun H locs hP hD hS => ?_)
  have hP : va_P D vwCl (pg_wB cI cZ a ((upd (upd u.1 9 ((u.1 9) + x)) 8 ((u.1 8) + (pg_min x (pg_out u n)))), u.2)) H := hP
  have hD : va_D A (pg_wB cI cZ a ((upd (upd u.1 9 ((u.1 9) + x)) 8 ((u.1 8) + (pg_min x (pg_out u n)))), u.2)) := hD
  refine lv_aload_n hx hb dX4_owe_29 rfl (lv_at hl 1 rfl) ?_
  refine lv_dup hx hb dX4_owe_30 rfl ?_
  refine va_get (D := D) (ci := 4) (v := .int (u.1 6)) (C := RX4) (T := TX4) (N := 14) hx hb hts hiX4 hown hK hP 0 rfl rfl 10 (by decide) hw7 (fun _ h9 => h9) rfl dX4_owe_31 ?_
  refine lv_iload_n hx hb dX4_owe_34 rfl (lv_at hl 2 rfl) ?_
  refine lv_iload_n hx hb dX4_owe_35 rfl (lv_at hl 0 rfl) ?_
  refine lv_isub hx hb dX4_owe_36 ?_
  refine lv_iadd hx hb dX4_owe_37 ?_
  refine va_put (D := D) (ci := 4) (v := .int ((u.1 6) + (x - (pg_min x (pg_out u n))))) (ty := .int) (C := RX4) (T := TX4) (N := 14) hx hb hts hiX4 tyX4 tyX4_ok nmX4 hown hK hP hD hS 0 rfl rfl 10 (by decide) hw7 (fun _ h9 => h9) rfl (by decide +kernel) rfl rfl (Nat.le_of_ble_eq_true rfl) dX4_owe_38 (fun H locs hP hD hS => ?_)
  have hP : va_P D vwCl (pg_wB cI cZ a ((upd (upd (upd u.1 9 ((u.1 9) + x)) 8 ((u.1 8) + (pg_min x (pg_out u n)))) 6 ((u.1 6) + (x - (pg_min x (pg_out u n))))), u.2)) H := hP
  have hD : va_D A (pg_wB cI cZ a ((upd (upd (upd u.1 9 ((u.1 9) + x)) 8 ((u.1 8) + (pg_min x (pg_out u n)))) 6 ((u.1 6) + (x - (pg_min x (pg_out u n))))), u.2)) := hD
  refine lv_iload_n hx hb dX4_owe_41 rfl (lv_at hl 2 rfl) ?_
  exact W.iret (v := x) hx hb hr (fun t9 ht9 hW9 => ⟨⟨x, ((upd (upd (upd u.1 9 ((u.1 9) + x)) 8 ((u.1 8) + (pg_min x (pg_out u n)))) 6 ((u.1 6) + (x - (pg_min x (pg_out u n))))), u.2), rfl, ⟨rfl, rfl⟩, by rw [ht9]; exact hP, va_K.moved hW9.alike hK, hD⟩, hS.F ht9⟩) hS.2.2 dX4_owe_42
end
section
theorem pg_free_3 (u : pg_St) (n : Nat) (d : Int32) : (pg_free u n d).1 3 = u.1 3 := by
  by_cases h : u.1 5 ≤ pg_kept u n d
  · rw [pg_free, if_pos h]
  · rw [pg_free, if_neg h]; rfl
set_option maxHeartbeats 4000000 in
set_option maxRecDepth 100000 in
/-- cc_setPrice: returns -/
theorem cc_setPrice_ok (l : Launch) (D : va_G) (cI cZ : ClassId) (a : Nat → Nat) (sz : Nat) (u : pg_St) (x y1 z : Int32) (hthr : pg_t_setPrice (!pg_eq (u.1 3) (-1)) x y1 z = 0) : Met l yX4_setPrice wsX4_setPrice ({ frames := 1, cells := 0, slots := 0, locals := 22 }) (va_Pc [.ref (a 0), .int x, .int y1, .int z] (pg_B D (pg_ty cI cZ) (pg_wB cI cZ a u) sz)) (va_Qv (fun u' => u' = (upd (upd (upd u.1 0 x) 1 y1) 2 z, u.2)) (pg_E D (pg_ty cI cZ) (va_A (pg_wB cI cZ a u) sz) (pg_wB cI cZ a)) (va_A (pg_wB cI cZ a u) sz)) 0 0 (va_A (pg_wB cI cZ a u) sz) := by
  refine Met.ofW (cc := cX4_setPrice) (maxL := 4) (ret := none) (by decide) rfl ?_
  intro p e s m args below meth c s₁ B hml hv
  obtain ⟨rfl, hsz, hP, hK, hD0⟩ := hv
  have hx := B.exec
  have hb := B.bytes
  have hr := B.returns
  have hts := atoms_spec (ws := wsX4_setPrice) B.pre
  have hown : s.vm.findClass RX4 = some m.cls := findClass_of_methodNamed B.named
  have hlocks := B.notSynchronized
  subst hsz
  have hD := hD0.self (sz := s.heap.size)
  generalize hAe : va_A (pg_wB cI cZ a u) s.heap.size = A at hD ⊢
  have hA : ∀ q : Nat, s.heap.size ≤ q → A q := fun q h => by rw [← hAe]; exact Or.inr h
  have hS : va_S A s.heap s.heap [] := va_S.rf
  have hl := lv_entry ([.ref (a 0), .int x, .int y1, .int z]) (n := 4) (Nat.le_of_ble_eq_true rfl)
  rw [lg_entry_eq]
  generalize (lg_sl ([.ref (a 0), .int x, .int y1, .int z]) ++ List.replicate (4 - (lg_sl ([.ref (a 0), .int x, .int y1, .int z])).length) Slot.unset).toArray = ls at hl ⊢
  have hl : lv_has ls 4 [(0, .ref (a 0)), (1, .int x), (2, .int y1), (3, .int z)] := hl
  have hiX4 : ∀ w ∈ wsX40, w ∈ wsX4_setPrice := fun _ h => List.mem_cons_of_mem _ (List.mem_append_left _ (List.mem_append_left _ (List.mem_append_right _ (h))))
  have hw1 := hts (.constant RX4 44 (10000000)) (List.mem_of_getElem? (i := 1) rfl)
  have hw2 := hts (.constant RX4 49 (-10000000)) (List.mem_of_getElem? (i := 2) rfl)
  have hw3 := hts (.fieldLink RX4 53 "PegBox" "price" "I") (List.mem_of_getElem? (i := 3) rfl)
  have hw4 := hts (.fieldLink RX4 56 "PegBox" "peg" "I") (List.mem_of_getElem? (i := 4) rfl)
  have hw5 := hts (.fieldLink RX4 59 "PegBox" "collar" "I") (List.mem_of_getElem? (i := 5) rfl)
  refine lv_iload_n hx hb dX4_setPrice_0 rfl (lv_at hl 1 rfl) ?_
  refine lv_iconst (v := 0) hx hb dX4_setPrice_1 (by decide) ?_
  refine lv_ldc hx hb hown hw1 dX4_setPrice_2 ?_
  rcases Bool.eq_false_or_eq_true (pg_in x 0 10000000) with c_4 | c_4
  · refine pg_vU (pg_rS (As := [.int x, .int 0, .int 10000000]) (rest := []) ⟨hx, hb, hml, hown, hts⟩ (cc_rng_ok l D (pg_ty cI cZ) (pg_wB cI cZ a u) s.heap.size x 0 10000000 c_4) (va_cwS 3 hts gX4_setPrice_X4_checkRange rfl rfl rfl (by decide +kernel) ⟨Nat.le_of_ble_eq_true rfl, Nat.le_of_ble_eq_true rfl⟩) hK hP hD rfl hl.1 rfl (Nat.le_of_ble_eq_true rfl) dX4_setPrice_4 ⟨Nat.le_of_ble_eq_true rfl, Nat.le_of_ble_eq_true rfl⟩) hD hS hA (fun H locs hP hD hS => ?_)
    refine lv_iload_n hx hb dX4_setPrice_7 rfl (lv_at hl 2 rfl) ?_
    refine lv_ldc hx hb hown hw2 dX4_setPrice_8 ?_
    refine lv_ldc hx hb hown hw1 dX4_setPrice_10 ?_
    rcases Bool.eq_false_or_eq_true (pg_in y1 (-10000000) 10000000) with c_12 | c_12
    · refine pg_vU (pg_rS (As := [.int y1, .int (-10000000), .int 10000000]) (rest := []) ⟨hx, hb, hml, hown, hts⟩ (cc_rng_ok l D (pg_ty cI cZ) (pg_wB cI cZ a u) H.size y1 (-10000000) 10000000 c_12) (va_cwS 3 hts gX4_setPrice_X4_checkRange rfl rfl rfl (by decide +kernel) ⟨Nat.le_of_ble_eq_true rfl, Nat.le_of_ble_eq_true rfl⟩) hK hP hD rfl hl.1 rfl (Nat.le_of_ble_eq_true rfl) dX4_setPrice_12 ⟨Nat.le_of_ble_eq_true rfl, Nat.le_of_ble_eq_true rfl⟩) hD hS hA (fun H locs hP hD hS => ?_)
      refine lv_iload_n hx hb dX4_setPrice_15 rfl (lv_at hl 3 rfl) ?_
      refine lv_iconst (v := 0) hx hb dX4_setPrice_16 (by decide) ?_
      refine lv_ldc hx hb hown hw1 dX4_setPrice_17 ?_
      rcases Bool.eq_false_or_eq_true (pg_in z 0 10000000) with c_19 | c_19
      · refine pg_vU (pg_rS (As := [.int z, .int 0, .int 10000000]) (rest := []) ⟨hx, hb, hml, hown, hts⟩ (cc_rng_ok l D (pg_ty cI cZ) (pg_wB cI cZ a u) H.size z 0 10000000 c_19) (va_cwS 3 hts gX4_setPrice_X4_checkRange rfl rfl rfl (by decide +kernel) ⟨Nat.le_of_ble_eq_true rfl, Nat.le_of_ble_eq_true rfl⟩) hK hP hD rfl hl.1 rfl (Nat.le_of_ble_eq_true rfl) dX4_setPrice_19 ⟨Nat.le_of_ble_eq_true rfl, Nat.le_of_ble_eq_true rfl⟩) hD hS hA (fun H locs hP hD hS => ?_)
        refine lv_aload_n hx hb dX4_setPrice_22 rfl (lv_at hl 0 rfl) ?_
        rcases Bool.eq_false_or_eq_true (pg_eq (u.1 3) (-1)) with c_23 | c_23
        · refine pg_vE (pg_rV (As := []) (rest := []) ⟨hx, hb, hml, hown, hts⟩ (cc_ncl_ok l D cI cZ a H.size u c_23) (cwV 0 hts gX4_setPrice_X4_checkNotClosed rfl rfl rfl (by decide +kernel) ⟨Nat.le_of_ble_eq_true rfl, Nat.le_of_ble_eq_true rfl⟩) hK hP hD 0 (ci := 4) rfl rfl rfl rfl hl.1 rfl (Nat.le_of_ble_eq_true rfl) dX4_setPrice_23 ⟨Nat.le_of_ble_eq_true rfl, Nat.le_of_ble_eq_true rfl⟩) hD hS hA (fun H locs hP hD hS => ?_)
          refine lv_aload_n hx hb dX4_setPrice_26 rfl (lv_at hl 0 rfl) ?_
          refine lv_iload_n hx hb dX4_setPrice_27 rfl (lv_at hl 1 rfl) ?_
          refine va_put (D := D) (ci := 4) (v := .int x) (ty := .int) (C := RX4) (T := TX4) (N := 14) hx hb hts hiX4 tyX4 tyX4_ok nmX4 hown hK hP hD hS 0 rfl rfl 4 (by decide) hw3 (fun _ h9 => h9) rfl (by decide +kernel) rfl rfl (Nat.le_of_ble_eq_true rfl) dX4_setPrice_28 (fun H locs hP hD hS => ?_)
          have hP : va_P D vwCl (pg_wB cI cZ a ((upd u.1 0 x), u.2)) H := hP
          have hD : va_D A (pg_wB cI cZ a ((upd u.1 0 x), u.2)) := hD
          refine lv_aload_n hx hb dX4_setPrice_31 rfl (lv_at hl 0 rfl) ?_
          refine lv_iload_n hx hb dX4_setPrice_32 rfl (lv_at hl 2 rfl) ?_
          refine va_put (D := D) (ci := 4) (v := .int y1) (ty := .int) (C := RX4) (T := TX4) (N := 14) hx hb hts hiX4 tyX4 tyX4_ok nmX4 hown hK hP hD hS 0 rfl rfl 5 (by decide) hw4 (fun _ h9 => h9) rfl (by decide +kernel) rfl rfl (Nat.le_of_ble_eq_true rfl) dX4_setPrice_33 (fun H locs hP hD hS => ?_)
          have hP : va_P D vwCl (pg_wB cI cZ a ((upd (upd u.1 0 x) 1 y1), u.2)) H := hP
          have hD : va_D A (pg_wB cI cZ a ((upd (upd u.1 0 x) 1 y1), u.2)) := hD
          refine lv_aload_n hx hb dX4_setPrice_36 rfl (lv_at hl 0 rfl) ?_
          refine lv_iload_n hx hb dX4_setPrice_37 rfl (lv_at hl 3 rfl) ?_
          refine va_put (D := D) (ci := 4) (v := .int z) (ty := .int) (C := RX4) (T := TX4) (N := 14) hx hb hts hiX4 tyX4 tyX4_ok nmX4 hown hK hP hD hS 0 rfl rfl 6 (by decide) hw5 (fun _ h9 => h9) rfl (by decide +kernel) rfl rfl (Nat.le_of_ble_eq_true rfl) dX4_setPrice_38 (fun H locs hP hD hS => ?_)
          have hP : va_P D vwCl (pg_wB cI cZ a ((upd (upd (upd u.1 0 x) 1 y1) 2 z), u.2)) H := hP
          have hD : va_D A (pg_wB cI cZ a ((upd (upd (upd u.1 0 x) 1 y1) 2 z), u.2)) := hD
          exact W.vret hx hb hr (fun t9 ht9 hW9 => ⟨⟨((upd (upd (upd u.1 0 x) 1 y1) 2 z), u.2), rfl, rfl, by rw [ht9]; exact hP, va_K.moved hW9.alike hK, hD⟩, hS.F ht9⟩) hS.2.2 dX4_setPrice_41
        · exact absurd hthr (by first | (simp only [pg_t_setPrice, c_4, c_12, c_19, c_23, cond_true, cond_false, Bool.not_true, Bool.not_false]; done) | (simp only [pg_t_setPrice, c_4, c_12, c_19, c_23, cond_true, cond_false, Bool.not_true, Bool.not_false]; decide))
      · exact absurd hthr (by first | (simp only [pg_t_setPrice, c_4, c_12, c_19, cond_true, cond_false, Bool.not_true, Bool.not_false]; done) | (simp only [pg_t_setPrice, c_4, c_12, c_19, cond_true, cond_false, Bool.not_true, Bool.not_false]; decide))
    · exact absurd hthr (by first | (simp only [pg_t_setPrice, c_4, c_12, cond_true, cond_false, Bool.not_true, Bool.not_false]; done) | (simp only [pg_t_setPrice, c_4, c_12, cond_true, cond_false, Bool.not_true, Bool.not_false]; decide))
  · exact absurd hthr (by first | (simp only [pg_t_setPrice, c_4, cond_true, cond_false, Bool.not_true, Bool.not_false]; done) | (simp only [pg_t_setPrice, c_4, cond_true, cond_false, Bool.not_true, Bool.not_false]; decide))
set_option maxHeartbeats 4000000 in
set_option maxRecDepth 100000 in
/-- cc_setPrice: throws -/
theorem cc_setPrice_no (l : Launch) (hfl : l.stackTraces = false) (D : va_G) (cI cZ : ClassId) (a : Nat → Nat) (sz : Nat) (u : pg_St) (x y1 z : Int32) (e9 : Int32) (nm : String) (hthr : pg_t_setPrice (!pg_eq (u.1 3) (-1)) x y1 z = e9) (h0 : e9 ≠ 0) (h9_1 : e9 = 1 → nm = pg_ia) (h9_2 : e9 = 2 → nm = pg_is) : vx_Met l yX4_setPrice wsX4_setPrice ({ frames := 7, cells := 1, slots := 6, locals := 108 }) (va_Pc [.ref (a 0), .int x, .int y1, .int z] (pg_T D (pg_ty cI cZ) (pg_wB cI cZ a u) sz)) pg_No (pg_X D (pg_wB cI cZ a u) (va_A (pg_wB cI cZ a u) sz) nm) 1 6 (va_A (pg_wB cI cZ a u) sz) := by
  refine vx_ofW (cc := cX4_setPrice) (maxL := 4) (ret := none) (by decide) rfl ?_
  intro p e s m args below meth c s₁ B hml hout hv
  obtain ⟨rfl, ⟨hsz, hP, hK, hD0⟩, hE⟩ := hv
  have hx := B.exec
  have hb := B.bytes
  have hr := B.returns
  have hts := atoms_spec (ws := wsX4_setPrice) B.pre
  have hown : s.vm.findClass RX4 = some m.cls := findClass_of_methodNamed B.named
  have hlocks := B.notSynchronized
  subst hsz
  have hD := hD0.self (sz := s.heap.size)
  generalize hAe : va_A (pg_wB cI cZ a u) s.heap.size = A at hD hE ⊢
  have hA : ∀ q : Nat, s.heap.size ≤ q → A q := fun q h => by rw [← hAe]; exact Or.inr h
  have hS : va_S A s.heap s.heap [] := va_S.rf
  have hl := lv_entry ([.ref (a 0), .int x, .int y1, .int z]) (n := 4) (Nat.le_of_ble_eq_true rfl)
  rw [lg_entry_eq]
  generalize (lg_sl ([.ref (a 0), .int x, .int y1, .int z]) ++ List.replicate (4 - (lg_sl ([.ref (a 0), .int x, .int y1, .int z])).length) Slot.unset).toArray = ls at hl ⊢
  have hl : lv_has ls 4 [(0, .ref (a 0)), (1, .int x), (2, .int y1), (3, .int z)] := hl
  have hw1 := hts (.constant RX4 44 (10000000)) (List.mem_of_getElem? (i := 1) rfl)
  have hw2 := hts (.constant RX4 49 (-10000000)) (List.mem_of_getElem? (i := 2) rfl)
  refine lv_iload_n hx hb dX4_setPrice_0 rfl (lv_at hl 1 rfl) ?_
  refine lv_iconst (v := 0) hx hb dX4_setPrice_1 (by decide) ?_
  refine lv_ldc hx hb hown hw1 dX4_setPrice_2 ?_
  rcases Bool.eq_false_or_eq_true (pg_in x 0 10000000) with c_4 | c_4
  · refine pg_vU (pg_rS (As := [.int x, .int 0, .int 10000000]) (rest := []) ⟨hx, hb, hml, hown, hts⟩ (cc_rng_ok l D (pg_ty cI cZ) (pg_wB cI cZ a u) s.heap.size x 0 10000000 c_4) (va_cwS 3 hts gX4_setPrice_X4_checkRange rfl rfl rfl (by decide +kernel) ⟨Nat.le_of_ble_eq_true rfl, Nat.le_of_ble_eq_true rfl⟩) hK hP hD rfl hl.1 rfl (Nat.le_of_ble_eq_true rfl) dX4_setPrice_4 ⟨Nat.le_of_ble_eq_true rfl, Nat.le_of_ble_eq_true rfl⟩) hD hS hA (fun H locs hP hD hS => ?_)
    refine lv_iload_n hx hb dX4_setPrice_7 rfl (lv_at hl 2 rfl) ?_
    refine lv_ldc hx hb hown hw2 dX4_setPrice_8 ?_
    refine lv_ldc hx hb hown hw1 dX4_setPrice_10 ?_
    rcases Bool.eq_false_or_eq_true (pg_in y1 (-10000000) 10000000) with c_12 | c_12
    · refine pg_vU (pg_rS (As := [.int y1, .int (-10000000), .int 10000000]) (rest := []) ⟨hx, hb, hml, hown, hts⟩ (cc_rng_ok l D (pg_ty cI cZ) (pg_wB cI cZ a u) H.size y1 (-10000000) 10000000 c_12) (va_cwS 3 hts gX4_setPrice_X4_checkRange rfl rfl rfl (by decide +kernel) ⟨Nat.le_of_ble_eq_true rfl, Nat.le_of_ble_eq_true rfl⟩) hK hP hD rfl hl.1 rfl (Nat.le_of_ble_eq_true rfl) dX4_setPrice_12 ⟨Nat.le_of_ble_eq_true rfl, Nat.le_of_ble_eq_true rfl⟩) hD hS hA (fun H locs hP hD hS => ?_)
      refine lv_iload_n hx hb dX4_setPrice_15 rfl (lv_at hl 3 rfl) ?_
      refine lv_iconst (v := 0) hx hb dX4_setPrice_16 (by decide) ?_
      refine lv_ldc hx hb hown hw1 dX4_setPrice_17 ?_
      rcases Bool.eq_false_or_eq_true (pg_in z 0 10000000) with c_19 | c_19
      · refine pg_vU (pg_rS (As := [.int z, .int 0, .int 10000000]) (rest := []) ⟨hx, hb, hml, hown, hts⟩ (cc_rng_ok l D (pg_ty cI cZ) (pg_wB cI cZ a u) H.size z 0 10000000 c_19) (va_cwS 3 hts gX4_setPrice_X4_checkRange rfl rfl rfl (by decide +kernel) ⟨Nat.le_of_ble_eq_true rfl, Nat.le_of_ble_eq_true rfl⟩) hK hP hD rfl hl.1 rfl (Nat.le_of_ble_eq_true rfl) dX4_setPrice_19 ⟨Nat.le_of_ble_eq_true rfl, Nat.le_of_ble_eq_true rfl⟩) hD hS hA (fun H locs hP hD hS => ?_)
        refine lv_aload_n hx hb dX4_setPrice_22 rfl (lv_at hl 0 rfl) ?_
        rcases Bool.eq_false_or_eq_true (pg_eq (u.1 3) (-1)) with c_23 | c_23
        · exact absurd (hthr.symm.trans (by simp only [pg_t_setPrice, c_4, c_12, c_19, c_23, cond_true, cond_false, Bool.not_true, Bool.not_false])) h0
        · have he : e9 = 2 := hthr.symm.trans (by simp only [pg_t_setPrice, c_4, c_12, c_19, c_23, cond_true, cond_false, Bool.not_true, Bool.not_false])
          obtain rfl := h9_2 he
          exact pg_thru (pg_xV (As := []) (rest := []) ⟨hx, hb, hml, hown, hts⟩ (cc_ncl_no l hfl D cI cZ a H.size u c_23) (cwV 0 hts gX4_setPrice_X4_checkNotClosed rfl rfl rfl (by decide +kernel) ⟨Nat.le_of_ble_eq_true rfl, Nat.le_of_ble_eq_true rfl⟩) hK hP hD hS hA hE 0 (ci := 4) rfl rfl rfl rfl hl.1 rfl (Nat.le_of_ble_eq_true rfl) dX4_setPrice_23 ⟨Nat.le_of_ble_eq_true rfl, Nat.le_of_ble_eq_true rfl⟩) hD hS hA hout hlocks (Nat.le_of_ble_eq_true rfl) (Nat.le_of_ble_eq_true rfl)
      · have he : e9 = 1 := hthr.symm.trans (by simp only [pg_t_setPrice, c_4, c_12, c_19, cond_true, cond_false, Bool.not_true, Bool.not_false])
        obtain rfl := h9_1 he
        exact pg_thru (pg_xS (As := [.int z, .int 0, .int 10000000]) (rest := []) ⟨hx, hb, hml, hown, hts⟩ (cc_rng_no l hfl D (pg_ty cI cZ) (pg_wB cI cZ a u) H.size z 0 10000000 c_19) (va_cwS 3 hts gX4_setPrice_X4_checkRange rfl rfl rfl (by decide +kernel) ⟨Nat.le_of_ble_eq_true rfl, Nat.le_of_ble_eq_true rfl⟩) hK hP hD hS hA hE rfl hl.1 rfl (Nat.le_of_ble_eq_true rfl) dX4_setPrice_19 ⟨Nat.le_of_ble_eq_true rfl, Nat.le_of_ble_eq_true rfl⟩) hD hS hA hout hlocks (Nat.le_of_ble_eq_true rfl) (Nat.le_of_ble_eq_true rfl)
    · have he : e9 = 1 := hthr.symm.trans (by simp only [pg_t_setPrice, c_4, c_12, cond_true, cond_false, Bool.not_true, Bool.not_false])
      obtain rfl := h9_1 he
      exact pg_thru (pg_xS (As := [.int y1, .int (-10000000), .int 10000000]) (rest := []) ⟨hx, hb, hml, hown, hts⟩ (cc_rng_no l hfl D (pg_ty cI cZ) (pg_wB cI cZ a u) H.size y1 (-10000000) 10000000 c_12) (va_cwS 3 hts gX4_setPrice_X4_checkRange rfl rfl rfl (by decide +kernel) ⟨Nat.le_of_ble_eq_true rfl, Nat.le_of_ble_eq_true rfl⟩) hK hP hD hS hA hE rfl hl.1 rfl (Nat.le_of_ble_eq_true rfl) dX4_setPrice_12 ⟨Nat.le_of_ble_eq_true rfl, Nat.le_of_ble_eq_true rfl⟩) hD hS hA hout hlocks (Nat.le_of_ble_eq_true rfl) (Nat.le_of_ble_eq_true rfl)
  · have he : e9 = 1 := hthr.symm.trans (by simp only [pg_t_setPrice, c_4, cond_true, cond_false, Bool.not_true, Bool.not_false])
    obtain rfl := h9_1 he
    exact pg_thru (pg_xS (As := [.int x, .int 0, .int 10000000]) (rest := []) ⟨hx, hb, hml, hown, hts⟩ (cc_rng_no l hfl D (pg_ty cI cZ) (pg_wB cI cZ a u) s.heap.size x 0 10000000 c_4) (va_cwS 3 hts gX4_setPrice_X4_checkRange rfl rfl rfl (by decide +kernel) ⟨Nat.le_of_ble_eq_true rfl, Nat.le_of_ble_eq_true rfl⟩) hK hP hD hS hA hE rfl hl.1 rfl (Nat.le_of_ble_eq_true rfl) dX4_setPrice_4 ⟨Nat.le_of_ble_eq_true rfl, Nat.le_of_ble_eq_true rfl⟩) hD hS hA hout hlocks (Nat.le_of_ble_eq_true rfl) (Nat.le_of_ble_eq_true rfl)
set_option maxHeartbeats 4000000 in
set_option maxRecDepth 100000 in
/-- cc_setPart: returns -/
theorem cc_setPart_ok (l : Launch) (D : va_G) (cI cZ : ClassId) (a : Nat → Nat) (sz : Nat) (u : pg_St) (k x d : Int32) (hthr : pg_t_setPart (!pg_eq (u.1 3) (-1)) k x d = 0) : Met l yX4_setPart wsX4_setPart ({ frames := 1, cells := 0, slots := 0, locals := 22 }) (va_Pc [.ref (a 0), .int k, .int x, .int d] (pg_B D (pg_ty cI cZ) (pg_wB cI cZ a u) sz)) (va_Qv (fun u' => u' = (u.1, pg_row (pg_row u.2 0 (upd (u.2 0) k.toNatClampNeg x)) 1 (upd (u.2 1) k.toNatClampNeg d))) (pg_E D (pg_ty cI cZ) (va_A (pg_wB cI cZ a u) sz) (pg_wB cI cZ a)) (va_A (pg_wB cI cZ a u) sz)) 0 0 (va_A (pg_wB cI cZ a u) sz) := by
  refine Met.ofW (cc := cX4_setPart) (maxL := 4) (ret := none) (by decide) rfl ?_
  intro p e s m args below meth c s₁ B hml hv
  obtain ⟨rfl, hsz, hP, hK, hD0⟩ := hv
  have hx := B.exec
  have hb := B.bytes
  have hr := B.returns
  have hts := atoms_spec (ws := wsX4_setPart) B.pre
  have hown : s.vm.findClass RX4 = some m.cls := findClass_of_methodNamed B.named
  have hlocks := B.notSynchronized
  subst hsz
  have hD := hD0.self (sz := s.heap.size)
  generalize hAe : va_A (pg_wB cI cZ a u) s.heap.size = A at hD ⊢
  have hA : ∀ q : Nat, s.heap.size ≤ q → A q := fun q h => by rw [← hAe]; exact Or.inr h
  have hS : va_S A s.heap s.heap [] := va_S.rf
  have hl := lv_entry ([.ref (a 0), .int k, .int x, .int d]) (n := 4) (Nat.le_of_ble_eq_true rfl)
  rw [lg_entry_eq]
  generalize (lg_sl ([.ref (a 0), .int k, .int x, .int d]) ++ List.replicate (4 - (lg_sl ([.ref (a 0), .int k, .int x, .int d])).length) Slot.unset).toArray = ls at hl ⊢
  have hl : lv_has ls 4 [(0, .ref (a 0)), (1, .int k), (2, .int x), (3, .int d)] := hl
  have hiX2 : ∀ w ∈ wsX20, w ∈ wsX4_setPart := fun _ h => List.mem_cons_of_mem _ (List.mem_append_left _ (List.mem_append_left _ (List.mem_append_left _ (List.mem_append_right _ (h)))))
  have hiX4 : ∀ w ∈ wsX40, w ∈ wsX4_setPart := fun _ h => List.mem_cons_of_mem _ (List.mem_append_left _ (List.mem_append_left _ (List.mem_append_left _ (List.mem_append_left _ (List.mem_append_right _ (h))))))
  have hw1 := hts (.constant RX4 44 (10000000)) (List.mem_of_getElem? (i := 1) rfl)
  have hw2 := hts (.fieldLink RX4 10 "PegBox" "escrow" "LPegBox$Escrow;") (List.mem_of_getElem? (i := 2) rfl)
  have hw3 := hts (.fieldLink RX4 66 "PegBox$Escrow" "amounts" "[I") (List.mem_of_getElem? (i := 3) rfl)
  have hw4 := hts (.fieldLink RX4 70 "PegBox$Escrow" "days" "[I") (List.mem_of_getElem? (i := 4) rfl)
  refine lv_iload_n hx hb dX4_setPart_0 rfl (lv_at hl 1 rfl) ?_
  refine lv_iconst (v := 4) hx hb dX4_setPart_1 (by decide) ?_
  rcases Bool.eq_false_or_eq_true (pg_nb k 4) with c_2 | c_2
  · refine pg_vU (pg_rS (As := [.int k, .int 4]) (rest := []) ⟨hx, hb, hml, hown, hts⟩ (cc_num_ok l D (pg_ty cI cZ) (pg_wB cI cZ a u) s.heap.size k 4 c_2) (va_cwS 2 hts gX4_setPart_X4_checkNumber rfl rfl rfl (by decide +kernel) ⟨Nat.le_of_ble_eq_true rfl, Nat.le_of_ble_eq_true rfl⟩) hK hP hD rfl hl.1 rfl (Nat.le_of_ble_eq_true rfl) dX4_setPart_2 ⟨Nat.le_of_ble_eq_true rfl, Nat.le_of_ble_eq_true rfl⟩) hD hS hA (fun H locs hP hD hS => ?_)
    obtain ⟨j, hj, rfl⟩ := pg_nb_nI (n := 4) (by omega) c_2
    have hcl : (nI j).toNatClampNeg = j := nI_clamp (by omega)
    refine lv_iload_n hx hb dX4_setPart_5 rfl (lv_at hl 2 rfl) ?_
    refine lv_iconst (v := 0) hx hb dX4_setPart_6 (by decide) ?_
    refine lv_ldc hx hb hown hw1 dX4_setPart_7 ?_
    rcases Bool.eq_false_or_eq_true (pg_in x 0 10000000) with c_9 | c_9
    · refine pg_vU (pg_rS (As := [.int x, .int 0, .int 10000000]) (rest := []) ⟨hx, hb, hml, hown, hts⟩ (cc_rng_ok l D (pg_ty cI cZ) (pg_wB cI cZ a u) H.size x 0 10000000 c_9) (va_cwS 3 hts gX4_setPart_X4_checkRange rfl rfl rfl (by decide +kernel) ⟨Nat.le_of_ble_eq_true rfl, Nat.le_of_ble_eq_true rfl⟩) hK hP hD rfl hl.1 rfl (Nat.le_of_ble_eq_true rfl) dX4_setPart_9 ⟨Nat.le_of_ble_eq_true rfl, Nat.le_of_ble_eq_true rfl⟩) hD hS hA (fun H locs hP hD hS => ?_)
      refine lv_iload_n hx hb dX4_setPart_12 rfl (lv_at hl 3 rfl) ?_
      refine lv_iconst (v := 1) hx hb dX4_setPart_13 (by decide) ?_
      refine lv_sipush (v := 2000) hx hb dX4_setPart_14 (by decide) ?_
      rcases Bool.eq_false_or_eq_true (pg_in d 1 2000) with c_17 | c_17
      · refine pg_vU (pg_rS (As := [.int d, .int 1, .int 2000]) (rest := []) ⟨hx, hb, hml, hown, hts⟩ (cc_rng_ok l D (pg_ty cI cZ) (pg_wB cI cZ a u) H.size d 1 2000 c_17) (va_cwS 3 hts gX4_setPart_X4_checkRange rfl rfl rfl (by decide +kernel) ⟨Nat.le_of_ble_eq_true rfl, Nat.le_of_ble_eq_true rfl⟩) hK hP hD rfl hl.1 rfl (Nat.le_of_ble_eq_true rfl) dX4_setPart_17 ⟨Nat.le_of_ble_eq_true rfl, Nat.le_of_ble_eq_true rfl⟩) hD hS hA (fun H locs hP hD hS => ?_)
        refine lv_aload_n hx hb dX4_setPart_20 rfl (lv_at hl 0 rfl) ?_
        rcases Bool.eq_false_or_eq_true (pg_eq (u.1 3) (-1)) with c_21 | c_21
        · refine pg_vE (pg_rV (As := []) (rest := []) ⟨hx, hb, hml, hown, hts⟩ (cc_ncl_ok l D cI cZ a H.size u c_21) (cwV 0 hts gX4_setPart_X4_checkNotClosed rfl rfl rfl (by decide +kernel) ⟨Nat.le_of_ble_eq_true rfl, Nat.le_of_ble_eq_true rfl⟩) hK hP hD 0 (ci := 4) rfl rfl rfl rfl hl.1 rfl (Nat.le_of_ble_eq_true rfl) dX4_setPart_21 ⟨Nat.le_of_ble_eq_true rfl, Nat.le_of_ble_eq_true rfl⟩) hD hS hA (fun H locs hP hD hS => ?_)
          refine lv_aload_n hx hb dX4_setPart_24 rfl (lv_at hl 0 rfl) ?_
          refine va_get (D := D) (ci := 4) (v := .ref (a 1)) (C := RX4) (T := TX4) (N := 14) hx hb hts hiX4 hown hK hP 0 rfl rfl 0 (by decide) hw2 (fun _ h9 => h9) rfl dX4_setPart_25 ?_
          refine va_get (D := D) (ci := 2) (v := .ref (a 5)) (C := RX2) (T := TX2) (N := 2) hx hb hts hiX2 hown hK hP 1 rfl rfl 0 (by decide) hw3 (fun _ h9 => h9) rfl dX4_setPart_28 ?_
          refine lv_iload_n hx hb dX4_setPart_31 rfl (lv_at hl 1 rfl) ?_
          refine lv_iload_n hx hb dX4_setPart_32 rfl (lv_at hl 2 rfl) ?_
          refine pg_ist hx hb hK hP hD hS 5 0 rfl rfl (show j < _ by omega) (by decide) dX4_setPart_33 (fun H locs hP hD hS => ?_)
          have hP : va_P D vwCl (pg_wB cI cZ a (u.1, (pg_row u.2 0 (upd (u.2 0) j x)))) H := hP
          have hD : va_D A (pg_wB cI cZ a (u.1, (pg_row u.2 0 (upd (u.2 0) j x)))) := hD
          refine lv_aload_n hx hb dX4_setPart_34 rfl (lv_at hl 0 rfl) ?_
          refine va_get (D := D) (ci := 4) (v := .ref (a 1)) (C := RX4) (T := TX4) (N := 14) hx hb hts hiX4 hown hK hP 0 rfl rfl 0 (by decide) hw2 (fun _ h9 => h9) rfl dX4_setPart_35 ?_
          refine va_get (D := D) (ci := 2) (v := .ref (a 6)) (C := RX2) (T := TX2) (N := 2) hx hb hts hiX2 hown hK hP 1 rfl rfl 1 (by decide) hw4 (fun _ h9 => h9) rfl dX4_setPart_38 ?_
          refine lv_iload_n hx hb dX4_setPart_41 rfl (lv_at hl 1 rfl) ?_
          refine lv_iload_n hx hb dX4_setPart_42 rfl (lv_at hl 3 rfl) ?_
          refine pg_ist hx hb hK hP hD hS 6 0 rfl rfl (show j < _ by omega) (by decide) dX4_setPart_43 (fun H locs hP hD hS => ?_)
          have hP : va_P D vwCl (pg_wB cI cZ a (u.1, (pg_row (pg_row u.2 0 (upd (u.2 0) j x)) 1 (upd (u.2 1) j d)))) H := hP
          have hD : va_D A (pg_wB cI cZ a (u.1, (pg_row (pg_row u.2 0 (upd (u.2 0) j x)) 1 (upd (u.2 1) j d)))) := hD
          exact W.vret hx hb hr (fun t9 ht9 hW9 => ⟨⟨(u.1, (pg_row (pg_row u.2 0 (upd (u.2 0) j x)) 1 (upd (u.2 1) j d))), rfl, (by rw [hcl]), by rw [ht9]; exact hP, va_K.moved hW9.alike hK, hD⟩, hS.F ht9⟩) hS.2.2 dX4_setPart_44
        · exact absurd hthr (by first | (simp only [pg_t_setPart, c_2, hcl, c_9, c_17, c_21, cond_true, cond_false, Bool.not_true, Bool.not_false]; done) | (simp only [pg_t_setPart, c_2, hcl, c_9, c_17, c_21, cond_true, cond_false, Bool.not_true, Bool.not_false]; decide))
      · exact absurd hthr (by first | (simp only [pg_t_setPart, c_2, hcl, c_9, c_17, cond_true, cond_false, Bool.not_true, Bool.not_false]; done) | (simp only [pg_t_setPart, c_2, hcl, c_9, c_17, cond_true, cond_false, Bool.not_true, Bool.not_false]; decide))
    · exact absurd hthr (by first | (simp only [pg_t_setPart, c_2, hcl, c_9, cond_true, cond_false, Bool.not_true, Bool.not_false]; done) | (simp only [pg_t_setPart, c_2, hcl, c_9, cond_true, cond_false, Bool.not_true, Bool.not_false]; decide))
  · exact absurd hthr (by first | (simp only [pg_t_setPart, c_2, cond_true, cond_false, Bool.not_true, Bool.not_false]; done) | (simp only [pg_t_setPart, c_2, cond_true, cond_false, Bool.not_true, Bool.not_false]; decide))
set_option maxHeartbeats 4000000 in
set_option maxRecDepth 100000 in
/-- cc_setPart: throws -/
theorem cc_setPart_no (l : Launch) (hfl : l.stackTraces = false) (D : va_G) (cI cZ : ClassId) (a : Nat → Nat) (sz : Nat) (u : pg_St) (k x d : Int32) (e9 : Int32) (nm : String) (hthr : pg_t_setPart (!pg_eq (u.1 3) (-1)) k x d = e9) (h0 : e9 ≠ 0) (h9_1 : e9 = 1 → nm = pg_io) (h9_2 : e9 = 2 → nm = pg_ia) (h9_3 : e9 = 3 → nm = pg_is) : vx_Met l yX4_setPart wsX4_setPart ({ frames := 7, cells := 1, slots := 6, locals := 108 }) (va_Pc [.ref (a 0), .int k, .int x, .int d] (pg_T D (pg_ty cI cZ) (pg_wB cI cZ a u) sz)) pg_No (pg_X D (pg_wB cI cZ a u) (va_A (pg_wB cI cZ a u) sz) nm) 1 6 (va_A (pg_wB cI cZ a u) sz) := by
  refine vx_ofW (cc := cX4_setPart) (maxL := 4) (ret := none) (by decide) rfl ?_
  intro p e s m args below meth c s₁ B hml hout hv
  obtain ⟨rfl, ⟨hsz, hP, hK, hD0⟩, hE⟩ := hv
  have hx := B.exec
  have hb := B.bytes
  have hr := B.returns
  have hts := atoms_spec (ws := wsX4_setPart) B.pre
  have hown : s.vm.findClass RX4 = some m.cls := findClass_of_methodNamed B.named
  have hlocks := B.notSynchronized
  subst hsz
  have hD := hD0.self (sz := s.heap.size)
  generalize hAe : va_A (pg_wB cI cZ a u) s.heap.size = A at hD hE ⊢
  have hA : ∀ q : Nat, s.heap.size ≤ q → A q := fun q h => by rw [← hAe]; exact Or.inr h
  have hS : va_S A s.heap s.heap [] := va_S.rf
  have hl := lv_entry ([.ref (a 0), .int k, .int x, .int d]) (n := 4) (Nat.le_of_ble_eq_true rfl)
  rw [lg_entry_eq]
  generalize (lg_sl ([.ref (a 0), .int k, .int x, .int d]) ++ List.replicate (4 - (lg_sl ([.ref (a 0), .int k, .int x, .int d])).length) Slot.unset).toArray = ls at hl ⊢
  have hl : lv_has ls 4 [(0, .ref (a 0)), (1, .int k), (2, .int x), (3, .int d)] := hl
  have hw1 := hts (.constant RX4 44 (10000000)) (List.mem_of_getElem? (i := 1) rfl)
  refine lv_iload_n hx hb dX4_setPart_0 rfl (lv_at hl 1 rfl) ?_
  refine lv_iconst (v := 4) hx hb dX4_setPart_1 (by decide) ?_
  rcases Bool.eq_false_or_eq_true (pg_nb k 4) with c_2 | c_2
  · refine pg_vU (pg_rS (As := [.int k, .int 4]) (rest := []) ⟨hx, hb, hml, hown, hts⟩ (cc_num_ok l D (pg_ty cI cZ) (pg_wB cI cZ a u) s.heap.size k 4 c_2) (va_cwS 2 hts gX4_setPart_X4_checkNumber rfl rfl rfl (by decide +kernel) ⟨Nat.le_of_ble_eq_true rfl, Nat.le_of_ble_eq_true rfl⟩) hK hP hD rfl hl.1 rfl (Nat.le_of_ble_eq_true rfl) dX4_setPart_2 ⟨Nat.le_of_ble_eq_true rfl, Nat.le_of_ble_eq_true rfl⟩) hD hS hA (fun H locs hP hD hS => ?_)
    obtain ⟨j, hj, rfl⟩ := pg_nb_nI (n := 4) (by omega) c_2
    have hcl : (nI j).toNatClampNeg = j := nI_clamp (by omega)
    refine lv_iload_n hx hb dX4_setPart_5 rfl (lv_at hl 2 rfl) ?_
    refine lv_iconst (v := 0) hx hb dX4_setPart_6 (by decide) ?_
    refine lv_ldc hx hb hown hw1 dX4_setPart_7 ?_
    rcases Bool.eq_false_or_eq_true (pg_in x 0 10000000) with c_9 | c_9
    · refine pg_vU (pg_rS (As := [.int x, .int 0, .int 10000000]) (rest := []) ⟨hx, hb, hml, hown, hts⟩ (cc_rng_ok l D (pg_ty cI cZ) (pg_wB cI cZ a u) H.size x 0 10000000 c_9) (va_cwS 3 hts gX4_setPart_X4_checkRange rfl rfl rfl (by decide +kernel) ⟨Nat.le_of_ble_eq_true rfl, Nat.le_of_ble_eq_true rfl⟩) hK hP hD rfl hl.1 rfl (Nat.le_of_ble_eq_true rfl) dX4_setPart_9 ⟨Nat.le_of_ble_eq_true rfl, Nat.le_of_ble_eq_true rfl⟩) hD hS hA (fun H locs hP hD hS => ?_)
      refine lv_iload_n hx hb dX4_setPart_12 rfl (lv_at hl 3 rfl) ?_
      refine lv_iconst (v := 1) hx hb dX4_setPart_13 (by decide) ?_
      refine lv_sipush (v := 2000) hx hb dX4_setPart_14 (by decide) ?_
      rcases Bool.eq_false_or_eq_true (pg_in d 1 2000) with c_17 | c_17
      · refine pg_vU (pg_rS (As := [.int d, .int 1, .int 2000]) (rest := []) ⟨hx, hb, hml, hown, hts⟩ (cc_rng_ok l D (pg_ty cI cZ) (pg_wB cI cZ a u) H.size d 1 2000 c_17) (va_cwS 3 hts gX4_setPart_X4_checkRange rfl rfl rfl (by decide +kernel) ⟨Nat.le_of_ble_eq_true rfl, Nat.le_of_ble_eq_true rfl⟩) hK hP hD rfl hl.1 rfl (Nat.le_of_ble_eq_true rfl) dX4_setPart_17 ⟨Nat.le_of_ble_eq_true rfl, Nat.le_of_ble_eq_true rfl⟩) hD hS hA (fun H locs hP hD hS => ?_)
        refine lv_aload_n hx hb dX4_setPart_20 rfl (lv_at hl 0 rfl) ?_
        rcases Bool.eq_false_or_eq_true (pg_eq (u.1 3) (-1)) with c_21 | c_21
        · exact absurd (hthr.symm.trans (by simp only [pg_t_setPart, c_2, hcl, c_9, c_17, c_21, cond_true, cond_false, Bool.not_true, Bool.not_false])) h0
        · have he : e9 = 3 := hthr.symm.trans (by simp only [pg_t_setPart, c_2, hcl, c_9, c_17, c_21, cond_true, cond_false, Bool.not_true, Bool.not_false])
          obtain rfl := h9_3 he
          exact pg_thru (pg_xV (As := []) (rest := []) ⟨hx, hb, hml, hown, hts⟩ (cc_ncl_no l hfl D cI cZ a H.size u c_21) (cwV 0 hts gX4_setPart_X4_checkNotClosed rfl rfl rfl (by decide +kernel) ⟨Nat.le_of_ble_eq_true rfl, Nat.le_of_ble_eq_true rfl⟩) hK hP hD hS hA hE 0 (ci := 4) rfl rfl rfl rfl hl.1 rfl (Nat.le_of_ble_eq_true rfl) dX4_setPart_21 ⟨Nat.le_of_ble_eq_true rfl, Nat.le_of_ble_eq_true rfl⟩) hD hS hA hout hlocks (Nat.le_of_ble_eq_true rfl) (Nat.le_of_ble_eq_true rfl)
      · have he : e9 = 2 := hthr.symm.trans (by simp only [pg_t_setPart, c_2, hcl, c_9, c_17, cond_true, cond_false, Bool.not_true, Bool.not_false])
        obtain rfl := h9_2 he
        exact pg_thru (pg_xS (As := [.int d, .int 1, .int 2000]) (rest := []) ⟨hx, hb, hml, hown, hts⟩ (cc_rng_no l hfl D (pg_ty cI cZ) (pg_wB cI cZ a u) H.size d 1 2000 c_17) (va_cwS 3 hts gX4_setPart_X4_checkRange rfl rfl rfl (by decide +kernel) ⟨Nat.le_of_ble_eq_true rfl, Nat.le_of_ble_eq_true rfl⟩) hK hP hD hS hA hE rfl hl.1 rfl (Nat.le_of_ble_eq_true rfl) dX4_setPart_17 ⟨Nat.le_of_ble_eq_true rfl, Nat.le_of_ble_eq_true rfl⟩) hD hS hA hout hlocks (Nat.le_of_ble_eq_true rfl) (Nat.le_of_ble_eq_true rfl)
    · have he : e9 = 2 := hthr.symm.trans (by simp only [pg_t_setPart, c_2, hcl, c_9, cond_true, cond_false, Bool.not_true, Bool.not_false])
      obtain rfl := h9_2 he
      exact pg_thru (pg_xS (As := [.int x, .int 0, .int 10000000]) (rest := []) ⟨hx, hb, hml, hown, hts⟩ (cc_rng_no l hfl D (pg_ty cI cZ) (pg_wB cI cZ a u) H.size x 0 10000000 c_9) (va_cwS 3 hts gX4_setPart_X4_checkRange rfl rfl rfl (by decide +kernel) ⟨Nat.le_of_ble_eq_true rfl, Nat.le_of_ble_eq_true rfl⟩) hK hP hD hS hA hE rfl hl.1 rfl (Nat.le_of_ble_eq_true rfl) dX4_setPart_9 ⟨Nat.le_of_ble_eq_true rfl, Nat.le_of_ble_eq_true rfl⟩) hD hS hA hout hlocks (Nat.le_of_ble_eq_true rfl) (Nat.le_of_ble_eq_true rfl)
  · have he : e9 = 1 := hthr.symm.trans (by simp only [pg_t_setPart, c_2, cond_true, cond_false, Bool.not_true, Bool.not_false])
    obtain rfl := h9_1 he
    exact pg_thru (pg_xS (As := [.int k, .int 4]) (rest := []) ⟨hx, hb, hml, hown, hts⟩ (cc_num_no l hfl D (pg_ty cI cZ) (pg_wB cI cZ a u) s.heap.size k 4 c_2) (va_cwS 2 hts gX4_setPart_X4_checkNumber rfl rfl rfl (by decide +kernel) ⟨Nat.le_of_ble_eq_true rfl, Nat.le_of_ble_eq_true rfl⟩) hK hP hD hS hA hE rfl hl.1 rfl (Nat.le_of_ble_eq_true rfl) dX4_setPart_2 ⟨Nat.le_of_ble_eq_true rfl, Nat.le_of_ble_eq_true rfl⟩) hD hS hA hout hlocks (Nat.le_of_ble_eq_true rfl) (Nat.le_of_ble_eq_true rfl)
set_option maxHeartbeats 4000000 in
set_option maxRecDepth 100000 in
/-- cc_setKind: returns -/
theorem cc_setKind_ok (l : Launch) (D : va_G) (cI cZ : ClassId) (a : Nat → Nat) (sz : Nat) (u : pg_St) (k x y1 b z d : Int32) (hb9 : vp_nar .boolean b = b) (hthr : pg_t_setKind (!pg_eq (u.1 3) (-1)) k x y1 z d = 0) : Met l yX4_setKind wsX4_setKind ({ frames := 1, cells := 0, slots := 0, locals := 22 }) (va_Pc [.ref (a 0), .int k, .int x, .int y1, .int b, .int z, .int d] (pg_B D (pg_ty cI cZ) (pg_wB cI cZ a u) sz)) (va_Qv (fun u' => u' = (u.1, pg_row (pg_row (pg_row (pg_row (pg_row u.2 2 (upd (u.2 2) k.toNatClampNeg x)) 3 (upd (u.2 3) k.toNatClampNeg y1)) 4 (upd (u.2 4) k.toNatClampNeg b)) 5 (upd (u.2 5) k.toNatClampNeg z)) 6 (upd (u.2 6) k.toNatClampNeg d))) (pg_E D (pg_ty cI cZ) (va_A (pg_wB cI cZ a u) sz) (pg_wB cI cZ a)) (va_A (pg_wB cI cZ a u) sz)) 0 0 (va_A (pg_wB cI cZ a u) sz) := by
  refine Met.ofW (cc := cX4_setKind) (maxL := 7) (ret := none) (by decide) rfl ?_
  intro p e s m args below meth c s₁ B hml hv
  obtain ⟨rfl, hsz, hP, hK, hD0⟩ := hv
  have hx := B.exec
  have hb := B.bytes
  have hr := B.returns
  have hts := atoms_spec (ws := wsX4_setKind) B.pre
  have hown : s.vm.findClass RX4 = some m.cls := findClass_of_methodNamed B.named
  have hlocks := B.notSynchronized
  subst hsz
  have hD := hD0.self (sz := s.heap.size)
  generalize hAe : va_A (pg_wB cI cZ a u) s.heap.size = A at hD ⊢
  have hA : ∀ q : Nat, s.heap.size ≤ q → A q := fun q h => by rw [← hAe]; exact Or.inr h
  have hS : va_S A s.heap s.heap [] := va_S.rf
  have hl := lv_entry ([.ref (a 0), .int k, .int x, .int y1, .int b, .int z, .int d]) (n := 7) (Nat.le_of_ble_eq_true rfl)
  rw [lg_entry_eq]
  generalize (lg_sl ([.ref (a 0), .int k, .int x, .int y1, .int b, .int z, .int d]) ++ List.replicate (7 - (lg_sl ([.ref (a 0), .int k, .int x, .int y1, .int b, .int z, .int d])).length) Slot.unset).toArray = ls at hl ⊢
  have hl : lv_has ls 7 [(0, .ref (a 0)), (1, .int k), (2, .int x), (3, .int y1), (4, .int b), (5, .int z), (6, .int d)] := hl
  have hiX3 : ∀ w ∈ wsX30, w ∈ wsX4_setKind := fun _ h => List.mem_cons_of_mem _ (List.mem_append_left _ (List.mem_append_left _ (List.mem_append_left _ (List.mem_append_right _ (h)))))
  have hiX4 : ∀ w ∈ wsX40, w ∈ wsX4_setKind := fun _ h => List.mem_cons_of_mem _ (List.mem_append_left _ (List.mem_append_left _ (List.mem_append_left _ (List.mem_append_left _ (List.mem_append_right _ (h))))))
  have hw1 := hts (.constant RX4 44 (10000000)) (List.mem_of_getElem? (i := 1) rfl)
  have hw2 := hts (.constant RX4 73 (100000000)) (List.mem_of_getElem? (i := 2) rfl)
  have hw3 := hts (.fieldLink RX4 19 "PegBox" "kinds" "LPegBox$Kinds;") (List.mem_of_getElem? (i := 3) rfl)
  have hw4 := hts (.fieldLink RX4 74 "PegBox$Kinds" "leasts" "[I") (List.mem_of_getElem? (i := 4) rfl)
  have hw5 := hts (.fieldLink RX4 77 "PegBox$Kinds" "baskets" "[I") (List.mem_of_getElem? (i := 5) rfl)
  have hw6 := hts (.fieldLink RX4 80 "PegBox$Kinds" "wholes" "[Z") (List.mem_of_getElem? (i := 6) rfl)
  have hw7 := hts (.fieldLink RX4 84 "PegBox$Kinds" "caps" "[I") (List.mem_of_getElem? (i := 7) rfl)
  have hw8 := hts (.fieldLink RX4 87 "PegBox$Kinds" "lastDays" "[I") (List.mem_of_getElem? (i := 8) rfl)
  refine lv_iload_n hx hb dX4_setKind_0 rfl (lv_at hl 1 rfl) ?_
  refine lv_iconst (v := 3) hx hb dX4_setKind_1 (by decide) ?_
  rcases Bool.eq_false_or_eq_true (pg_nb k 3) with c_2 | c_2
  · refine pg_vU (pg_rS (As := [.int k, .int 3]) (rest := []) ⟨hx, hb, hml, hown, hts⟩ (cc_num_ok l D (pg_ty cI cZ) (pg_wB cI cZ a u) s.heap.size k 3 c_2) (va_cwS 2 hts gX4_setKind_X4_checkNumber rfl rfl rfl (by decide +kernel) ⟨Nat.le_of_ble_eq_true rfl, Nat.le_of_ble_eq_true rfl⟩) hK hP hD rfl hl.1 rfl (Nat.le_of_ble_eq_true rfl) dX4_setKind_2 ⟨Nat.le_of_ble_eq_true rfl, Nat.le_of_ble_eq_true rfl⟩) hD hS hA (fun H locs hP hD hS => ?_)
    obtain ⟨j, hj, rfl⟩ := pg_nb_nI (n := 3) (by omega) c_2
    have hcl : (nI j).toNatClampNeg = j := nI_clamp (by omega)
    refine lv_iload_n hx hb dX4_setKind_5 rfl (lv_at hl 2 rfl) ?_
    refine lv_iconst (v := 0) hx hb dX4_setKind_6 (by decide) ?_
    refine lv_ldc hx hb hown hw1 dX4_setKind_7 ?_
    rcases Bool.eq_false_or_eq_true (pg_in x 0 10000000) with c_9 | c_9
    · refine pg_vU (pg_rS (As := [.int x, .int 0, .int 10000000]) (rest := []) ⟨hx, hb, hml, hown, hts⟩ (cc_rng_ok l D (pg_ty cI cZ) (pg_wB cI cZ a u) H.size x 0 10000000 c_9) (va_cwS 3 hts gX4_setKind_X4_checkRange rfl rfl rfl (by decide +kernel) ⟨Nat.le_of_ble_eq_true rfl, Nat.le_of_ble_eq_true rfl⟩) hK hP hD rfl hl.1 rfl (Nat.le_of_ble_eq_true rfl) dX4_setKind_9 ⟨Nat.le_of_ble_eq_true rfl, Nat.le_of_ble_eq_true rfl⟩) hD hS hA (fun H locs hP hD hS => ?_)
      refine lv_iload_n hx hb dX4_setKind_12 rfl (lv_at hl 3 rfl) ?_
      refine lv_iconst (v := 0) hx hb dX4_setKind_13 (by decide) ?_
      refine lv_ldc hx hb hown hw1 dX4_setKind_14 ?_
      rcases Bool.eq_false_or_eq_true (pg_in y1 0 10000000) with c_16 | c_16
      · refine pg_vU (pg_rS (As := [.int y1, .int 0, .int 10000000]) (rest := []) ⟨hx, hb, hml, hown, hts⟩ (cc_rng_ok l D (pg_ty cI cZ) (pg_wB cI cZ a u) H.size y1 0 10000000 c_16) (va_cwS 3 hts gX4_setKind_X4_checkRange rfl rfl rfl (by decide +kernel) ⟨Nat.le_of_ble_eq_true rfl, Nat.le_of_ble_eq_true rfl⟩) hK hP hD rfl hl.1 rfl (Nat.le_of_ble_eq_true rfl) dX4_setKind_16 ⟨Nat.le_of_ble_eq_true rfl, Nat.le_of_ble_eq_true rfl⟩) hD hS hA (fun H locs hP hD hS => ?_)
        refine lv_iload hx hb dX4_setKind_19 (lv_at hl 5 rfl) ?_
        refine lv_iconst (v := 0) hx hb dX4_setKind_21 (by decide) ?_
        refine lv_ldc hx hb hown hw2 dX4_setKind_22 ?_
        rcases Bool.eq_false_or_eq_true (pg_in z 0 100000000) with c_24 | c_24
        · refine pg_vU (pg_rS (As := [.int z, .int 0, .int 100000000]) (rest := []) ⟨hx, hb, hml, hown, hts⟩ (cc_rng_ok l D (pg_ty cI cZ) (pg_wB cI cZ a u) H.size z 0 100000000 c_24) (va_cwS 3 hts gX4_setKind_X4_checkRange rfl rfl rfl (by decide +kernel) ⟨Nat.le_of_ble_eq_true rfl, Nat.le_of_ble_eq_true rfl⟩) hK hP hD rfl hl.1 rfl (Nat.le_of_ble_eq_true rfl) dX4_setKind_24 ⟨Nat.le_of_ble_eq_true rfl, Nat.le_of_ble_eq_true rfl⟩) hD hS hA (fun H locs hP hD hS => ?_)
          refine lv_iload hx hb dX4_setKind_27 (lv_at hl 6 rfl) ?_
          refine lv_iconst (v := 0) hx hb dX4_setKind_29 (by decide) ?_
          refine lv_sipush (v := 2000) hx hb dX4_setKind_30 (by decide) ?_
          rcases Bool.eq_false_or_eq_true (pg_in d 0 2000) with c_33 | c_33
          · refine pg_vU (pg_rS (As := [.int d, .int 0, .int 2000]) (rest := []) ⟨hx, hb, hml, hown, hts⟩ (cc_rng_ok l D (pg_ty cI cZ) (pg_wB cI cZ a u) H.size d 0 2000 c_33) (va_cwS 3 hts gX4_setKind_X4_checkRange rfl rfl rfl (by decide +kernel) ⟨Nat.le_of_ble_eq_true rfl, Nat.le_of_ble_eq_true rfl⟩) hK hP hD rfl hl.1 rfl (Nat.le_of_ble_eq_true rfl) dX4_setKind_33 ⟨Nat.le_of_ble_eq_true rfl, Nat.le_of_ble_eq_true rfl⟩) hD hS hA (fun H locs hP hD hS => ?_)
            refine lv_aload_n hx hb dX4_setKind_36 rfl (lv_at hl 0 rfl) ?_
            rcases Bool.eq_false_or_eq_true (pg_eq (u.1 3) (-1)) with c_37 | c_37
            · refine pg_vE (pg_rV (As := []) (rest := []) ⟨hx, hb, hml, hown, hts⟩ (cc_ncl_ok l D cI cZ a H.size u c_37) (cwV 0 hts gX4_setKind_X4_checkNotClosed rfl rfl rfl (by decide +kernel) ⟨Nat.le_of_ble_eq_true rfl, Nat.le_of_ble_eq_true rfl⟩) hK hP hD 0 (ci := 4) rfl rfl rfl rfl hl.1 rfl (Nat.le_of_ble_eq_true rfl) dX4_setKind_37 ⟨Nat.le_of_ble_eq_true rfl, Nat.le_of_ble_eq_true rfl⟩) hD hS hA (fun H locs hP hD hS => ?_)
              refine lv_aload_n hx hb dX4_setKind_40 rfl (lv_at hl 0 rfl) ?_
              refine va_get (D := D) (ci := 4) (v := .ref (a 2)) (C := RX4) (T := TX4) (N := 14) hx hb hts hiX4 hown hK hP 0 rfl rfl 1 (by decide) hw3 (fun _ h9 => h9) rfl dX4_setKind_41 ?_
              refine va_get (D := D) (ci := 3) (v := .ref (a 7)) (C := RX3) (T := TX3) (N := 5) hx hb hts hiX3 hown hK hP 2 rfl rfl 0 (by decide) hw4 (fun _ h9 => h9) rfl dX4_setKind_44 ?_
              refine lv_iload_n hx hb dX4_setKind_47 rfl (lv_at hl 1 rfl) ?_
              refine lv_iload_n hx hb dX4_setKind_48 rfl (lv_at hl 2 rfl) ?_
              refine pg_ist hx hb hK hP hD hS 7 0 rfl rfl (show j < _ by omega) (by decide) dX4_setKind_49 (fun H locs hP hD hS => ?_)
              have hP : va_P D vwCl (pg_wB cI cZ a (u.1, (pg_row u.2 2 (upd (u.2 2) j x)))) H := hP
              have hD : va_D A (pg_wB cI cZ a (u.1, (pg_row u.2 2 (upd (u.2 2) j x)))) := hD
              refine lv_aload_n hx hb dX4_setKind_50 rfl (lv_at hl 0 rfl) ?_
              refine va_get (D := D) (ci := 4) (v := .ref (a 2)) (C := RX4) (T := TX4) (N := 14) hx hb hts hiX4 hown hK hP 0 rfl rfl 1 (by decide) hw3 (fun _ h9 => h9) rfl dX4_setKind_51 ?_
              refine va_get (D := D) (ci := 3) (v := .ref (a 8)) (C := RX3) (T := TX3) (N := 5) hx hb hts hiX3 hown hK hP 2 rfl rfl 1 (by decide) hw5 (fun _ h9 => h9) rfl dX4_setKind_54 ?_
              refine lv_iload_n hx hb dX4_setKind_57 rfl (lv_at hl 1 rfl) ?_
              refine lv_iload_n hx hb dX4_setKind_58 rfl (lv_at hl 3 rfl) ?_
              refine pg_ist hx hb hK hP hD hS 8 0 rfl rfl (show j < _ by omega) (by decide) dX4_setKind_59 (fun H locs hP hD hS => ?_)
              have hP : va_P D vwCl (pg_wB cI cZ a (u.1, (pg_row (pg_row u.2 2 (upd (u.2 2) j x)) 3 (upd (u.2 3) j y1)))) H := hP
              have hD : va_D A (pg_wB cI cZ a (u.1, (pg_row (pg_row u.2 2 (upd (u.2 2) j x)) 3 (upd (u.2 3) j y1)))) := hD
              refine lv_aload_n hx hb dX4_setKind_60 rfl (lv_at hl 0 rfl) ?_
              refine va_get (D := D) (ci := 4) (v := .ref (a 2)) (C := RX4) (T := TX4) (N := 14) hx hb hts hiX4 hown hK hP 0 rfl rfl 1 (by decide) hw3 (fun _ h9 => h9) rfl dX4_setKind_61 ?_
              refine va_get (D := D) (ci := 3) (v := .ref (a 9)) (C := RX3) (T := TX3) (N := 5) hx hb hts hiX3 hown hK hP 2 rfl rfl 2 (by decide) hw6 (fun _ h9 => h9) rfl dX4_setKind_64 ?_
              refine lv_iload_n hx hb dX4_setKind_67 rfl (lv_at hl 1 rfl) ?_
              refine lv_iload hx hb dX4_setKind_68 (lv_at hl 4 rfl) ?_
              refine pg_zst hx hb hK hP hD hS 9 1 rfl rfl (show j < _ by omega) (by decide) hb9 dX4_setKind_70 (fun H locs hP hD hS => ?_)
              have hP : va_P D vwCl (pg_wB cI cZ a (u.1, (pg_row (pg_row (pg_row u.2 2 (upd (u.2 2) j x)) 3 (upd (u.2 3) j y1)) 4 (upd (u.2 4) j b)))) H := hP
              have hD : va_D A (pg_wB cI cZ a (u.1, (pg_row (pg_row (pg_row u.2 2 (upd (u.2 2) j x)) 3 (upd (u.2 3) j y1)) 4 (upd (u.2 4) j b)))) := hD
              refine lv_aload_n hx hb dX4_setKind_71 rfl (lv_at hl 0 rfl) ?_
              refine va_get (D := D) (ci := 4) (v := .ref (a 2)) (C := RX4) (T := TX4) (N := 14) hx hb hts hiX4 hown hK hP 0 rfl rfl 1 (by decide) hw3 (fun _ h9 => h9) rfl dX4_setKind_72 ?_
              refine va_get (D := D) (ci := 3) (v := .ref (a 10)) (C := RX3) (T := TX3) (N := 5) hx hb hts hiX3 hown hK hP 2 rfl rfl 3 (by decide) hw7 (fun _ h9 => h9) rfl dX4_setKind_75 ?_
              refine lv_iload_n hx hb dX4_setKind_78 rfl (lv_at hl 1 rfl) ?_
              refine lv_iload hx hb dX4_setKind_79 (lv_at hl 5 rfl) ?_
              refine pg_ist hx hb hK hP hD hS 10 0 rfl rfl (show j < _ by omega) (by decide) dX4_setKind_81 (fun H locs hP hD hS => ?_)
              have hP : va_P D vwCl (pg_wB cI cZ a (u.1, (pg_row (pg_row (pg_row (pg_row u.2 2 (upd (u.2 2) j x)) 3 (upd (u.2 3) j y1)) 4 (upd (u.2 4) j b)) 5 (upd (u.2 5) j z)))) H := hP
              have hD : va_D A (pg_wB cI cZ a (u.1, (pg_row (pg_row (pg_row (pg_row u.2 2 (upd (u.2 2) j x)) 3 (upd (u.2 3) j y1)) 4 (upd (u.2 4) j b)) 5 (upd (u.2 5) j z)))) := hD
              refine lv_aload_n hx hb dX4_setKind_82 rfl (lv_at hl 0 rfl) ?_
              refine va_get (D := D) (ci := 4) (v := .ref (a 2)) (C := RX4) (T := TX4) (N := 14) hx hb hts hiX4 hown hK hP 0 rfl rfl 1 (by decide) hw3 (fun _ h9 => h9) rfl dX4_setKind_83 ?_
              refine va_get (D := D) (ci := 3) (v := .ref (a 11)) (C := RX3) (T := TX3) (N := 5) hx hb hts hiX3 hown hK hP 2 rfl rfl 4 (by decide) hw8 (fun _ h9 => h9) rfl dX4_setKind_86 ?_
              refine lv_iload_n hx hb dX4_setKind_89 rfl (lv_at hl 1 rfl) ?_
              refine lv_iload hx hb dX4_setKind_90 (lv_at hl 6 rfl) ?_
              refine pg_ist hx hb hK hP hD hS 11 0 rfl rfl (show j < _ by omega) (by decide) dX4_setKind_92 (fun H locs hP hD hS => ?_)
              have hP : va_P D vwCl (pg_wB cI cZ a (u.1, (pg_row (pg_row (pg_row (pg_row (pg_row u.2 2 (upd (u.2 2) j x)) 3 (upd (u.2 3) j y1)) 4 (upd (u.2 4) j b)) 5 (upd (u.2 5) j z)) 6 (upd (u.2 6) j d)))) H := hP
              have hD : va_D A (pg_wB cI cZ a (u.1, (pg_row (pg_row (pg_row (pg_row (pg_row u.2 2 (upd (u.2 2) j x)) 3 (upd (u.2 3) j y1)) 4 (upd (u.2 4) j b)) 5 (upd (u.2 5) j z)) 6 (upd (u.2 6) j d)))) := hD
              exact W.vret hx hb hr (fun t9 ht9 hW9 => ⟨⟨(u.1, (pg_row (pg_row (pg_row (pg_row (pg_row u.2 2 (upd (u.2 2) j x)) 3 (upd (u.2 3) j y1)) 4 (upd (u.2 4) j b)) 5 (upd (u.2 5) j z)) 6 (upd (u.2 6) j d))), rfl, (by rw [hcl]), by rw [ht9]; exact hP, va_K.moved hW9.alike hK, hD⟩, hS.F ht9⟩) hS.2.2 dX4_setKind_93
            · exact absurd hthr (by first | (simp only [pg_t_setKind, c_2, hcl, c_9, c_16, c_24, c_33, c_37, cond_true, cond_false, Bool.not_true, Bool.not_false]; done) | (simp only [pg_t_setKind, c_2, hcl, c_9, c_16, c_24, c_33, c_37, cond_true, cond_false, Bool.not_true, Bool.not_false]; decide))
          · exact absurd hthr (by first | (simp only [pg_t_setKind, c_2, hcl, c_9, c_16, c_24, c_33, cond_true, cond_false, Bool.not_true, Bool.not_false]; done) | (simp only [pg_t_setKind, c_2, hcl, c_9, c_16, c_24, c_33, cond_true, cond_false, Bool.not_true, Bool.not_false]; decide))
        · exact absurd hthr (by first | (simp only [pg_t_setKind, c_2, hcl, c_9, c_16, c_24, cond_true, cond_false, Bool.not_true, Bool.not_false]; done) | (simp only [pg_t_setKind, c_2, hcl, c_9, c_16, c_24, cond_true, cond_false, Bool.not_true, Bool.not_false]; decide))
      · exact absurd hthr (by first | (simp only [pg_t_setKind, c_2, hcl, c_9, c_16, cond_true, cond_false, Bool.not_true, Bool.not_false]; done) | (simp only [pg_t_setKind, c_2, hcl, c_9, c_16, cond_true, cond_false, Bool.not_true, Bool.not_false]; decide))
    · exact absurd hthr (by first | (simp only [pg_t_setKind, c_2, hcl, c_9, cond_true, cond_false, Bool.not_true, Bool.not_false]; done) | (simp only [pg_t_setKind, c_2, hcl, c_9, cond_true, cond_false, Bool.not_true, Bool.not_false]; decide))
  · exact absurd hthr (by first | (simp only [pg_t_setKind, c_2, cond_true, cond_false, Bool.not_true, Bool.not_false]; done) | (simp only [pg_t_setKind, c_2, cond_true, cond_false, Bool.not_true, Bool.not_false]; decide))
set_option maxHeartbeats 4000000 in
set_option maxRecDepth 100000 in
/-- cc_setKind: throws -/
theorem cc_setKind_no (l : Launch) (hfl : l.stackTraces = false) (D : va_G) (cI cZ : ClassId) (a : Nat → Nat) (sz : Nat) (u : pg_St) (k x y1 b z d : Int32) (hb9 : vp_nar .boolean b = b) (e9 : Int32) (nm : String) (hthr : pg_t_setKind (!pg_eq (u.1 3) (-1)) k x y1 z d = e9) (h0 : e9 ≠ 0) (h9_1 : e9 = 1 → nm = pg_io) (h9_2 : e9 = 2 → nm = pg_ia) (h9_3 : e9 = 3 → nm = pg_is) : vx_Met l yX4_setKind wsX4_setKind ({ frames := 7, cells := 1, slots := 6, locals := 108 }) (va_Pc [.ref (a 0), .int k, .int x, .int y1, .int b, .int z, .int d] (pg_T D (pg_ty cI cZ) (pg_wB cI cZ a u) sz)) pg_No (pg_X D (pg_wB cI cZ a u) (va_A (pg_wB cI cZ a u) sz) nm) 1 6 (va_A (pg_wB cI cZ a u) sz) := by
  refine vx_ofW (cc := cX4_setKind) (maxL := 7) (ret := none) (by decide) rfl ?_
  intro p e s m args below meth c s₁ B hml hout hv
  obtain ⟨rfl, ⟨hsz, hP, hK, hD0⟩, hE⟩ := hv
  have hx := B.exec
  have hb := B.bytes
  have hr := B.returns
  have hts := atoms_spec (ws := wsX4_setKind) B.pre
  have hown : s.vm.findClass RX4 = some m.cls := findClass_of_methodNamed B.named
  have hlocks := B.notSynchronized
  subst hsz
  have hD := hD0.self (sz := s.heap.size)
  generalize hAe : va_A (pg_wB cI cZ a u) s.heap.size = A at hD hE ⊢
  have hA : ∀ q : Nat, s.heap.size ≤ q → A q := fun q h => by rw [← hAe]; exact Or.inr h
  have hS : va_S A s.heap s.heap [] := va_S.rf
  have hl := lv_entry ([.ref (a 0), .int k, .int x, .int y1, .int b, .int z, .int d]) (n := 7) (Nat.le_of_ble_eq_true rfl)
  rw [lg_entry_eq]
  generalize (lg_sl ([.ref (a 0), .int k, .int x, .int y1, .int b, .int z, .int d]) ++ List.replicate (7 - (lg_sl ([.ref (a 0), .int k, .int x, .int y1, .int b, .int z, .int d])).length) Slot.unset).toArray = ls at hl ⊢
  have hl : lv_has ls 7 [(0, .ref (a 0)), (1, .int k), (2, .int x), (3, .int y1), (4, .int b), (5, .int z), (6, .int d)] := hl
  have hw1 := hts (.constant RX4 44 (10000000)) (List.mem_of_getElem? (i := 1) rfl)
  have hw2 := hts (.constant RX4 73 (100000000)) (List.mem_of_getElem? (i := 2) rfl)
  refine lv_iload_n hx hb dX4_setKind_0 rfl (lv_at hl 1 rfl) ?_
  refine lv_iconst (v := 3) hx hb dX4_setKind_1 (by decide) ?_
  rcases Bool.eq_false_or_eq_true (pg_nb k 3) with c_2 | c_2
  · refine pg_vU (pg_rS (As := [.int k, .int 3]) (rest := []) ⟨hx, hb, hml, hown, hts⟩ (cc_num_ok l D (pg_ty cI cZ) (pg_wB cI cZ a u) s.heap.size k 3 c_2) (va_cwS 2 hts gX4_setKind_X4_checkNumber rfl rfl rfl (by decide +kernel) ⟨Nat.le_of_ble_eq_true rfl, Nat.le_of_ble_eq_true rfl⟩) hK hP hD rfl hl.1 rfl (Nat.le_of_ble_eq_true rfl) dX4_setKind_2 ⟨Nat.le_of_ble_eq_true rfl, Nat.le_of_ble_eq_true rfl⟩) hD hS hA (fun H locs hP hD hS => ?_)
    obtain ⟨j, hj, rfl⟩ := pg_nb_nI (n := 3) (by omega) c_2
    have hcl : (nI j).toNatClampNeg = j := nI_clamp (by omega)
    refine lv_iload_n hx hb dX4_setKind_5 rfl (lv_at hl 2 rfl) ?_
    refine lv_iconst (v := 0) hx hb dX4_setKind_6 (by decide) ?_
    refine lv_ldc hx hb hown hw1 dX4_setKind_7 ?_
    rcases Bool.eq_false_or_eq_true (pg_in x 0 10000000) with c_9 | c_9
    · refine pg_vU (pg_rS (As := [.int x, .int 0, .int 10000000]) (rest := []) ⟨hx, hb, hml, hown, hts⟩ (cc_rng_ok l D (pg_ty cI cZ) (pg_wB cI cZ a u) H.size x 0 10000000 c_9) (va_cwS 3 hts gX4_setKind_X4_checkRange rfl rfl rfl (by decide +kernel) ⟨Nat.le_of_ble_eq_true rfl, Nat.le_of_ble_eq_true rfl⟩) hK hP hD rfl hl.1 rfl (Nat.le_of_ble_eq_true rfl) dX4_setKind_9 ⟨Nat.le_of_ble_eq_true rfl, Nat.le_of_ble_eq_true rfl⟩) hD hS hA (fun H locs hP hD hS => ?_)
      refine lv_iload_n hx hb dX4_setKind_12 rfl (lv_at hl 3 rfl) ?_
      refine lv_iconst (v := 0) hx hb dX4_setKind_13 (by decide) ?_
      refine lv_ldc hx hb hown hw1 dX4_setKind_14 ?_
      rcases Bool.eq_false_or_eq_true (pg_in y1 0 10000000) with c_16 | c_16
      · refine pg_vU (pg_rS (As := [.int y1, .int 0, .int 10000000]) (rest := []) ⟨hx, hb, hml, hown, hts⟩ (cc_rng_ok l D (pg_ty cI cZ) (pg_wB cI cZ a u) H.size y1 0 10000000 c_16) (va_cwS 3 hts gX4_setKind_X4_checkRange rfl rfl rfl (by decide +kernel) ⟨Nat.le_of_ble_eq_true rfl, Nat.le_of_ble_eq_true rfl⟩) hK hP hD rfl hl.1 rfl (Nat.le_of_ble_eq_true rfl) dX4_setKind_16 ⟨Nat.le_of_ble_eq_true rfl, Nat.le_of_ble_eq_true rfl⟩) hD hS hA (fun H locs hP hD hS => ?_)
        refine lv_iload hx hb dX4_setKind_19 (lv_at hl 5 rfl) ?_
        refine lv_iconst (v := 0) hx hb dX4_setKind_21 (by decide) ?_
        refine lv_ldc hx hb hown hw2 dX4_setKind_22 ?_
        rcases Bool.eq_false_or_eq_true (pg_in z 0 100000000) with c_24 | c_24
        · refine pg_vU (pg_rS (As := [.int z, .int 0, .int 100000000]) (rest := []) ⟨hx, hb, hml, hown, hts⟩ (cc_rng_ok l D (pg_ty cI cZ) (pg_wB cI cZ a u) H.size z 0 100000000 c_24) (va_cwS 3 hts gX4_setKind_X4_checkRange rfl rfl rfl (by decide +kernel) ⟨Nat.le_of_ble_eq_true rfl, Nat.le_of_ble_eq_true rfl⟩) hK hP hD rfl hl.1 rfl (Nat.le_of_ble_eq_true rfl) dX4_setKind_24 ⟨Nat.le_of_ble_eq_true rfl, Nat.le_of_ble_eq_true rfl⟩) hD hS hA (fun H locs hP hD hS => ?_)
          refine lv_iload hx hb dX4_setKind_27 (lv_at hl 6 rfl) ?_
          refine lv_iconst (v := 0) hx hb dX4_setKind_29 (by decide) ?_
          refine lv_sipush (v := 2000) hx hb dX4_setKind_30 (by decide) ?_
          rcases Bool.eq_false_or_eq_true (pg_in d 0 2000) with c_33 | c_33
          · refine pg_vU (pg_rS (As := [.int d, .int 0, .int 2000]) (rest := []) ⟨hx, hb, hml, hown, hts⟩ (cc_rng_ok l D (pg_ty cI cZ) (pg_wB cI cZ a u) H.size d 0 2000 c_33) (va_cwS 3 hts gX4_setKind_X4_checkRange rfl rfl rfl (by decide +kernel) ⟨Nat.le_of_ble_eq_true rfl, Nat.le_of_ble_eq_true rfl⟩) hK hP hD rfl hl.1 rfl (Nat.le_of_ble_eq_true rfl) dX4_setKind_33 ⟨Nat.le_of_ble_eq_true rfl, Nat.le_of_ble_eq_true rfl⟩) hD hS hA (fun H locs hP hD hS => ?_)
            refine lv_aload_n hx hb dX4_setKind_36 rfl (lv_at hl 0 rfl) ?_
            rcases Bool.eq_false_or_eq_true (pg_eq (u.1 3) (-1)) with c_37 | c_37
            · exact absurd (hthr.symm.trans (by simp only [pg_t_setKind, c_2, hcl, c_9, c_16, c_24, c_33, c_37, cond_true, cond_false, Bool.not_true, Bool.not_false])) h0
            · have he : e9 = 3 := hthr.symm.trans (by simp only [pg_t_setKind, c_2, hcl, c_9, c_16, c_24, c_33, c_37, cond_true, cond_false, Bool.not_true, Bool.not_false])
              obtain rfl := h9_3 he
              exact pg_thru (pg_xV (As := []) (rest := []) ⟨hx, hb, hml, hown, hts⟩ (cc_ncl_no l hfl D cI cZ a H.size u c_37) (cwV 0 hts gX4_setKind_X4_checkNotClosed rfl rfl rfl (by decide +kernel) ⟨Nat.le_of_ble_eq_true rfl, Nat.le_of_ble_eq_true rfl⟩) hK hP hD hS hA hE 0 (ci := 4) rfl rfl rfl rfl hl.1 rfl (Nat.le_of_ble_eq_true rfl) dX4_setKind_37 ⟨Nat.le_of_ble_eq_true rfl, Nat.le_of_ble_eq_true rfl⟩) hD hS hA hout hlocks (Nat.le_of_ble_eq_true rfl) (Nat.le_of_ble_eq_true rfl)
          · have he : e9 = 2 := hthr.symm.trans (by simp only [pg_t_setKind, c_2, hcl, c_9, c_16, c_24, c_33, cond_true, cond_false, Bool.not_true, Bool.not_false])
            obtain rfl := h9_2 he
            exact pg_thru (pg_xS (As := [.int d, .int 0, .int 2000]) (rest := []) ⟨hx, hb, hml, hown, hts⟩ (cc_rng_no l hfl D (pg_ty cI cZ) (pg_wB cI cZ a u) H.size d 0 2000 c_33) (va_cwS 3 hts gX4_setKind_X4_checkRange rfl rfl rfl (by decide +kernel) ⟨Nat.le_of_ble_eq_true rfl, Nat.le_of_ble_eq_true rfl⟩) hK hP hD hS hA hE rfl hl.1 rfl (Nat.le_of_ble_eq_true rfl) dX4_setKind_33 ⟨Nat.le_of_ble_eq_true rfl, Nat.le_of_ble_eq_true rfl⟩) hD hS hA hout hlocks (Nat.le_of_ble_eq_true rfl) (Nat.le_of_ble_eq_true rfl)
        · have he : e9 = 2 := hthr.symm.trans (by simp only [pg_t_setKind, c_2, hcl, c_9, c_16, c_24, cond_true, cond_false, Bool.not_true, Bool.not_false])
          obtain rfl := h9_2 he
          exact pg_thru (pg_xS (As := [.int z, .int 0, .int 100000000]) (rest := []) ⟨hx, hb, hml, hown, hts⟩ (cc_rng_no l hfl D (pg_ty cI cZ) (pg_wB cI cZ a u) H.size z 0 100000000 c_24) (va_cwS 3 hts gX4_setKind_X4_checkRange rfl rfl rfl (by decide +kernel) ⟨Nat.le_of_ble_eq_true rfl, Nat.le_of_ble_eq_true rfl⟩) hK hP hD hS hA hE rfl hl.1 rfl (Nat.le_of_ble_eq_true rfl) dX4_setKind_24 ⟨Nat.le_of_ble_eq_true rfl, Nat.le_of_ble_eq_true rfl⟩) hD hS hA hout hlocks (Nat.le_of_ble_eq_true rfl) (Nat.le_of_ble_eq_true rfl)
      · have he : e9 = 2 := hthr.symm.trans (by simp only [pg_t_setKind, c_2, hcl, c_9, c_16, cond_true, cond_false, Bool.not_true, Bool.not_false])
        obtain rfl := h9_2 he
        exact pg_thru (pg_xS (As := [.int y1, .int 0, .int 10000000]) (rest := []) ⟨hx, hb, hml, hown, hts⟩ (cc_rng_no l hfl D (pg_ty cI cZ) (pg_wB cI cZ a u) H.size y1 0 10000000 c_16) (va_cwS 3 hts gX4_setKind_X4_checkRange rfl rfl rfl (by decide +kernel) ⟨Nat.le_of_ble_eq_true rfl, Nat.le_of_ble_eq_true rfl⟩) hK hP hD hS hA hE rfl hl.1 rfl (Nat.le_of_ble_eq_true rfl) dX4_setKind_16 ⟨Nat.le_of_ble_eq_true rfl, Nat.le_of_ble_eq_true rfl⟩) hD hS hA hout hlocks (Nat.le_of_ble_eq_true rfl) (Nat.le_of_ble_eq_true rfl)
    · have he : e9 = 2 := hthr.symm.trans (by simp only [pg_t_setKind, c_2, hcl, c_9, cond_true, cond_false, Bool.not_true, Bool.not_false])
      obtain rfl := h9_2 he
      exact pg_thru (pg_xS (As := [.int x, .int 0, .int 10000000]) (rest := []) ⟨hx, hb, hml, hown, hts⟩ (cc_rng_no l hfl D (pg_ty cI cZ) (pg_wB cI cZ a u) H.size x 0 10000000 c_9) (va_cwS 3 hts gX4_setKind_X4_checkRange rfl rfl rfl (by decide +kernel) ⟨Nat.le_of_ble_eq_true rfl, Nat.le_of_ble_eq_true rfl⟩) hK hP hD hS hA hE rfl hl.1 rfl (Nat.le_of_ble_eq_true rfl) dX4_setKind_9 ⟨Nat.le_of_ble_eq_true rfl, Nat.le_of_ble_eq_true rfl⟩) hD hS hA hout hlocks (Nat.le_of_ble_eq_true rfl) (Nat.le_of_ble_eq_true rfl)
  · have he : e9 = 1 := hthr.symm.trans (by simp only [pg_t_setKind, c_2, cond_true, cond_false, Bool.not_true, Bool.not_false])
    obtain rfl := h9_1 he
    exact pg_thru (pg_xS (As := [.int k, .int 3]) (rest := []) ⟨hx, hb, hml, hown, hts⟩ (cc_num_no l hfl D (pg_ty cI cZ) (pg_wB cI cZ a u) s.heap.size k 3 c_2) (va_cwS 2 hts gX4_setKind_X4_checkNumber rfl rfl rfl (by decide +kernel) ⟨Nat.le_of_ble_eq_true rfl, Nat.le_of_ble_eq_true rfl⟩) hK hP hD hS hA hE rfl hl.1 rfl (Nat.le_of_ble_eq_true rfl) dX4_setKind_2 ⟨Nat.le_of_ble_eq_true rfl, Nat.le_of_ble_eq_true rfl⟩) hD hS hA hout hlocks (Nat.le_of_ble_eq_true rfl) (Nat.le_of_ble_eq_true rfl)
set_option maxHeartbeats 4000000 in
set_option maxRecDepth 100000 in
/-- cc_setYear: returns -/
theorem cc_setYear_ok (l : Launch) (D : va_G) (cI cZ : ClassId) (a : Nat → Nat) (sz : Nat) (u : pg_St) (k x d : Int32) (hthr : pg_t_setYear (!pg_eq (u.1 3) (-1)) k x d = 0) : Met l yX4_setYear wsX4_setYear ({ frames := 1, cells := 0, slots := 0, locals := 22 }) (va_Pc [.ref (a 0), .int k, .int x, .int d] (pg_B D (pg_ty cI cZ) (pg_wB cI cZ a u) sz)) (va_Qv (fun u' => u' = (u.1, pg_row (pg_row u.2 11 (upd (u.2 11) k.toNatClampNeg x)) 12 (upd (u.2 12) k.toNatClampNeg d))) (pg_E D (pg_ty cI cZ) (va_A (pg_wB cI cZ a u) sz) (pg_wB cI cZ a)) (va_A (pg_wB cI cZ a u) sz)) 0 0 (va_A (pg_wB cI cZ a u) sz) := by
  refine Met.ofW (cc := cX4_setYear) (maxL := 4) (ret := none) (by decide) rfl ?_
  intro p e s m args below meth c s₁ B hml hv
  obtain ⟨rfl, hsz, hP, hK, hD0⟩ := hv
  have hx := B.exec
  have hb := B.bytes
  have hr := B.returns
  have hts := atoms_spec (ws := wsX4_setYear) B.pre
  have hown : s.vm.findClass RX4 = some m.cls := findClass_of_methodNamed B.named
  have hlocks := B.notSynchronized
  subst hsz
  have hD := hD0.self (sz := s.heap.size)
  generalize hAe : va_A (pg_wB cI cZ a u) s.heap.size = A at hD ⊢
  have hA : ∀ q : Nat, s.heap.size ≤ q → A q := fun q h => by rw [← hAe]; exact Or.inr h
  have hS : va_S A s.heap s.heap [] := va_S.rf
  have hl := lv_entry ([.ref (a 0), .int k, .int x, .int d]) (n := 4) (Nat.le_of_ble_eq_true rfl)
  rw [lg_entry_eq]
  generalize (lg_sl ([.ref (a 0), .int k, .int x, .int d]) ++ List.replicate (4 - (lg_sl ([.ref (a 0), .int k, .int x, .int d])).length) Slot.unset).toArray = ls at hl ⊢
  have hl : lv_has ls 4 [(0, .ref (a 0)), (1, .int k), (2, .int x), (3, .int d)] := hl
  have hiX1 : ∀ w ∈ wsX10, w ∈ wsX4_setYear := fun _ h => List.mem_cons_of_mem _ (List.mem_append_left _ (List.mem_append_left _ (List.mem_append_left _ (List.mem_append_right _ (h)))))
  have hiX4 : ∀ w ∈ wsX40, w ∈ wsX4_setYear := fun _ h => List.mem_cons_of_mem _ (List.mem_append_left _ (List.mem_append_left _ (List.mem_append_left _ (List.mem_append_left _ (List.mem_append_right _ (h))))))
  have hw1 := hts (.constant RX4 44 (10000000)) (List.mem_of_getElem? (i := 1) rfl)
  have hw2 := hts (.fieldLink RX4 33 "PegBox" "earnOut" "LPegBox$EarnOut;") (List.mem_of_getElem? (i := 2) rfl)
  have hw3 := hts (.fieldLink RX4 90 "PegBox$EarnOut" "targets" "[I") (List.mem_of_getElem? (i := 3) rfl)
  have hw4 := hts (.fieldLink RX4 93 "PegBox$EarnOut" "amounts" "[I") (List.mem_of_getElem? (i := 4) rfl)
  refine lv_iload_n hx hb dX4_setYear_0 rfl (lv_at hl 1 rfl) ?_
  refine lv_iconst (v := 4) hx hb dX4_setYear_1 (by decide) ?_
  rcases Bool.eq_false_or_eq_true (pg_nb k 4) with c_2 | c_2
  · refine pg_vU (pg_rS (As := [.int k, .int 4]) (rest := []) ⟨hx, hb, hml, hown, hts⟩ (cc_num_ok l D (pg_ty cI cZ) (pg_wB cI cZ a u) s.heap.size k 4 c_2) (va_cwS 2 hts gX4_setYear_X4_checkNumber rfl rfl rfl (by decide +kernel) ⟨Nat.le_of_ble_eq_true rfl, Nat.le_of_ble_eq_true rfl⟩) hK hP hD rfl hl.1 rfl (Nat.le_of_ble_eq_true rfl) dX4_setYear_2 ⟨Nat.le_of_ble_eq_true rfl, Nat.le_of_ble_eq_true rfl⟩) hD hS hA (fun H locs hP hD hS => ?_)
    obtain ⟨j, hj, rfl⟩ := pg_nb_nI (n := 4) (by omega) c_2
    have hcl : (nI j).toNatClampNeg = j := nI_clamp (by omega)
    refine lv_iload_n hx hb dX4_setYear_5 rfl (lv_at hl 2 rfl) ?_
    refine lv_iconst (v := 0) hx hb dX4_setYear_6 (by decide) ?_
    refine lv_ldc hx hb hown hw1 dX4_setYear_7 ?_
    rcases Bool.eq_false_or_eq_true (pg_in x 0 10000000) with c_9 | c_9
    · refine pg_vU (pg_rS (As := [.int x, .int 0, .int 10000000]) (rest := []) ⟨hx, hb, hml, hown, hts⟩ (cc_rng_ok l D (pg_ty cI cZ) (pg_wB cI cZ a u) H.size x 0 10000000 c_9) (va_cwS 3 hts gX4_setYear_X4_checkRange rfl rfl rfl (by decide +kernel) ⟨Nat.le_of_ble_eq_true rfl, Nat.le_of_ble_eq_true rfl⟩) hK hP hD rfl hl.1 rfl (Nat.le_of_ble_eq_true rfl) dX4_setYear_9 ⟨Nat.le_of_ble_eq_true rfl, Nat.le_of_ble_eq_true rfl⟩) hD hS hA (fun H locs hP hD hS => ?_)
      refine lv_iload_n hx hb dX4_setYear_12 rfl (lv_at hl 3 rfl) ?_
      refine lv_iconst (v := 0) hx hb dX4_setYear_13 (by decide) ?_
      refine lv_ldc hx hb hown hw1 dX4_setYear_14 ?_
      rcases Bool.eq_false_or_eq_true (pg_in d 0 10000000) with c_16 | c_16
      · refine pg_vU (pg_rS (As := [.int d, .int 0, .int 10000000]) (rest := []) ⟨hx, hb, hml, hown, hts⟩ (cc_rng_ok l D (pg_ty cI cZ) (pg_wB cI cZ a u) H.size d 0 10000000 c_16) (va_cwS 3 hts gX4_setYear_X4_checkRange rfl rfl rfl (by decide +kernel) ⟨Nat.le_of_ble_eq_true rfl, Nat.le_of_ble_eq_true rfl⟩) hK hP hD rfl hl.1 rfl (Nat.le_of_ble_eq_true rfl) dX4_setYear_16 ⟨Nat.le_of_ble_eq_true rfl, Nat.le_of_ble_eq_true rfl⟩) hD hS hA (fun H locs hP hD hS => ?_)
        refine lv_aload_n hx hb dX4_setYear_19 rfl (lv_at hl 0 rfl) ?_
        rcases Bool.eq_false_or_eq_true (pg_eq (u.1 3) (-1)) with c_20 | c_20
        · refine pg_vE (pg_rV (As := []) (rest := []) ⟨hx, hb, hml, hown, hts⟩ (cc_ncl_ok l D cI cZ a H.size u c_20) (cwV 0 hts gX4_setYear_X4_checkNotClosed rfl rfl rfl (by decide +kernel) ⟨Nat.le_of_ble_eq_true rfl, Nat.le_of_ble_eq_true rfl⟩) hK hP hD 0 (ci := 4) rfl rfl rfl rfl hl.1 rfl (Nat.le_of_ble_eq_true rfl) dX4_setYear_20 ⟨Nat.le_of_ble_eq_true rfl, Nat.le_of_ble_eq_true rfl⟩) hD hS hA (fun H locs hP hD hS => ?_)
          refine lv_aload_n hx hb dX4_setYear_23 rfl (lv_at hl 0 rfl) ?_
          refine va_get (D := D) (ci := 4) (v := .ref (a 4)) (C := RX4) (T := TX4) (N := 14) hx hb hts hiX4 hown hK hP 0 rfl rfl 3 (by decide) hw2 (fun _ h9 => h9) rfl dX4_setYear_24 ?_
          refine va_get (D := D) (ci := 1) (v := .ref (a 16)) (C := RX1) (T := TX1) (N := 8) hx hb hts hiX1 hown hK hP 4 rfl rfl 0 (by decide) hw3 (fun _ h9 => h9) rfl dX4_setYear_27 ?_
          refine lv_iload_n hx hb dX4_setYear_30 rfl (lv_at hl 1 rfl) ?_
          refine lv_iload_n hx hb dX4_setYear_31 rfl (lv_at hl 2 rfl) ?_
          refine pg_ist hx hb hK hP hD hS 16 0 rfl rfl (show j < _ by omega) (by decide) dX4_setYear_32 (fun H locs hP hD hS => ?_)
          have hP : va_P D vwCl (pg_wB cI cZ a (u.1, (pg_row u.2 11 (upd (u.2 11) j x)))) H := hP
          have hD : va_D A (pg_wB cI cZ a (u.1, (pg_row u.2 11 (upd (u.2 11) j x)))) := hD
          refine lv_aload_n hx hb dX4_setYear_33 rfl (lv_at hl 0 rfl) ?_
          refine va_get (D := D) (ci := 4) (v := .ref (a 4)) (C := RX4) (T := TX4) (N := 14) hx hb hts hiX4 hown hK hP 0 rfl rfl 3 (by decide) hw2 (fun _ h9 => h9) rfl dX4_setYear_34 ?_
          refine va_get (D := D) (ci := 1) (v := .ref (a 17)) (C := RX1) (T := TX1) (N := 8) hx hb hts hiX1 hown hK hP 4 rfl rfl 1 (by decide) hw4 (fun _ h9 => h9) rfl dX4_setYear_37 ?_
          refine lv_iload_n hx hb dX4_setYear_40 rfl (lv_at hl 1 rfl) ?_
          refine lv_iload_n hx hb dX4_setYear_41 rfl (lv_at hl 3 rfl) ?_
          refine pg_ist hx hb hK hP hD hS 17 0 rfl rfl (show j < _ by omega) (by decide) dX4_setYear_42 (fun H locs hP hD hS => ?_)
          have hP : va_P D vwCl (pg_wB cI cZ a (u.1, (pg_row (pg_row u.2 11 (upd (u.2 11) j x)) 12 (upd (u.2 12) j d)))) H := hP
          have hD : va_D A (pg_wB cI cZ a (u.1, (pg_row (pg_row u.2 11 (upd (u.2 11) j x)) 12 (upd (u.2 12) j d)))) := hD
          exact W.vret hx hb hr (fun t9 ht9 hW9 => ⟨⟨(u.1, (pg_row (pg_row u.2 11 (upd (u.2 11) j x)) 12 (upd (u.2 12) j d))), rfl, (by rw [hcl]), by rw [ht9]; exact hP, va_K.moved hW9.alike hK, hD⟩, hS.F ht9⟩) hS.2.2 dX4_setYear_43
        · exact absurd hthr (by first | (simp only [pg_t_setYear, c_2, hcl, c_9, c_16, c_20, cond_true, cond_false, Bool.not_true, Bool.not_false]; done) | (simp only [pg_t_setYear, c_2, hcl, c_9, c_16, c_20, cond_true, cond_false, Bool.not_true, Bool.not_false]; decide))
      · exact absurd hthr (by first | (simp only [pg_t_setYear, c_2, hcl, c_9, c_16, cond_true, cond_false, Bool.not_true, Bool.not_false]; done) | (simp only [pg_t_setYear, c_2, hcl, c_9, c_16, cond_true, cond_false, Bool.not_true, Bool.not_false]; decide))
    · exact absurd hthr (by first | (simp only [pg_t_setYear, c_2, hcl, c_9, cond_true, cond_false, Bool.not_true, Bool.not_false]; done) | (simp only [pg_t_setYear, c_2, hcl, c_9, cond_true, cond_false, Bool.not_true, Bool.not_false]; decide))
  · exact absurd hthr (by first | (simp only [pg_t_setYear, c_2, cond_true, cond_false, Bool.not_true, Bool.not_false]; done) | (simp only [pg_t_setYear, c_2, cond_true, cond_false, Bool.not_true, Bool.not_false]; decide))
set_option maxHeartbeats 4000000 in
set_option maxRecDepth 100000 in
/-- cc_setYear: throws -/
theorem cc_setYear_no (l : Launch) (hfl : l.stackTraces = false) (D : va_G) (cI cZ : ClassId) (a : Nat → Nat) (sz : Nat) (u : pg_St) (k x d : Int32) (e9 : Int32) (nm : String) (hthr : pg_t_setYear (!pg_eq (u.1 3) (-1)) k x d = e9) (h0 : e9 ≠ 0) (h9_1 : e9 = 1 → nm = pg_io) (h9_2 : e9 = 2 → nm = pg_ia) (h9_3 : e9 = 3 → nm = pg_is) : vx_Met l yX4_setYear wsX4_setYear ({ frames := 7, cells := 1, slots := 6, locals := 108 }) (va_Pc [.ref (a 0), .int k, .int x, .int d] (pg_T D (pg_ty cI cZ) (pg_wB cI cZ a u) sz)) pg_No (pg_X D (pg_wB cI cZ a u) (va_A (pg_wB cI cZ a u) sz) nm) 1 6 (va_A (pg_wB cI cZ a u) sz) := by
  refine vx_ofW (cc := cX4_setYear) (maxL := 4) (ret := none) (by decide) rfl ?_
  intro p e s m args below meth c s₁ B hml hout hv
  obtain ⟨rfl, ⟨hsz, hP, hK, hD0⟩, hE⟩ := hv
  have hx := B.exec
  have hb := B.bytes
  have hr := B.returns
  have hts := atoms_spec (ws := wsX4_setYear) B.pre
  have hown : s.vm.findClass RX4 = some m.cls := findClass_of_methodNamed B.named
  have hlocks := B.notSynchronized
  subst hsz
  have hD := hD0.self (sz := s.heap.size)
  generalize hAe : va_A (pg_wB cI cZ a u) s.heap.size = A at hD hE ⊢
  have hA : ∀ q : Nat, s.heap.size ≤ q → A q := fun q h => by rw [← hAe]; exact Or.inr h
  have hS : va_S A s.heap s.heap [] := va_S.rf
  have hl := lv_entry ([.ref (a 0), .int k, .int x, .int d]) (n := 4) (Nat.le_of_ble_eq_true rfl)
  rw [lg_entry_eq]
  generalize (lg_sl ([.ref (a 0), .int k, .int x, .int d]) ++ List.replicate (4 - (lg_sl ([.ref (a 0), .int k, .int x, .int d])).length) Slot.unset).toArray = ls at hl ⊢
  have hl : lv_has ls 4 [(0, .ref (a 0)), (1, .int k), (2, .int x), (3, .int d)] := hl
  have hw1 := hts (.constant RX4 44 (10000000)) (List.mem_of_getElem? (i := 1) rfl)
  refine lv_iload_n hx hb dX4_setYear_0 rfl (lv_at hl 1 rfl) ?_
  refine lv_iconst (v := 4) hx hb dX4_setYear_1 (by decide) ?_
  rcases Bool.eq_false_or_eq_true (pg_nb k 4) with c_2 | c_2
  · refine pg_vU (pg_rS (As := [.int k, .int 4]) (rest := []) ⟨hx, hb, hml, hown, hts⟩ (cc_num_ok l D (pg_ty cI cZ) (pg_wB cI cZ a u) s.heap.size k 4 c_2) (va_cwS 2 hts gX4_setYear_X4_checkNumber rfl rfl rfl (by decide +kernel) ⟨Nat.le_of_ble_eq_true rfl, Nat.le_of_ble_eq_true rfl⟩) hK hP hD rfl hl.1 rfl (Nat.le_of_ble_eq_true rfl) dX4_setYear_2 ⟨Nat.le_of_ble_eq_true rfl, Nat.le_of_ble_eq_true rfl⟩) hD hS hA (fun H locs hP hD hS => ?_)
    obtain ⟨j, hj, rfl⟩ := pg_nb_nI (n := 4) (by omega) c_2
    have hcl : (nI j).toNatClampNeg = j := nI_clamp (by omega)
    refine lv_iload_n hx hb dX4_setYear_5 rfl (lv_at hl 2 rfl) ?_
    refine lv_iconst (v := 0) hx hb dX4_setYear_6 (by decide) ?_
    refine lv_ldc hx hb hown hw1 dX4_setYear_7 ?_
    rcases Bool.eq_false_or_eq_true (pg_in x 0 10000000) with c_9 | c_9
    · refine pg_vU (pg_rS (As := [.int x, .int 0, .int 10000000]) (rest := []) ⟨hx, hb, hml, hown, hts⟩ (cc_rng_ok l D (pg_ty cI cZ) (pg_wB cI cZ a u) H.size x 0 10000000 c_9) (va_cwS 3 hts gX4_setYear_X4_checkRange rfl rfl rfl (by decide +kernel) ⟨Nat.le_of_ble_eq_true rfl, Nat.le_of_ble_eq_true rfl⟩) hK hP hD rfl hl.1 rfl (Nat.le_of_ble_eq_true rfl) dX4_setYear_9 ⟨Nat.le_of_ble_eq_true rfl, Nat.le_of_ble_eq_true rfl⟩) hD hS hA (fun H locs hP hD hS => ?_)
      refine lv_iload_n hx hb dX4_setYear_12 rfl (lv_at hl 3 rfl) ?_
      refine lv_iconst (v := 0) hx hb dX4_setYear_13 (by decide) ?_
      refine lv_ldc hx hb hown hw1 dX4_setYear_14 ?_
      rcases Bool.eq_false_or_eq_true (pg_in d 0 10000000) with c_16 | c_16
      · refine pg_vU (pg_rS (As := [.int d, .int 0, .int 10000000]) (rest := []) ⟨hx, hb, hml, hown, hts⟩ (cc_rng_ok l D (pg_ty cI cZ) (pg_wB cI cZ a u) H.size d 0 10000000 c_16) (va_cwS 3 hts gX4_setYear_X4_checkRange rfl rfl rfl (by decide +kernel) ⟨Nat.le_of_ble_eq_true rfl, Nat.le_of_ble_eq_true rfl⟩) hK hP hD rfl hl.1 rfl (Nat.le_of_ble_eq_true rfl) dX4_setYear_16 ⟨Nat.le_of_ble_eq_true rfl, Nat.le_of_ble_eq_true rfl⟩) hD hS hA (fun H locs hP hD hS => ?_)
        refine lv_aload_n hx hb dX4_setYear_19 rfl (lv_at hl 0 rfl) ?_
        rcases Bool.eq_false_or_eq_true (pg_eq (u.1 3) (-1)) with c_20 | c_20
        · exact absurd (hthr.symm.trans (by simp only [pg_t_setYear, c_2, hcl, c_9, c_16, c_20, cond_true, cond_false, Bool.not_true, Bool.not_false])) h0
        · have he : e9 = 3 := hthr.symm.trans (by simp only [pg_t_setYear, c_2, hcl, c_9, c_16, c_20, cond_true, cond_false, Bool.not_true, Bool.not_false])
          obtain rfl := h9_3 he
          exact pg_thru (pg_xV (As := []) (rest := []) ⟨hx, hb, hml, hown, hts⟩ (cc_ncl_no l hfl D cI cZ a H.size u c_20) (cwV 0 hts gX4_setYear_X4_checkNotClosed rfl rfl rfl (by decide +kernel) ⟨Nat.le_of_ble_eq_true rfl, Nat.le_of_ble_eq_true rfl⟩) hK hP hD hS hA hE 0 (ci := 4) rfl rfl rfl rfl hl.1 rfl (Nat.le_of_ble_eq_true rfl) dX4_setYear_20 ⟨Nat.le_of_ble_eq_true rfl, Nat.le_of_ble_eq_true rfl⟩) hD hS hA hout hlocks (Nat.le_of_ble_eq_true rfl) (Nat.le_of_ble_eq_true rfl)
      · have he : e9 = 2 := hthr.symm.trans (by simp only [pg_t_setYear, c_2, hcl, c_9, c_16, cond_true, cond_false, Bool.not_true, Bool.not_false])
        obtain rfl := h9_2 he
        exact pg_thru (pg_xS (As := [.int d, .int 0, .int 10000000]) (rest := []) ⟨hx, hb, hml, hown, hts⟩ (cc_rng_no l hfl D (pg_ty cI cZ) (pg_wB cI cZ a u) H.size d 0 10000000 c_16) (va_cwS 3 hts gX4_setYear_X4_checkRange rfl rfl rfl (by decide +kernel) ⟨Nat.le_of_ble_eq_true rfl, Nat.le_of_ble_eq_true rfl⟩) hK hP hD hS hA hE rfl hl.1 rfl (Nat.le_of_ble_eq_true rfl) dX4_setYear_16 ⟨Nat.le_of_ble_eq_true rfl, Nat.le_of_ble_eq_true rfl⟩) hD hS hA hout hlocks (Nat.le_of_ble_eq_true rfl) (Nat.le_of_ble_eq_true rfl)
    · have he : e9 = 2 := hthr.symm.trans (by simp only [pg_t_setYear, c_2, hcl, c_9, cond_true, cond_false, Bool.not_true, Bool.not_false])
      obtain rfl := h9_2 he
      exact pg_thru (pg_xS (As := [.int x, .int 0, .int 10000000]) (rest := []) ⟨hx, hb, hml, hown, hts⟩ (cc_rng_no l hfl D (pg_ty cI cZ) (pg_wB cI cZ a u) H.size x 0 10000000 c_9) (va_cwS 3 hts gX4_setYear_X4_checkRange rfl rfl rfl (by decide +kernel) ⟨Nat.le_of_ble_eq_true rfl, Nat.le_of_ble_eq_true rfl⟩) hK hP hD hS hA hE rfl hl.1 rfl (Nat.le_of_ble_eq_true rfl) dX4_setYear_9 ⟨Nat.le_of_ble_eq_true rfl, Nat.le_of_ble_eq_true rfl⟩) hD hS hA hout hlocks (Nat.le_of_ble_eq_true rfl) (Nat.le_of_ble_eq_true rfl)
  · have he : e9 = 1 := hthr.symm.trans (by simp only [pg_t_setYear, c_2, cond_true, cond_false, Bool.not_true, Bool.not_false])
    obtain rfl := h9_1 he
    exact pg_thru (pg_xS (As := [.int k, .int 4]) (rest := []) ⟨hx, hb, hml, hown, hts⟩ (cc_num_no l hfl D (pg_ty cI cZ) (pg_wB cI cZ a u) s.heap.size k 4 c_2) (va_cwS 2 hts gX4_setYear_X4_checkNumber rfl rfl rfl (by decide +kernel) ⟨Nat.le_of_ble_eq_true rfl, Nat.le_of_ble_eq_true rfl⟩) hK hP hD hS hA hE rfl hl.1 rfl (Nat.le_of_ble_eq_true rfl) dX4_setYear_2 ⟨Nat.le_of_ble_eq_true rfl, Nat.le_of_ble_eq_true rfl⟩) hD hS hA hout hlocks (Nat.le_of_ble_eq_true rfl) (Nat.le_of_ble_eq_true rfl)
set_option maxHeartbeats 4000000 in
set_option maxRecDepth 100000 in
/-- cc_setCarry: returns -/
theorem cc_setCarry_ok (l : Launch) (D : va_G) (cI cZ : ClassId) (a : Nat → Nat) (sz : Nat) (u : pg_St) (b : Int32) (hb9 : b = 0 ∨ b = 1) (hthr : pg_t_setCarry (!pg_eq (u.1 3) (-1)) = 0) : Met l yX4_setCarry wsX4_setCarry ({ frames := 1, cells := 0, slots := 0, locals := 20 }) (va_Pc [.ref (a 0), .int b] (pg_B D (pg_ty cI cZ) (pg_wB cI cZ a u) sz)) (va_Qv (fun u' => u' = (upd u.1 11 b, u.2)) (pg_E D (pg_ty cI cZ) (va_A (pg_wB cI cZ a u) sz) (pg_wB cI cZ a)) (va_A (pg_wB cI cZ a u) sz)) 0 0 (va_A (pg_wB cI cZ a u) sz) := by
  refine Met.ofW (cc := cX4_setCarry) (maxL := 2) (ret := none) (by decide) rfl ?_
  intro p e s m args below meth c s₁ B hml hv
  obtain ⟨rfl, hsz, hP, hK, hD0⟩ := hv
  have hx := B.exec
  have hb := B.bytes
  have hr := B.returns
  have hts := atoms_spec (ws := wsX4_setCarry) B.pre
  have hown : s.vm.findClass RX4 = some m.cls := findClass_of_methodNamed B.named
  have hlocks := B.notSynchronized
  subst hsz
  have hD := hD0.self (sz := s.heap.size)
  generalize hAe : va_A (pg_wB cI cZ a u) s.heap.size = A at hD ⊢
  have hA : ∀ q : Nat, s.heap.size ≤ q → A q := fun q h => by rw [← hAe]; exact Or.inr h
  have hS : va_S A s.heap s.heap [] := va_S.rf
  have hl := lv_entry ([.ref (a 0), .int b]) (n := 2) (Nat.le_of_ble_eq_true rfl)
  rw [lg_entry_eq]
  generalize (lg_sl ([.ref (a 0), .int b]) ++ List.replicate (2 - (lg_sl ([.ref (a 0), .int b])).length) Slot.unset).toArray = ls at hl ⊢
  have hl : lv_has ls 2 [(0, .ref (a 0)), (1, .int b)] := hl
  have hiX1 : ∀ w ∈ wsX10, w ∈ wsX4_setCarry := fun _ h => List.mem_cons_of_mem _ (List.mem_append_left _ (List.mem_append_right _ (h)))
  have hiX4 : ∀ w ∈ wsX40, w ∈ wsX4_setCarry := fun _ h => List.mem_cons_of_mem _ (List.mem_append_left _ (List.mem_append_left _ (List.mem_append_right _ (h))))
  have hw1 := hts (.fieldLink RX4 33 "PegBox" "earnOut" "LPegBox$EarnOut;") (List.mem_of_getElem? (i := 1) rfl)
  have hw2 := hts (.fieldLink RX4 94 "PegBox$EarnOut" "isCarried" "Z") (List.mem_of_getElem? (i := 2) rfl)
  refine lv_aload_n hx hb dX4_setCarry_0 rfl (lv_at hl 0 rfl) ?_
  rcases Bool.eq_false_or_eq_true (pg_eq (u.1 3) (-1)) with c_1 | c_1
  · refine pg_vE (pg_rV (As := []) (rest := []) ⟨hx, hb, hml, hown, hts⟩ (cc_ncl_ok l D cI cZ a s.heap.size u c_1) (cwV 0 hts gX4_setCarry_X4_checkNotClosed rfl rfl rfl (by decide +kernel) ⟨Nat.le_of_ble_eq_true rfl, Nat.le_of_ble_eq_true rfl⟩) hK hP hD 0 (ci := 4) rfl rfl rfl rfl hl.1 rfl (Nat.le_of_ble_eq_true rfl) dX4_setCarry_1 ⟨Nat.le_of_ble_eq_true rfl, Nat.le_of_ble_eq_true rfl⟩) hD hS hA (fun H locs hP hD hS => ?_)
    refine lv_aload_n hx hb dX4_setCarry_4 rfl (lv_at hl 0 rfl) ?_
    refine va_get (D := D) (ci := 4) (v := .ref (a 4)) (C := RX4) (T := TX4) (N := 14) hx hb hts hiX4 hown hK hP 0 rfl rfl 3 (by decide) hw1 (fun _ h9 => h9) rfl dX4_setCarry_5 ?_
    refine lv_iload_n hx hb dX4_setCarry_8 rfl (lv_at hl 1 rfl) ?_
    refine va_put (D := D) (ci := 1) (v := .int b) (ty := .boolean) (C := RX1) (T := TX1) (N := 8) hx hb hts hiX1 tyX1 tyX1_ok nmX1 hown hK hP hD hS 4 rfl rfl 3 (by decide) hw2 (fun _ h9 => h9) rfl (by decide +kernel) (by rcases hb9 with rfl | rfl <;> rfl) (by rcases hb9 with rfl | rfl <;> rfl) (Nat.le_of_ble_eq_true rfl) dX4_setCarry_9 (fun H locs hP hD hS => ?_)
    have hP : va_P D vwCl (pg_wB cI cZ a ((upd u.1 11 b), u.2)) H := hP
    have hD : va_D A (pg_wB cI cZ a ((upd u.1 11 b), u.2)) := hD
    exact W.vret hx hb hr (fun t9 ht9 hW9 => ⟨⟨((upd u.1 11 b), u.2), rfl, rfl, by rw [ht9]; exact hP, va_K.moved hW9.alike hK, hD⟩, hS.F ht9⟩) hS.2.2 dX4_setCarry_12
  · exact absurd hthr (by first | (simp only [pg_t_setCarry, c_1, cond_true, cond_false, Bool.not_true, Bool.not_false]; done) | (simp only [pg_t_setCarry, c_1, cond_true, cond_false, Bool.not_true, Bool.not_false]; decide))
set_option maxHeartbeats 4000000 in
set_option maxRecDepth 100000 in
/-- cc_setCarry: throws -/
theorem cc_setCarry_no (l : Launch) (hfl : l.stackTraces = false) (D : va_G) (cI cZ : ClassId) (a : Nat → Nat) (sz : Nat) (u : pg_St) (b : Int32) (hb9 : b = 0 ∨ b = 1) (e9 : Int32) (nm : String) (hthr : pg_t_setCarry (!pg_eq (u.1 3) (-1)) = e9) (h0 : e9 ≠ 0) (h9_1 : e9 = 1 → nm = pg_is) : vx_Met l yX4_setCarry wsX4_setCarry ({ frames := 7, cells := 1, slots := 6, locals := 106 }) (va_Pc [.ref (a 0), .int b] (pg_T D (pg_ty cI cZ) (pg_wB cI cZ a u) sz)) pg_No (pg_X D (pg_wB cI cZ a u) (va_A (pg_wB cI cZ a u) sz) nm) 1 6 (va_A (pg_wB cI cZ a u) sz) := by
  refine vx_ofW (cc := cX4_setCarry) (maxL := 2) (ret := none) (by decide) rfl ?_
  intro p e s m args below meth c s₁ B hml hout hv
  obtain ⟨rfl, ⟨hsz, hP, hK, hD0⟩, hE⟩ := hv
  have hx := B.exec
  have hb := B.bytes
  have hr := B.returns
  have hts := atoms_spec (ws := wsX4_setCarry) B.pre
  have hown : s.vm.findClass RX4 = some m.cls := findClass_of_methodNamed B.named
  have hlocks := B.notSynchronized
  subst hsz
  have hD := hD0.self (sz := s.heap.size)
  generalize hAe : va_A (pg_wB cI cZ a u) s.heap.size = A at hD hE ⊢
  have hA : ∀ q : Nat, s.heap.size ≤ q → A q := fun q h => by rw [← hAe]; exact Or.inr h
  have hS : va_S A s.heap s.heap [] := va_S.rf
  have hl := lv_entry ([.ref (a 0), .int b]) (n := 2) (Nat.le_of_ble_eq_true rfl)
  rw [lg_entry_eq]
  generalize (lg_sl ([.ref (a 0), .int b]) ++ List.replicate (2 - (lg_sl ([.ref (a 0), .int b])).length) Slot.unset).toArray = ls at hl ⊢
  have hl : lv_has ls 2 [(0, .ref (a 0)), (1, .int b)] := hl
  refine lv_aload_n hx hb dX4_setCarry_0 rfl (lv_at hl 0 rfl) ?_
  rcases Bool.eq_false_or_eq_true (pg_eq (u.1 3) (-1)) with c_1 | c_1
  · exact absurd (hthr.symm.trans (by simp only [pg_t_setCarry, c_1, cond_true, cond_false, Bool.not_true, Bool.not_false])) h0
  · have he : e9 = 1 := hthr.symm.trans (by simp only [pg_t_setCarry, c_1, cond_true, cond_false, Bool.not_true, Bool.not_false])
    obtain rfl := h9_1 he
    exact pg_thru (pg_xV (As := []) (rest := []) ⟨hx, hb, hml, hown, hts⟩ (cc_ncl_no l hfl D cI cZ a s.heap.size u c_1) (cwV 0 hts gX4_setCarry_X4_checkNotClosed rfl rfl rfl (by decide +kernel) ⟨Nat.le_of_ble_eq_true rfl, Nat.le_of_ble_eq_true rfl⟩) hK hP hD hS hA hE 0 (ci := 4) rfl rfl rfl rfl hl.1 rfl (Nat.le_of_ble_eq_true rfl) dX4_setCarry_1 ⟨Nat.le_of_ble_eq_true rfl, Nat.le_of_ble_eq_true rfl⟩) hD hS hA hout hlocks (Nat.le_of_ble_eq_true rfl) (Nat.le_of_ble_eq_true rfl)
set_option maxHeartbeats 4000000 in
set_option maxRecDepth 100000 in
/-- cc_close: throws -/
theorem cc_close_no (l : Launch) (hfl : l.stackTraces = false) (D : va_G) (cI cZ : ClassId) (a : Nat → Nat) (sz : Nat) (u : pg_St) (x y1 z : Int32) (e9 : Int32) (nm : String) (hthr : pg_t_close (!pg_eq (u.1 3) (-1)) x y1 z = e9) (h0 : e9 ≠ 0) (h9_1 : e9 = 1 → nm = pg_ia) (h9_2 : e9 = 2 → nm = pg_is) : vx_Met l yX4_close wsX4_close ({ frames := 7, cells := 1, slots := 6, locals := 108 }) (va_Pc [.ref (a 0), .int x, .int y1, .int z] (pg_T D (pg_ty cI cZ) (pg_wB cI cZ a u) sz)) pg_No (pg_X D (pg_wB cI cZ a u) (va_A (pg_wB cI cZ a u) sz) nm) 1 6 (va_A (pg_wB cI cZ a u) sz) := by
  refine vx_ofW (cc := cX4_close) (maxL := 4) (ret := (some .int)) (by decide) rfl ?_
  intro p e s m args below meth c s₁ B hml hout hv
  obtain ⟨rfl, ⟨hsz, hP, hK, hD0⟩, hE⟩ := hv
  have hx := B.exec
  have hb := B.bytes
  have hr := B.returns
  have hts := atoms_spec (ws := wsX4_close) B.pre
  have hown : s.vm.findClass RX4 = some m.cls := findClass_of_methodNamed B.named
  have hlocks := B.notSynchronized
  subst hsz
  have hD := hD0.self (sz := s.heap.size)
  generalize hAe : va_A (pg_wB cI cZ a u) s.heap.size = A at hD hE ⊢
  have hA : ∀ q : Nat, s.heap.size ≤ q → A q := fun q h => by rw [← hAe]; exact Or.inr h
  have hS : va_S A s.heap s.heap [] := va_S.rf
  have hl := lv_entry ([.ref (a 0), .int x, .int y1, .int z]) (n := 4) (Nat.le_of_ble_eq_true rfl)
  rw [lg_entry_eq]
  generalize (lg_sl ([.ref (a 0), .int x, .int y1, .int z]) ++ List.replicate (4 - (lg_sl ([.ref (a 0), .int x, .int y1, .int z])).length) Slot.unset).toArray = ls at hl ⊢
  have hl : lv_has ls 4 [(0, .ref (a 0)), (1, .int x), (2, .int y1), (3, .int z)] := hl
  have hw1 := hts (.constant RX4 44 (10000000)) (List.mem_of_getElem? (i := 1) rfl)
  have hw2 := hts (.constant RX4 49 (-10000000)) (List.mem_of_getElem? (i := 2) rfl)
  refine lv_iload_n hx hb dX4_close_0 rfl (lv_at hl 1 rfl) ?_
  refine lv_iconst (v := 0) hx hb dX4_close_1 (by decide) ?_
  refine lv_ldc hx hb hown hw1 dX4_close_2 ?_
  rcases Bool.eq_false_or_eq_true (pg_in x 0 10000000) with c_4 | c_4
  · refine pg_vU (pg_rS (As := [.int x, .int 0, .int 10000000]) (rest := []) ⟨hx, hb, hml, hown, hts⟩ (cc_rng_ok l D (pg_ty cI cZ) (pg_wB cI cZ a u) s.heap.size x 0 10000000 c_4) (va_cwS 3 hts gX4_close_X4_checkRange rfl rfl rfl (by decide +kernel) ⟨Nat.le_of_ble_eq_true rfl, Nat.le_of_ble_eq_true rfl⟩) hK hP hD rfl hl.1 rfl (Nat.le_of_ble_eq_true rfl) dX4_close_4 ⟨Nat.le_of_ble_eq_true rfl, Nat.le_of_ble_eq_true rfl⟩) hD hS hA (fun H locs hP hD hS => ?_)
    refine lv_iload_n hx hb dX4_close_7 rfl (lv_at hl 2 rfl) ?_
    refine lv_iconst (v := 0) hx hb dX4_close_8 (by decide) ?_
    refine lv_ldc hx hb hown hw1 dX4_close_9 ?_
    rcases Bool.eq_false_or_eq_true (pg_in y1 0 10000000) with c_11 | c_11
    · refine pg_vU (pg_rS (As := [.int y1, .int 0, .int 10000000]) (rest := []) ⟨hx, hb, hml, hown, hts⟩ (cc_rng_ok l D (pg_ty cI cZ) (pg_wB cI cZ a u) H.size y1 0 10000000 c_11) (va_cwS 3 hts gX4_close_X4_checkRange rfl rfl rfl (by decide +kernel) ⟨Nat.le_of_ble_eq_true rfl, Nat.le_of_ble_eq_true rfl⟩) hK hP hD rfl hl.1 rfl (Nat.le_of_ble_eq_true rfl) dX4_close_11 ⟨Nat.le_of_ble_eq_true rfl, Nat.le_of_ble_eq_true rfl⟩) hD hS hA (fun H locs hP hD hS => ?_)
      refine lv_iload_n hx hb dX4_close_14 rfl (lv_at hl 3 rfl) ?_
      refine lv_ldc hx hb hown hw2 dX4_close_15 ?_
      refine lv_ldc hx hb hown hw1 dX4_close_17 ?_
      rcases Bool.eq_false_or_eq_true (pg_in z (-10000000) 10000000) with c_19 | c_19
      · refine pg_vU (pg_rS (As := [.int z, .int (-10000000), .int 10000000]) (rest := []) ⟨hx, hb, hml, hown, hts⟩ (cc_rng_ok l D (pg_ty cI cZ) (pg_wB cI cZ a u) H.size z (-10000000) 10000000 c_19) (va_cwS 3 hts gX4_close_X4_checkRange rfl rfl rfl (by decide +kernel) ⟨Nat.le_of_ble_eq_true rfl, Nat.le_of_ble_eq_true rfl⟩) hK hP hD rfl hl.1 rfl (Nat.le_of_ble_eq_true rfl) dX4_close_19 ⟨Nat.le_of_ble_eq_true rfl, Nat.le_of_ble_eq_true rfl⟩) hD hS hA (fun H locs hP hD hS => ?_)
        refine lv_aload_n hx hb dX4_close_22 rfl (lv_at hl 0 rfl) ?_
        rcases Bool.eq_false_or_eq_true (pg_eq (u.1 3) (-1)) with c_23 | c_23
        · exact absurd (hthr.symm.trans (by simp only [pg_t_close, c_4, c_11, c_19, c_23, cond_true, cond_false, Bool.not_true, Bool.not_false])) h0
        · have he : e9 = 2 := hthr.symm.trans (by simp only [pg_t_close, c_4, c_11, c_19, c_23, cond_true, cond_false, Bool.not_true, Bool.not_false])
          obtain rfl := h9_2 he
          exact pg_thru (pg_xV (As := []) (rest := []) ⟨hx, hb, hml, hown, hts⟩ (cc_ncl_no l hfl D cI cZ a H.size u c_23) (cwV 0 hts gX4_close_X4_checkNotClosed rfl rfl rfl (by decide +kernel) ⟨Nat.le_of_ble_eq_true rfl, Nat.le_of_ble_eq_true rfl⟩) hK hP hD hS hA hE 0 (ci := 4) rfl rfl rfl rfl hl.1 rfl (Nat.le_of_ble_eq_true rfl) dX4_close_23 ⟨Nat.le_of_ble_eq_true rfl, Nat.le_of_ble_eq_true rfl⟩) hD hS hA hout hlocks (Nat.le_of_ble_eq_true rfl) (Nat.le_of_ble_eq_true rfl)
      · have he : e9 = 1 := hthr.symm.trans (by simp only [pg_t_close, c_4, c_11, c_19, cond_true, cond_false, Bool.not_true, Bool.not_false])
        obtain rfl := h9_1 he
        exact pg_thru (pg_xS (As := [.int z, .int (-10000000), .int 10000000]) (rest := []) ⟨hx, hb, hml, hown, hts⟩ (cc_rng_no l hfl D (pg_ty cI cZ) (pg_wB cI cZ a u) H.size z (-10000000) 10000000 c_19) (va_cwS 3 hts gX4_close_X4_checkRange rfl rfl rfl (by decide +kernel) ⟨Nat.le_of_ble_eq_true rfl, Nat.le_of_ble_eq_true rfl⟩) hK hP hD hS hA hE rfl hl.1 rfl (Nat.le_of_ble_eq_true rfl) dX4_close_19 ⟨Nat.le_of_ble_eq_true rfl, Nat.le_of_ble_eq_true rfl⟩) hD hS hA hout hlocks (Nat.le_of_ble_eq_true rfl) (Nat.le_of_ble_eq_true rfl)
    · have he : e9 = 1 := hthr.symm.trans (by simp only [pg_t_close, c_4, c_11, cond_true, cond_false, Bool.not_true, Bool.not_false])
      obtain rfl := h9_1 he
      exact pg_thru (pg_xS (As := [.int y1, .int 0, .int 10000000]) (rest := []) ⟨hx, hb, hml, hown, hts⟩ (cc_rng_no l hfl D (pg_ty cI cZ) (pg_wB cI cZ a u) H.size y1 0 10000000 c_11) (va_cwS 3 hts gX4_close_X4_checkRange rfl rfl rfl (by decide +kernel) ⟨Nat.le_of_ble_eq_true rfl, Nat.le_of_ble_eq_true rfl⟩) hK hP hD hS hA hE rfl hl.1 rfl (Nat.le_of_ble_eq_true rfl) dX4_close_11 ⟨Nat.le_of_ble_eq_true rfl, Nat.le_of_ble_eq_true rfl⟩) hD hS hA hout hlocks (Nat.le_of_ble_eq_true rfl) (Nat.le_of_ble_eq_true rfl)
  · have he : e9 = 1 := hthr.symm.trans (by simp only [pg_t_close, c_4, cond_true, cond_false, Bool.not_true, Bool.not_false])
    obtain rfl := h9_1 he
    exact pg_thru (pg_xS (As := [.int x, .int 0, .int 10000000]) (rest := []) ⟨hx, hb, hml, hown, hts⟩ (cc_rng_no l hfl D (pg_ty cI cZ) (pg_wB cI cZ a u) s.heap.size x 0 10000000 c_4) (va_cwS 3 hts gX4_close_X4_checkRange rfl rfl rfl (by decide +kernel) ⟨Nat.le_of_ble_eq_true rfl, Nat.le_of_ble_eq_true rfl⟩) hK hP hD hS hA hE rfl hl.1 rfl (Nat.le_of_ble_eq_true rfl) dX4_close_4 ⟨Nat.le_of_ble_eq_true rfl, Nat.le_of_ble_eq_true rfl⟩) hD hS hA hout hlocks (Nat.le_of_ble_eq_true rfl) (Nat.le_of_ble_eq_true rfl)
set_option maxHeartbeats 4000000 in
set_option maxRecDepth 100000 in
/-- cc_advance: returns -/
theorem cc_advance_ok (l : Launch) (D : va_G) (cI cZ : ClassId) (a : Nat → Nat) (sz : Nat) (u : pg_St) (n : Nat) (hn : u.1 10 = nI n) (h20 : n ≤ 20) (x : Int32) (hthr : pg_t_advance (!pg_eq (u.1 3) (-1)) (u.1 3) x = 0) : Met l yX4_advance wsX4_advance ({ frames := 2, cells := 0, slots := 0, locals := 44 }) (va_Pc [.ref (a 0), .int x] (pg_B D (pg_ty cI cZ) (pg_wB cI cZ a u) sz)) (va_Qi (fun r u' => r = u.1 3 + x ∧ u' = pg_free (upd u.1 3 (u.1 3 + x), u.2) n (u.1 3 + x)) (pg_E D (pg_ty cI cZ) (va_A (pg_wB cI cZ a u) sz) (pg_wB cI cZ a)) (va_A (pg_wB cI cZ a u) sz)) 0 0 (va_A (pg_wB cI cZ a u) sz) := by
  refine Met.ofW (cc := cX4_advance) (maxL := 2) (ret := (some .int)) (by decide) rfl ?_
  intro p e s m args below meth c s₁ B hml hv
  obtain ⟨rfl, hsz, hP, hK, hD0⟩ := hv
  have hx := B.exec
  have hb := B.bytes
  have hr := B.returns
  have hts := atoms_spec (ws := wsX4_advance) B.pre
  have hown : s.vm.findClass RX4 = some m.cls := findClass_of_methodNamed B.named
  have hlocks := B.notSynchronized
  subst hsz
  have hD := hD0.self (sz := s.heap.size)
  generalize hAe : va_A (pg_wB cI cZ a u) s.heap.size = A at hD ⊢
  have hA : ∀ q : Nat, s.heap.size ≤ q → A q := fun q h => by rw [← hAe]; exact Or.inr h
  have hS : va_S A s.heap s.heap [] := va_S.rf
  have hl := lv_entry ([.ref (a 0), .int x]) (n := 2) (Nat.le_of_ble_eq_true rfl)
  rw [lg_entry_eq]
  generalize (lg_sl ([.ref (a 0), .int x]) ++ List.replicate (2 - (lg_sl ([.ref (a 0), .int x])).length) Slot.unset).toArray = ls at hl ⊢
  have hl : lv_has ls 2 [(0, .ref (a 0)), (1, .int x)] := hl
  have hiX4 : ∀ w ∈ wsX40, w ∈ wsX4_advance := fun _ h => List.mem_cons_of_mem _ (List.mem_append_left _ (List.mem_append_left _ (List.mem_append_left _ (List.mem_append_left _ (List.mem_append_right _ (h))))))
  have hw3 := hts (.fieldLink RX4 37 "PegBox" "day" "I") (List.mem_of_getElem? (i := 3) rfl)
  refine lv_iload_n hx hb dX4_advance_0 rfl (lv_at hl 1 rfl) ?_
  refine lv_iconst (v := 1) hx hb dX4_advance_1 (by decide) ?_
  refine lv_sipush (v := 400) hx hb dX4_advance_2 (by decide) ?_
  rcases Bool.eq_false_or_eq_true (pg_in x 1 400) with c_5 | c_5
  · refine pg_vU (pg_rS (As := [.int x, .int 1, .int 400]) (rest := []) ⟨hx, hb, hml, hown, hts⟩ (cc_rng_ok l D (pg_ty cI cZ) (pg_wB cI cZ a u) s.heap.size x 1 400 c_5) (va_cwS 3 hts gX4_advance_X4_checkRange rfl rfl rfl (by decide +kernel) ⟨Nat.le_of_ble_eq_true rfl, Nat.le_of_ble_eq_true rfl⟩) hK hP hD rfl hl.1 rfl (Nat.le_of_ble_eq_true rfl) dX4_advance_5 ⟨Nat.le_of_ble_eq_true rfl, Nat.le_of_ble_eq_true rfl⟩) hD hS hA (fun H locs hP hD hS => ?_)
    refine lv_aload_n hx hb dX4_advance_8 rfl (lv_at hl 0 rfl) ?_
    rcases Bool.eq_false_or_eq_true (pg_eq (u.1 3) (-1)) with c_9 | c_9
    · exact absurd hthr (by first | (simp only [pg_t_advance, c_5, c_9, cond_true, cond_false, Bool.not_true, Bool.not_false]; done) | (simp only [pg_t_advance, c_5, c_9, cond_true, cond_false, Bool.not_true, Bool.not_false]; decide))
    · refine pg_vE (pg_rV (As := []) (rest := []) ⟨hx, hb, hml, hown, hts⟩ (cc_cls_ok l D cI cZ a H.size u c_9) (cwV 0 hts gX4_advance_X4_checkClosed rfl rfl rfl (by decide +kernel) ⟨Nat.le_of_ble_eq_true rfl, Nat.le_of_ble_eq_true rfl⟩) hK hP hD 0 (ci := 4) rfl rfl rfl rfl hl.1 rfl (Nat.le_of_ble_eq_true rfl) dX4_advance_9 ⟨Nat.le_of_ble_eq_true rfl, Nat.le_of_ble_eq_true rfl⟩) hD hS hA (fun H locs hP hD hS => ?_)
      refine lv_aload_n hx hb dX4_advance_12 rfl (lv_at hl 0 rfl) ?_
      refine va_get (D := D) (ci := 4) (v := .int (u.1 3)) (C := RX4) (T := TX4) (N := 14) hx hb hts hiX4 hown hK hP 0 rfl rfl 7 (by decide) hw3 (fun _ h9 => h9) rfl dX4_advance_13 ?_
      refine lv_iload_n hx hb dX4_advance_16 rfl (lv_at hl 1 rfl) ?_
      refine lv_iadd hx hb dX4_advance_17 ?_
      refine lv_sipush (v := 4000) hx hb dX4_advance_18 (by decide) ?_
      refine lv_icmp_le (tgt := 34) hx hb dX4_advance_21 (by decide) (fun c_21 => ?_) (fun c_21 => ?_)
      · have d_21 := pg_le_t c_21
        refine lv_aload_n hx hb dX4_advance_34 rfl (lv_at hl 0 rfl) ?_
        refine lv_dup hx hb dX4_advance_35 rfl ?_
        refine va_get (D := D) (ci := 4) (v := .int (u.1 3)) (C := RX4) (T := TX4) (N := 14) hx hb hts hiX4 hown hK hP 0 rfl rfl 7 (by decide) hw3 (fun _ h9 => h9) rfl dX4_advance_36 ?_
        refine lv_iload_n hx hb dX4_advance_39 rfl (lv_at hl 1 rfl) ?_
        refine lv_iadd hx hb dX4_advance_40 ?_
        refine va_put (D := D) (ci := 4) (v := .int ((u.1 3) + x)) (ty := .int) (C := RX4) (T := TX4) (N := 14) hx hb hts hiX4 tyX4 tyX4_ok nmX4 hown hK hP hD hS 0 rfl rfl 7 (by decide) hw3 (fun _ h9 => h9) rfl (by decide +kernel) rfl rfl (Nat.le_of_ble_eq_true rfl) dX4_advance_41 (fun H locs hP hD hS => ?_)
        have hP : va_P D vwCl (pg_wB cI cZ a ((upd u.1 3 ((u.1 3) + x)), u.2)) H := hP
        have hD : va_D A (pg_wB cI cZ a ((upd u.1 3 ((u.1 3) + x)), u.2)) := hD
        refine lv_aload_n hx hb dX4_advance_44 rfl (lv_at hl 0 rfl) ?_
        refine pg_vE (pg_rV (As := []) (rest := []) ⟨hx, hb, hml, hown, hts⟩ (cc_free l D cI cZ a H.size ((upd u.1 3 ((u.1 3) + x)), u.2) n hn h20) (cwV 0 hts gX4_advance_X4_free rfl rfl rfl (by decide +kernel) ⟨Nat.le_of_ble_eq_true rfl, Nat.le_of_ble_eq_true rfl⟩) hK hP hD 0 (ci := 4) rfl rfl rfl rfl hl.1 rfl (Nat.le_of_ble_eq_true rfl) dX4_advance_45 ⟨Nat.le_of_ble_eq_true rfl, Nat.le_of_ble_eq_true rfl⟩) hD hS hA (fun H locs hP hD hS => ?_)
        refine lv_aload_n hx hb dX4_advance_48 rfl (lv_at hl 0 rfl) ?_
        refine va_get (D := D) (ci := 4) (v := .int ((pg_free (upd u.1 3 (u.1 3 + x), u.2) n (u.1 3 + x)).1 3)) (C := RX4) (T := TX4) (N := 14) hx hb hts hiX4 hown hK hP 0 rfl rfl 7 (by decide) hw3 (fun _ h9 => h9) rfl dX4_advance_49 ?_
        exact W.iret (v := (pg_free (upd u.1 3 (u.1 3 + x), u.2) n (u.1 3 + x)).1 3) hx hb hr (fun t9 ht9 hW9 => ⟨⟨(pg_free (upd u.1 3 (u.1 3 + x), u.2) n (u.1 3 + x)).1 3, (pg_free (upd u.1 3 (u.1 3 + x), u.2) n (u.1 3 + x)), rfl, ⟨by rw [pg_free_3]; rfl, rfl⟩, by rw [ht9]; exact hP, va_K.moved hW9.alike hK, hD⟩, hS.F ht9⟩) hS.2.2 dX4_advance_52
      · have d_21 := pg_le_f c_21
        exact absurd hthr (by first | (simp only [pg_t_advance, c_5, c_9, d_21, cond_true, cond_false, Bool.not_true, Bool.not_false]; done) | (simp only [pg_t_advance, c_5, c_9, d_21, cond_true, cond_false, Bool.not_true, Bool.not_false]; decide))
  · exact absurd hthr (by first | (simp only [pg_t_advance, c_5, cond_true, cond_false, Bool.not_true, Bool.not_false]; done) | (simp only [pg_t_advance, c_5, cond_true, cond_false, Bool.not_true, Bool.not_false]; decide))
set_option maxHeartbeats 4000000 in
set_option maxRecDepth 100000 in
/-- cc_advance: throws -/
theorem cc_advance_no (l : Launch) (hfl : l.stackTraces = false) (D : va_G) (cI cZ : ClassId) (a : Nat → Nat) (sz : Nat) (u : pg_St) (n : Nat) (hn : u.1 10 = nI n) (h20 : n ≤ 20) (x : Int32) (e9 : Int32) (nm : String) (hthr : pg_t_advance (!pg_eq (u.1 3) (-1)) (u.1 3) x = e9) (h0 : e9 ≠ 0) (h9_1 : e9 = 1 → nm = pg_ia) (h9_2 : e9 = 2 → nm = pg_is) : vx_Met l yX4_advance wsX4_advance ({ frames := 7, cells := 1, slots := 6, locals := 108 }) (va_Pc [.ref (a 0), .int x] (pg_T D (pg_ty cI cZ) (pg_wB cI cZ a u) sz)) pg_No (pg_X D (pg_wB cI cZ a u) (va_A (pg_wB cI cZ a u) sz) nm) 1 6 (va_A (pg_wB cI cZ a u) sz) := by
  refine vx_ofW (cc := cX4_advance) (maxL := 2) (ret := (some .int)) (by decide) rfl ?_
  intro p e s m args below meth c s₁ B hml hout hv
  obtain ⟨rfl, ⟨hsz, hP, hK, hD0⟩, hE⟩ := hv
  have hx := B.exec
  have hb := B.bytes
  have hr := B.returns
  have hts := atoms_spec (ws := wsX4_advance) B.pre
  have hown : s.vm.findClass RX4 = some m.cls := findClass_of_methodNamed B.named
  have hlocks := B.notSynchronized
  subst hsz
  have hD := hD0.self (sz := s.heap.size)
  generalize hAe : va_A (pg_wB cI cZ a u) s.heap.size = A at hD hE ⊢
  have hA : ∀ q : Nat, s.heap.size ≤ q → A q := fun q h => by rw [← hAe]; exact Or.inr h
  have hS : va_S A s.heap s.heap [] := va_S.rf
  have hl := lv_entry ([.ref (a 0), .int x]) (n := 2) (Nat.le_of_ble_eq_true rfl)
  rw [lg_entry_eq]
  generalize (lg_sl ([.ref (a 0), .int x]) ++ List.replicate (2 - (lg_sl ([.ref (a 0), .int x])).length) Slot.unset).toArray = ls at hl ⊢
  have hl : lv_has ls 2 [(0, .ref (a 0)), (1, .int x)] := hl
  have hiX4 : ∀ w ∈ wsX40, w ∈ wsX4_advance := fun _ h => List.mem_cons_of_mem _ (List.mem_append_left _ (List.mem_append_left _ (List.mem_append_left _ (List.mem_append_left _ (List.mem_append_right _ (h))))))
  have hw1 := hts (.classLink RX4 124 "java/lang/IllegalStateException") (List.mem_of_getElem? (i := 1) rfl)
  have hw2 := hts (.initialized "java/lang/IllegalStateException") (List.mem_of_getElem? (i := 2) rfl)
  have hw3 := hts (.fieldLink RX4 37 "PegBox" "day" "I") (List.mem_of_getElem? (i := 3) rfl)
  refine lv_iload_n hx hb dX4_advance_0 rfl (lv_at hl 1 rfl) ?_
  refine lv_iconst (v := 1) hx hb dX4_advance_1 (by decide) ?_
  refine lv_sipush (v := 400) hx hb dX4_advance_2 (by decide) ?_
  rcases Bool.eq_false_or_eq_true (pg_in x 1 400) with c_5 | c_5
  · refine pg_vU (pg_rS (As := [.int x, .int 1, .int 400]) (rest := []) ⟨hx, hb, hml, hown, hts⟩ (cc_rng_ok l D (pg_ty cI cZ) (pg_wB cI cZ a u) s.heap.size x 1 400 c_5) (va_cwS 3 hts gX4_advance_X4_checkRange rfl rfl rfl (by decide +kernel) ⟨Nat.le_of_ble_eq_true rfl, Nat.le_of_ble_eq_true rfl⟩) hK hP hD rfl hl.1 rfl (Nat.le_of_ble_eq_true rfl) dX4_advance_5 ⟨Nat.le_of_ble_eq_true rfl, Nat.le_of_ble_eq_true rfl⟩) hD hS hA (fun H locs hP hD hS => ?_)
    refine lv_aload_n hx hb dX4_advance_8 rfl (lv_at hl 0 rfl) ?_
    rcases Bool.eq_false_or_eq_true (pg_eq (u.1 3) (-1)) with c_9 | c_9
    · have he : e9 = 2 := hthr.symm.trans (by simp only [pg_t_advance, c_5, c_9, cond_true, cond_false, Bool.not_true, Bool.not_false])
      obtain rfl := h9_2 he
      exact pg_thru (pg_xV (As := []) (rest := []) ⟨hx, hb, hml, hown, hts⟩ (cc_cls_no l hfl D cI cZ a H.size u c_9) (cwV 0 hts gX4_advance_X4_checkClosed rfl rfl rfl (by decide +kernel) ⟨Nat.le_of_ble_eq_true rfl, Nat.le_of_ble_eq_true rfl⟩) hK hP hD hS hA hE 0 (ci := 4) rfl rfl rfl rfl hl.1 rfl (Nat.le_of_ble_eq_true rfl) dX4_advance_9 ⟨Nat.le_of_ble_eq_true rfl, Nat.le_of_ble_eq_true rfl⟩) hD hS hA hout hlocks (Nat.le_of_ble_eq_true rfl) (Nat.le_of_ble_eq_true rfl)
    · refine pg_vE (pg_rV (As := []) (rest := []) ⟨hx, hb, hml, hown, hts⟩ (cc_cls_ok l D cI cZ a H.size u c_9) (cwV 0 hts gX4_advance_X4_checkClosed rfl rfl rfl (by decide +kernel) ⟨Nat.le_of_ble_eq_true rfl, Nat.le_of_ble_eq_true rfl⟩) hK hP hD 0 (ci := 4) rfl rfl rfl rfl hl.1 rfl (Nat.le_of_ble_eq_true rfl) dX4_advance_9 ⟨Nat.le_of_ble_eq_true rfl, Nat.le_of_ble_eq_true rfl⟩) hD hS hA (fun H locs hP hD hS => ?_)
      refine lv_aload_n hx hb dX4_advance_12 rfl (lv_at hl 0 rfl) ?_
      refine va_get (D := D) (ci := 4) (v := .int (u.1 3)) (C := RX4) (T := TX4) (N := 14) hx hb hts hiX4 hown hK hP 0 rfl rfl 7 (by decide) hw3 (fun _ h9 => h9) rfl dX4_advance_13 ?_
      refine lv_iload_n hx hb dX4_advance_16 rfl (lv_at hl 1 rfl) ?_
      refine lv_iadd hx hb dX4_advance_17 ?_
      refine lv_sipush (v := 4000) hx hb dX4_advance_18 (by decide) ?_
      refine lv_icmp_le (tgt := 34) hx hb dX4_advance_21 (by decide) (fun c_21 => ?_) (fun c_21 => ?_)
      · have d_21 := pg_le_t c_21
        exact absurd (hthr.symm.trans (by simp only [pg_t_advance, c_5, c_9, d_21, cond_true, cond_false, Bool.not_true, Bool.not_false])) h0
      · have d_21 := pg_le_f c_21
        have he : e9 = 2 := hthr.symm.trans (by simp only [pg_t_advance, c_5, c_9, d_21, cond_true, cond_false, Bool.not_true, Bool.not_false])
        obtain rfl := h9_2 he
        exact pg_thr (nm := pg_is) (i := 5) hx hb hfl hown (by decide +kernel) hw1 hw2 rfl (fun w9 h => hts w9 (List.mem_cons_of_mem _ (List.mem_append_left _ (List.mem_append_right _ (h))))) pg_h2_is pg_hg_is hE hP hS hA (by rw [hml]; exact hl.1) dX4_advance_24 dX4_advance_27 dX4_advance_28 dX4_advance_30 dX4_advance_33 hout (Nat.le_of_ble_eq_true rfl) (Nat.le_of_ble_eq_true rfl) (Nat.le_of_ble_eq_true rfl) (Nat.le_of_ble_eq_true rfl) hlocks (Nat.le_of_ble_eq_true rfl) (Nat.le_of_ble_eq_true rfl)
  · have he : e9 = 1 := hthr.symm.trans (by simp only [pg_t_advance, c_5, cond_true, cond_false, Bool.not_true, Bool.not_false])
    obtain rfl := h9_1 he
    exact pg_thru (pg_xS (As := [.int x, .int 1, .int 400]) (rest := []) ⟨hx, hb, hml, hown, hts⟩ (cc_rng_no l hfl D (pg_ty cI cZ) (pg_wB cI cZ a u) s.heap.size x 1 400 c_5) (va_cwS 3 hts gX4_advance_X4_checkRange rfl rfl rfl (by decide +kernel) ⟨Nat.le_of_ble_eq_true rfl, Nat.le_of_ble_eq_true rfl⟩) hK hP hD hS hA hE rfl hl.1 rfl (Nat.le_of_ble_eq_true rfl) dX4_advance_5 ⟨Nat.le_of_ble_eq_true rfl, Nat.le_of_ble_eq_true rfl⟩) hD hS hA hout hlocks (Nat.le_of_ble_eq_true rfl) (Nat.le_of_ble_eq_true rfl)
set_option maxHeartbeats 4000000 in
set_option maxRecDepth 100000 in
/-- cc_claim: returns -/
theorem cc_claim_ok (l : Launch) (D : va_G) (cI cZ : ClassId) (a : Nat → Nat) (sz : Nat) (u : pg_St) (n : Nat) (hn : u.1 10 = nI n) (h20 : n ≤ 20) (k x : Int32) (hthr : pg_t_claim (!pg_eq (u.1 3) (-1)) (u.1 3) u.2 (nI n) k x = 0) : Met l yX4_claim wsX4_claim ({ frames := 1, cells := 0, slots := 0, locals := 22 }) (va_Pc [.ref (a 0), .int k, .int x] (pg_B D (pg_ty cI cZ) (pg_wB cI cZ a u) sz)) (va_Qi (fun r u' => r = nI n ∧ u' = pg_claim u n k x) (pg_E D (pg_ty cI cZ) (va_A (pg_wB cI cZ a u) sz) (pg_wB cI cZ a)) (va_A (pg_wB cI cZ a u) sz)) 0 0 (va_A (pg_wB cI cZ a u) sz) := by
  refine Met.ofW (cc := cX4_claim) (maxL := 4) (ret := (some .int)) (by decide) rfl ?_
  intro p e s m args below meth c s₁ B hml hv
  obtain ⟨rfl, hsz, hP, hK, hD0⟩ := hv
  have hx := B.exec
  have hb := B.bytes
  have hr := B.returns
  have hts := atoms_spec (ws := wsX4_claim) B.pre
  have hown : s.vm.findClass RX4 = some m.cls := findClass_of_methodNamed B.named
  have hlocks := B.notSynchronized
  subst hsz
  have hD := hD0.self (sz := s.heap.size)
  generalize hAe : va_A (pg_wB cI cZ a u) s.heap.size = A at hD ⊢
  have hA : ∀ q : Nat, s.heap.size ≤ q → A q := fun q h => by rw [← hAe]; exact Or.inr h
  have hS : va_S A s.heap s.heap [] := va_S.rf
  have hl := lv_entry ([.ref (a 0), .int k, .int x]) (n := 4) (Nat.le_of_ble_eq_true rfl)
  rw [lg_entry_eq]
  generalize (lg_sl ([.ref (a 0), .int k, .int x]) ++ List.replicate (4 - (lg_sl ([.ref (a 0), .int k, .int x])).length) Slot.unset).toArray = ls at hl ⊢
  have hl : lv_has ls 4 [(0, .ref (a 0)), (1, .int k), (2, .int x)] := hl
  have hiX0 : ∀ w ∈ wsX00, w ∈ wsX4_claim := fun _ h => List.mem_cons_of_mem _ (List.mem_append_left _ (List.mem_append_left _ (List.mem_append_left _ (List.mem_append_right _ (h)))))
  have hiX3 : ∀ w ∈ wsX30, w ∈ wsX4_claim := fun _ h => List.mem_cons_of_mem _ (List.mem_append_left _ (List.mem_append_left _ (List.mem_append_left _ (List.mem_append_left _ (List.mem_append_right _ (h))))))
  have hiX4 : ∀ w ∈ wsX40, w ∈ wsX4_claim := fun _ h => List.mem_cons_of_mem _ (List.mem_append_left _ (List.mem_append_left _ (List.mem_append_left _ (List.mem_append_left _ (List.mem_append_left _ (List.mem_append_right _ (h)))))))
  have hw3 := hts (.constant RX4 44 (10000000)) (List.mem_of_getElem? (i := 3) rfl)
  have hw4 := hts (.fieldLink RX4 37 "PegBox" "day" "I") (List.mem_of_getElem? (i := 4) rfl)
  have hw5 := hts (.fieldLink RX4 19 "PegBox" "kinds" "LPegBox$Kinds;") (List.mem_of_getElem? (i := 5) rfl)
  have hw6 := hts (.fieldLink RX4 87 "PegBox$Kinds" "lastDays" "[I") (List.mem_of_getElem? (i := 6) rfl)
  have hw7 := hts (.fieldLink RX4 26 "PegBox" "book" "LPegBox$ClaimBook;") (List.mem_of_getElem? (i := 7) rfl)
  have hw8 := hts (.fieldLink RX4 136 "PegBox$ClaimBook" "count" "I") (List.mem_of_getElem? (i := 8) rfl)
  have hw9 := hts (.fieldLink RX4 141 "PegBox$ClaimBook" "kinds" "[I") (List.mem_of_getElem? (i := 9) rfl)
  have hw10 := hts (.fieldLink RX4 143 "PegBox$ClaimBook" "amounts" "[I") (List.mem_of_getElem? (i := 10) rfl)
  have hw11 := hts (.fieldLink RX4 144 "PegBox$ClaimBook" "offers" "[I") (List.mem_of_getElem? (i := 11) rfl)
  have hw12 := hts (.fieldLink RX4 147 "PegBox$ClaimBook" "settled" "[I") (List.mem_of_getElem? (i := 12) rfl)
  refine lv_iload_n hx hb dX4_claim_0 rfl (lv_at hl 1 rfl) ?_
  refine lv_iconst (v := 3) hx hb dX4_claim_1 (by decide) ?_
  rcases Bool.eq_false_or_eq_true (pg_nb k 3) with c_2 | c_2
  · refine pg_vU (pg_rS (As := [.int k, .int 3]) (rest := []) ⟨hx, hb, hml, hown, hts⟩ (cc_num_ok l D (pg_ty cI cZ) (pg_wB cI cZ a u) s.heap.size k 3 c_2) (va_cwS 2 hts gX4_claim_X4_checkNumber rfl rfl rfl (by decide +kernel) ⟨Nat.le_of_ble_eq_true rfl, Nat.le_of_ble_eq_true rfl⟩) hK hP hD rfl hl.1 rfl (Nat.le_of_ble_eq_true rfl) dX4_claim_2 ⟨Nat.le_of_ble_eq_true rfl, Nat.le_of_ble_eq_true rfl⟩) hD hS hA (fun H locs hP hD hS => ?_)
    obtain ⟨j, hj, rfl⟩ := pg_nb_nI (n := 3) (by omega) c_2
    have hcl : (nI j).toNatClampNeg = j := nI_clamp (by omega)
    refine lv_iload_n hx hb dX4_claim_5 rfl (lv_at hl 2 rfl) ?_
    refine lv_iconst (v := 1) hx hb dX4_claim_6 (by decide) ?_
    refine lv_ldc hx hb hown hw3 dX4_claim_7 ?_
    rcases Bool.eq_false_or_eq_true (pg_in x 1 10000000) with c_9 | c_9
    · refine pg_vU (pg_rS (As := [.int x, .int 1, .int 10000000]) (rest := []) ⟨hx, hb, hml, hown, hts⟩ (cc_rng_ok l D (pg_ty cI cZ) (pg_wB cI cZ a u) H.size x 1 10000000 c_9) (va_cwS 3 hts gX4_claim_X4_checkRange rfl rfl rfl (by decide +kernel) ⟨Nat.le_of_ble_eq_true rfl, Nat.le_of_ble_eq_true rfl⟩) hK hP hD rfl hl.1 rfl (Nat.le_of_ble_eq_true rfl) dX4_claim_9 ⟨Nat.le_of_ble_eq_true rfl, Nat.le_of_ble_eq_true rfl⟩) hD hS hA (fun H locs hP hD hS => ?_)
      refine lv_aload_n hx hb dX4_claim_12 rfl (lv_at hl 0 rfl) ?_
      rcases Bool.eq_false_or_eq_true (pg_eq (u.1 3) (-1)) with c_13 | c_13
      · exact absurd hthr (by first | (simp only [pg_t_claim, c_2, hcl, c_9, c_13, cond_true, cond_false, Bool.not_true, Bool.not_false]; done) | (simp only [pg_t_claim, c_2, hcl, c_9, c_13, cond_true, cond_false, Bool.not_true, Bool.not_false]; decide))
      · refine pg_vE (pg_rV (As := []) (rest := []) ⟨hx, hb, hml, hown, hts⟩ (cc_cls_ok l D cI cZ a H.size u c_13) (cwV 0 hts gX4_claim_X4_checkClosed rfl rfl rfl (by decide +kernel) ⟨Nat.le_of_ble_eq_true rfl, Nat.le_of_ble_eq_true rfl⟩) hK hP hD 0 (ci := 4) rfl rfl rfl rfl hl.1 rfl (Nat.le_of_ble_eq_true rfl) dX4_claim_13 ⟨Nat.le_of_ble_eq_true rfl, Nat.le_of_ble_eq_true rfl⟩) hD hS hA (fun H locs hP hD hS => ?_)
        refine lv_aload_n hx hb dX4_claim_16 rfl (lv_at hl 0 rfl) ?_
        refine va_get (D := D) (ci := 4) (v := .int (u.1 3)) (C := RX4) (T := TX4) (N := 14) hx hb hts hiX4 hown hK hP 0 rfl rfl 7 (by decide) hw4 (fun _ h9 => h9) rfl dX4_claim_17 ?_
        refine lv_aload_n hx hb dX4_claim_20 rfl (lv_at hl 0 rfl) ?_
        refine va_get (D := D) (ci := 4) (v := .ref (a 2)) (C := RX4) (T := TX4) (N := 14) hx hb hts hiX4 hown hK hP 0 rfl rfl 1 (by decide) hw5 (fun _ h9 => h9) rfl dX4_claim_21 ?_
        refine va_get (D := D) (ci := 3) (v := .ref (a 11)) (C := RX3) (T := TX3) (N := 5) hx hb hts hiX3 hown hK hP 2 rfl rfl 4 (by decide) hw6 (fun _ h9 => h9) rfl dX4_claim_24 ?_
        refine lv_iload_n hx hb dX4_claim_27 rfl (lv_at hl 1 rfl) ?_
        refine pg_ild (f := u.2 6) hx hb hK hP 11 0 rfl rfl (show j < _ by omega) (by decide) dX4_claim_28 ?_
        refine lv_icmp_le (tgt := 42) hx hb dX4_claim_29 (by decide) (fun c_29 => ?_) (fun c_29 => ?_)
        · have d_29 := pg_le_t c_29
          refine lv_aload_n hx hb dX4_claim_42 rfl (lv_at hl 0 rfl) ?_
          refine va_get (D := D) (ci := 4) (v := .ref (a 3)) (C := RX4) (T := TX4) (N := 14) hx hb hts hiX4 hown hK hP 0 rfl rfl 2 (by decide) hw7 (fun _ h9 => h9) rfl dX4_claim_43 ?_
          refine va_get (D := D) (ci := 0) (v := .int (u.1 10)) (C := RX0) (T := TX0) (N := 5) hx hb hts hiX0 hown hK hP 3 rfl rfl 4 (by decide) hw8 (fun _ h9 => h9) rfl dX4_claim_46 ?_
          rw [hn]
          refine lv_istore_n (lv' := [(3, .int (nI n)), (0, .ref (a 0)), (1, .int (nI j)), (2, .int x)]) hx hb dX4_claim_49 rfl hl (by decide) rfl (fun ls hl => ?_)
          refine lv_iload_n hx hb dX4_claim_50 rfl (lv_at hl 0 rfl) ?_
          refine lv_bipush (v := 20) hx hb dX4_claim_51 (by decide) ?_
          refine lv_icmp_lt (tgt := 66) hx hb dX4_claim_53 (by decide) (fun c_53 => ?_) (fun c_53 => ?_)
          · have d_53 := pg_le_f (Int32.not_le.mpr c_53)
            have hn20 : n < 20 := (nI_ltI (by omega) (by decide)).mp (show nI n < nI 20 from c_53)
            refine lv_aload_n hx hb dX4_claim_66 rfl (lv_at hl 1 rfl) ?_
            refine va_get (D := D) (ci := 4) (v := .ref (a 3)) (C := RX4) (T := TX4) (N := 14) hx hb hts hiX4 hown hK hP 0 rfl rfl 2 (by decide) hw7 (fun _ h9 => h9) rfl dX4_claim_67 ?_
            refine va_get (D := D) (ci := 0) (v := .ref (a 12)) (C := RX0) (T := TX0) (N := 5) hx hb hts hiX0 hown hK hP 3 rfl rfl 0 (by decide) hw9 (fun _ h9 => h9) rfl dX4_claim_70 ?_
            refine lv_iload_n hx hb dX4_claim_73 rfl (lv_at hl 0 rfl) ?_
            refine lv_iload_n hx hb dX4_claim_74 rfl (lv_at hl 2 rfl) ?_
            refine pg_ist hx hb hK hP hD hS 12 0 rfl rfl (show n < _ by omega) (by decide) dX4_claim_75 (fun H locs hP hD hS => ?_)
            have hP : va_P D vwCl (pg_wB cI cZ a (u.1, (pg_row u.2 7 (upd (u.2 7) n (nI j))))) H := hP
            have hD : va_D A (pg_wB cI cZ a (u.1, (pg_row u.2 7 (upd (u.2 7) n (nI j))))) := hD
            refine lv_aload_n hx hb dX4_claim_76 rfl (lv_at hl 1 rfl) ?_
            refine va_get (D := D) (ci := 4) (v := .ref (a 3)) (C := RX4) (T := TX4) (N := 14) hx hb hts hiX4 hown hK hP 0 rfl rfl 2 (by decide) hw7 (fun _ h9 => h9) rfl dX4_claim_77 ?_
            refine va_get (D := D) (ci := 0) (v := .ref (a 13)) (C := RX0) (T := TX0) (N := 5) hx hb hts hiX0 hown hK hP 3 rfl rfl 1 (by decide) hw10 (fun _ h9 => h9) rfl dX4_claim_80 ?_
            refine lv_iload_n hx hb dX4_claim_83 rfl (lv_at hl 0 rfl) ?_
            refine lv_iload_n hx hb dX4_claim_84 rfl (lv_at hl 3 rfl) ?_
            refine pg_ist hx hb hK hP hD hS 13 0 rfl rfl (show n < _ by omega) (by decide) dX4_claim_85 (fun H locs hP hD hS => ?_)
            have hP : va_P D vwCl (pg_wB cI cZ a (u.1, (pg_row (pg_row u.2 7 (upd (u.2 7) n (nI j))) 8 (upd (u.2 8) n x)))) H := hP
            have hD : va_D A (pg_wB cI cZ a (u.1, (pg_row (pg_row u.2 7 (upd (u.2 7) n (nI j))) 8 (upd (u.2 8) n x)))) := hD
            refine lv_aload_n hx hb dX4_claim_86 rfl (lv_at hl 1 rfl) ?_
            refine va_get (D := D) (ci := 4) (v := .ref (a 3)) (C := RX4) (T := TX4) (N := 14) hx hb hts hiX4 hown hK hP 0 rfl rfl 2 (by decide) hw7 (fun _ h9 => h9) rfl dX4_claim_87 ?_
            refine va_get (D := D) (ci := 0) (v := .ref (a 14)) (C := RX0) (T := TX0) (N := 5) hx hb hts hiX0 hown hK hP 3 rfl rfl 2 (by decide) hw11 (fun _ h9 => h9) rfl dX4_claim_90 ?_
            refine lv_iload_n hx hb dX4_claim_93 rfl (lv_at hl 0 rfl) ?_
            refine lv_iconst (v := (-1)) hx hb dX4_claim_94 (by decide) ?_
            refine pg_ist hx hb hK hP hD hS 14 0 rfl rfl (show n < _ by omega) (by decide) dX4_claim_95 (fun H locs hP hD hS => ?_)
            have hP : va_P D vwCl (pg_wB cI cZ a (u.1, (pg_row (pg_row (pg_row u.2 7 (upd (u.2 7) n (nI j))) 8 (upd (u.2 8) n x)) 9 (upd (u.2 9) n (-1))))) H := hP
            have hD : va_D A (pg_wB cI cZ a (u.1, (pg_row (pg_row (pg_row u.2 7 (upd (u.2 7) n (nI j))) 8 (upd (u.2 8) n x)) 9 (upd (u.2 9) n (-1))))) := hD
            refine lv_aload_n hx hb dX4_claim_96 rfl (lv_at hl 1 rfl) ?_
            refine va_get (D := D) (ci := 4) (v := .ref (a 3)) (C := RX4) (T := TX4) (N := 14) hx hb hts hiX4 hown hK hP 0 rfl rfl 2 (by decide) hw7 (fun _ h9 => h9) rfl dX4_claim_97 ?_
            refine va_get (D := D) (ci := 0) (v := .ref (a 15)) (C := RX0) (T := TX0) (N := 5) hx hb hts hiX0 hown hK hP 3 rfl rfl 3 (by decide) hw12 (fun _ h9 => h9) rfl dX4_claim_100 ?_
            refine lv_iload_n hx hb dX4_claim_103 rfl (lv_at hl 0 rfl) ?_
            refine lv_iconst (v := (-1)) hx hb dX4_claim_104 (by decide) ?_
            refine pg_ist hx hb hK hP hD hS 15 0 rfl rfl (show n < _ by omega) (by decide) dX4_claim_105 (fun H locs hP hD hS => ?_)
            have hP : va_P D vwCl (pg_wB cI cZ a (u.1, (pg_row (pg_row (pg_row (pg_row u.2 7 (upd (u.2 7) n (nI j))) 8 (upd (u.2 8) n x)) 9 (upd (u.2 9) n (-1))) 10 (upd (u.2 10) n (-1))))) H := hP
            have hD : va_D A (pg_wB cI cZ a (u.1, (pg_row (pg_row (pg_row (pg_row u.2 7 (upd (u.2 7) n (nI j))) 8 (upd (u.2 8) n x)) 9 (upd (u.2 9) n (-1))) 10 (upd (u.2 10) n (-1))))) := hD
            refine lv_aload_n hx hb dX4_claim_106 rfl (lv_at hl 1 rfl) ?_
            refine va_get (D := D) (ci := 4) (v := .ref (a 3)) (C := RX4) (T := TX4) (N := 14) hx hb hts hiX4 hown hK hP 0 rfl rfl 2 (by decide) hw7 (fun _ h9 => h9) rfl dX4_claim_107 ?_
            refine lv_iload_n hx hb dX4_claim_110 rfl (lv_at hl 0 rfl) ?_
            refine lv_iconst (v := 1) hx hb dX4_claim_111 (by decide) ?_
            refine lv_iadd hx hb dX4_claim_112 ?_
            rw [← nI_succ n]
            refine va_put (D := D) (ci := 0) (v := .int (nI (n + 1))) (ty := .int) (C := RX0) (T := TX0) (N := 5) hx hb hts hiX0 tyX0 tyX0_ok nmX0 hown hK hP hD hS 3 rfl rfl 4 (by decide) hw8 (fun _ h9 => h9) rfl (by decide +kernel) rfl rfl (Nat.le_of_ble_eq_true rfl) dX4_claim_113 (fun H locs hP hD hS => ?_)
            have hP : va_P D vwCl (pg_wB cI cZ a ((upd u.1 10 (nI (n + 1))), (pg_row (pg_row (pg_row (pg_row u.2 7 (upd (u.2 7) n (nI j))) 8 (upd (u.2 8) n x)) 9 (upd (u.2 9) n (-1))) 10 (upd (u.2 10) n (-1))))) H := hP
            have hD : va_D A (pg_wB cI cZ a ((upd u.1 10 (nI (n + 1))), (pg_row (pg_row (pg_row (pg_row u.2 7 (upd (u.2 7) n (nI j))) 8 (upd (u.2 8) n x)) 9 (upd (u.2 9) n (-1))) 10 (upd (u.2 10) n (-1))))) := hD
            refine lv_iload_n hx hb dX4_claim_116 rfl (lv_at hl 0 rfl) ?_
            exact W.iret (v := nI n) hx hb hr (fun t9 ht9 hW9 => ⟨⟨nI n, ((upd u.1 10 (nI (n + 1))), (pg_row (pg_row (pg_row (pg_row u.2 7 (upd (u.2 7) n (nI j))) 8 (upd (u.2 8) n x)) 9 (upd (u.2 9) n (-1))) 10 (upd (u.2 10) n (-1)))), rfl, ⟨rfl, rfl⟩, by rw [ht9]; exact hP, va_K.moved hW9.alike hK, hD⟩, hS.F ht9⟩) hS.2.2 dX4_claim_117
          · have d_53 := pg_le_t (Int32.not_lt.mp c_53)
            exact absurd hthr (by first | (simp only [pg_t_claim, c_2, hcl, c_9, c_13, d_29, d_53, cond_true, cond_false, Bool.not_true, Bool.not_false]; done) | (simp only [pg_t_claim, c_2, hcl, c_9, c_13, d_29, d_53, cond_true, cond_false, Bool.not_true, Bool.not_false]; decide))
        · have d_29 := pg_le_f c_29
          exact absurd hthr (by first | (simp only [pg_t_claim, c_2, hcl, c_9, c_13, d_29, cond_true, cond_false, Bool.not_true, Bool.not_false]; done) | (simp only [pg_t_claim, c_2, hcl, c_9, c_13, d_29, cond_true, cond_false, Bool.not_true, Bool.not_false]; decide))
    · exact absurd hthr (by first | (simp only [pg_t_claim, c_2, hcl, c_9, cond_true, cond_false, Bool.not_true, Bool.not_false]; done) | (simp only [pg_t_claim, c_2, hcl, c_9, cond_true, cond_false, Bool.not_true, Bool.not_false]; decide))
  · exact absurd hthr (by first | (simp only [pg_t_claim, c_2, cond_true, cond_false, Bool.not_true, Bool.not_false]; done) | (simp only [pg_t_claim, c_2, cond_true, cond_false, Bool.not_true, Bool.not_false]; decide))
set_option maxHeartbeats 4000000 in
set_option maxRecDepth 100000 in
/-- cc_claim: throws -/
theorem cc_claim_no (l : Launch) (hfl : l.stackTraces = false) (D : va_G) (cI cZ : ClassId) (a : Nat → Nat) (sz : Nat) (u : pg_St) (n : Nat) (hn : u.1 10 = nI n) (h20 : n ≤ 20) (k x : Int32) (e9 : Int32) (nm : String) (hthr : pg_t_claim (!pg_eq (u.1 3) (-1)) (u.1 3) u.2 (nI n) k x = e9) (h0 : e9 ≠ 0) (h9_1 : e9 = 1 → nm = pg_io) (h9_2 : e9 = 2 → nm = pg_ia) (h9_3 : e9 = 3 → nm = pg_is) : vx_Met l yX4_claim wsX4_claim ({ frames := 7, cells := 1, slots := 6, locals := 108 }) (va_Pc [.ref (a 0), .int k, .int x] (pg_T D (pg_ty cI cZ) (pg_wB cI cZ a u) sz)) pg_No (pg_X D (pg_wB cI cZ a u) (va_A (pg_wB cI cZ a u) sz) nm) 1 6 (va_A (pg_wB cI cZ a u) sz) := by
  refine vx_ofW (cc := cX4_claim) (maxL := 4) (ret := (some .int)) (by decide) rfl ?_
  intro p e s m args below meth c s₁ B hml hout hv
  obtain ⟨rfl, ⟨hsz, hP, hK, hD0⟩, hE⟩ := hv
  have hx := B.exec
  have hb := B.bytes
  have hr := B.returns
  have hts := atoms_spec (ws := wsX4_claim) B.pre
  have hown : s.vm.findClass RX4 = some m.cls := findClass_of_methodNamed B.named
  have hlocks := B.notSynchronized
  subst hsz
  have hD := hD0.self (sz := s.heap.size)
  generalize hAe : va_A (pg_wB cI cZ a u) s.heap.size = A at hD hE ⊢
  have hA : ∀ q : Nat, s.heap.size ≤ q → A q := fun q h => by rw [← hAe]; exact Or.inr h
  have hS : va_S A s.heap s.heap [] := va_S.rf
  have hl := lv_entry ([.ref (a 0), .int k, .int x]) (n := 4) (Nat.le_of_ble_eq_true rfl)
  rw [lg_entry_eq]
  generalize (lg_sl ([.ref (a 0), .int k, .int x]) ++ List.replicate (4 - (lg_sl ([.ref (a 0), .int k, .int x])).length) Slot.unset).toArray = ls at hl ⊢
  have hl : lv_has ls 4 [(0, .ref (a 0)), (1, .int k), (2, .int x)] := hl
  have hiX0 : ∀ w ∈ wsX00, w ∈ wsX4_claim := fun _ h => List.mem_cons_of_mem _ (List.mem_append_left _ (List.mem_append_left _ (List.mem_append_left _ (List.mem_append_right _ (h)))))
  have hiX3 : ∀ w ∈ wsX30, w ∈ wsX4_claim := fun _ h => List.mem_cons_of_mem _ (List.mem_append_left _ (List.mem_append_left _ (List.mem_append_left _ (List.mem_append_left _ (List.mem_append_right _ (h))))))
  have hiX4 : ∀ w ∈ wsX40, w ∈ wsX4_claim := fun _ h => List.mem_cons_of_mem _ (List.mem_append_left _ (List.mem_append_left _ (List.mem_append_left _ (List.mem_append_left _ (List.mem_append_left _ (List.mem_append_right _ (h)))))))
  have hw1 := hts (.classLink RX4 124 "java/lang/IllegalStateException") (List.mem_of_getElem? (i := 1) rfl)
  have hw2 := hts (.initialized "java/lang/IllegalStateException") (List.mem_of_getElem? (i := 2) rfl)
  have hw3 := hts (.constant RX4 44 (10000000)) (List.mem_of_getElem? (i := 3) rfl)
  have hw4 := hts (.fieldLink RX4 37 "PegBox" "day" "I") (List.mem_of_getElem? (i := 4) rfl)
  have hw5 := hts (.fieldLink RX4 19 "PegBox" "kinds" "LPegBox$Kinds;") (List.mem_of_getElem? (i := 5) rfl)
  have hw6 := hts (.fieldLink RX4 87 "PegBox$Kinds" "lastDays" "[I") (List.mem_of_getElem? (i := 6) rfl)
  have hw7 := hts (.fieldLink RX4 26 "PegBox" "book" "LPegBox$ClaimBook;") (List.mem_of_getElem? (i := 7) rfl)
  have hw8 := hts (.fieldLink RX4 136 "PegBox$ClaimBook" "count" "I") (List.mem_of_getElem? (i := 8) rfl)
  refine lv_iload_n hx hb dX4_claim_0 rfl (lv_at hl 1 rfl) ?_
  refine lv_iconst (v := 3) hx hb dX4_claim_1 (by decide) ?_
  rcases Bool.eq_false_or_eq_true (pg_nb k 3) with c_2 | c_2
  · refine pg_vU (pg_rS (As := [.int k, .int 3]) (rest := []) ⟨hx, hb, hml, hown, hts⟩ (cc_num_ok l D (pg_ty cI cZ) (pg_wB cI cZ a u) s.heap.size k 3 c_2) (va_cwS 2 hts gX4_claim_X4_checkNumber rfl rfl rfl (by decide +kernel) ⟨Nat.le_of_ble_eq_true rfl, Nat.le_of_ble_eq_true rfl⟩) hK hP hD rfl hl.1 rfl (Nat.le_of_ble_eq_true rfl) dX4_claim_2 ⟨Nat.le_of_ble_eq_true rfl, Nat.le_of_ble_eq_true rfl⟩) hD hS hA (fun H locs hP hD hS => ?_)
    obtain ⟨j, hj, rfl⟩ := pg_nb_nI (n := 3) (by omega) c_2
    have hcl : (nI j).toNatClampNeg = j := nI_clamp (by omega)
    refine lv_iload_n hx hb dX4_claim_5 rfl (lv_at hl 2 rfl) ?_
    refine lv_iconst (v := 1) hx hb dX4_claim_6 (by decide) ?_
    refine lv_ldc hx hb hown hw3 dX4_claim_7 ?_
    rcases Bool.eq_false_or_eq_true (pg_in x 1 10000000) with c_9 | c_9
    · refine pg_vU (pg_rS (As := [.int x, .int 1, .int 10000000]) (rest := []) ⟨hx, hb, hml, hown, hts⟩ (cc_rng_ok l D (pg_ty cI cZ) (pg_wB cI cZ a u) H.size x 1 10000000 c_9) (va_cwS 3 hts gX4_claim_X4_checkRange rfl rfl rfl (by decide +kernel) ⟨Nat.le_of_ble_eq_true rfl, Nat.le_of_ble_eq_true rfl⟩) hK hP hD rfl hl.1 rfl (Nat.le_of_ble_eq_true rfl) dX4_claim_9 ⟨Nat.le_of_ble_eq_true rfl, Nat.le_of_ble_eq_true rfl⟩) hD hS hA (fun H locs hP hD hS => ?_)
      refine lv_aload_n hx hb dX4_claim_12 rfl (lv_at hl 0 rfl) ?_
      rcases Bool.eq_false_or_eq_true (pg_eq (u.1 3) (-1)) with c_13 | c_13
      · have he : e9 = 3 := hthr.symm.trans (by simp only [pg_t_claim, c_2, hcl, c_9, c_13, cond_true, cond_false, Bool.not_true, Bool.not_false])
        obtain rfl := h9_3 he
        exact pg_thru (pg_xV (As := []) (rest := []) ⟨hx, hb, hml, hown, hts⟩ (cc_cls_no l hfl D cI cZ a H.size u c_13) (cwV 0 hts gX4_claim_X4_checkClosed rfl rfl rfl (by decide +kernel) ⟨Nat.le_of_ble_eq_true rfl, Nat.le_of_ble_eq_true rfl⟩) hK hP hD hS hA hE 0 (ci := 4) rfl rfl rfl rfl hl.1 rfl (Nat.le_of_ble_eq_true rfl) dX4_claim_13 ⟨Nat.le_of_ble_eq_true rfl, Nat.le_of_ble_eq_true rfl⟩) hD hS hA hout hlocks (Nat.le_of_ble_eq_true rfl) (Nat.le_of_ble_eq_true rfl)
      · refine pg_vE (pg_rV (As := []) (rest := []) ⟨hx, hb, hml, hown, hts⟩ (cc_cls_ok l D cI cZ a H.size u c_13) (cwV 0 hts gX4_claim_X4_checkClosed rfl rfl rfl (by decide +kernel) ⟨Nat.le_of_ble_eq_true rfl, Nat.le_of_ble_eq_true rfl⟩) hK hP hD 0 (ci := 4) rfl rfl rfl rfl hl.1 rfl (Nat.le_of_ble_eq_true rfl) dX4_claim_13 ⟨Nat.le_of_ble_eq_true rfl, Nat.le_of_ble_eq_true rfl⟩) hD hS hA (fun H locs hP hD hS => ?_)
        refine lv_aload_n hx hb dX4_claim_16 rfl (lv_at hl 0 rfl) ?_
        refine va_get (D := D) (ci := 4) (v := .int (u.1 3)) (C := RX4) (T := TX4) (N := 14) hx hb hts hiX4 hown hK hP 0 rfl rfl 7 (by decide) hw4 (fun _ h9 => h9) rfl dX4_claim_17 ?_
        refine lv_aload_n hx hb dX4_claim_20 rfl (lv_at hl 0 rfl) ?_
        refine va_get (D := D) (ci := 4) (v := .ref (a 2)) (C := RX4) (T := TX4) (N := 14) hx hb hts hiX4 hown hK hP 0 rfl rfl 1 (by decide) hw5 (fun _ h9 => h9) rfl dX4_claim_21 ?_
        refine va_get (D := D) (ci := 3) (v := .ref (a 11)) (C := RX3) (T := TX3) (N := 5) hx hb hts hiX3 hown hK hP 2 rfl rfl 4 (by decide) hw6 (fun _ h9 => h9) rfl dX4_claim_24 ?_
        refine lv_iload_n hx hb dX4_claim_27 rfl (lv_at hl 1 rfl) ?_
        refine pg_ild (f := u.2 6) hx hb hK hP 11 0 rfl rfl (show j < _ by omega) (by decide) dX4_claim_28 ?_
        refine lv_icmp_le (tgt := 42) hx hb dX4_claim_29 (by decide) (fun c_29 => ?_) (fun c_29 => ?_)
        · have d_29 := pg_le_t c_29
          refine lv_aload_n hx hb dX4_claim_42 rfl (lv_at hl 0 rfl) ?_
          refine va_get (D := D) (ci := 4) (v := .ref (a 3)) (C := RX4) (T := TX4) (N := 14) hx hb hts hiX4 hown hK hP 0 rfl rfl 2 (by decide) hw7 (fun _ h9 => h9) rfl dX4_claim_43 ?_
          refine va_get (D := D) (ci := 0) (v := .int (u.1 10)) (C := RX0) (T := TX0) (N := 5) hx hb hts hiX0 hown hK hP 3 rfl rfl 4 (by decide) hw8 (fun _ h9 => h9) rfl dX4_claim_46 ?_
          rw [hn]
          refine lv_istore_n (lv' := [(3, .int (nI n)), (0, .ref (a 0)), (1, .int (nI j)), (2, .int x)]) hx hb dX4_claim_49 rfl hl (by decide) rfl (fun ls hl => ?_)
          refine lv_iload_n hx hb dX4_claim_50 rfl (lv_at hl 0 rfl) ?_
          refine lv_bipush (v := 20) hx hb dX4_claim_51 (by decide) ?_
          refine lv_icmp_lt (tgt := 66) hx hb dX4_claim_53 (by decide) (fun c_53 => ?_) (fun c_53 => ?_)
          · have d_53 := pg_le_f (Int32.not_le.mpr c_53)
            exact absurd (hthr.symm.trans (by simp only [pg_t_claim, c_2, hcl, c_9, c_13, d_29, d_53, cond_true, cond_false, Bool.not_true, Bool.not_false])) h0
          · have d_53 := pg_le_t (Int32.not_lt.mp c_53)
            have he : e9 = 3 := hthr.symm.trans (by simp only [pg_t_claim, c_2, hcl, c_9, c_13, d_29, d_53, cond_true, cond_false, Bool.not_true, Bool.not_false])
            obtain rfl := h9_3 he
            exact pg_thr (nm := pg_is) (i := 7) hx hb hfl hown (by decide +kernel) hw1 hw2 rfl (fun w9 h => hts w9 (List.mem_cons_of_mem _ (List.mem_append_left _ (List.mem_append_left _ (List.mem_append_right _ (h)))))) pg_h2_is pg_hg_is hE hP hS hA (by rw [hml]; exact hl.1) dX4_claim_56 dX4_claim_59 dX4_claim_60 dX4_claim_62 dX4_claim_65 hout (Nat.le_of_ble_eq_true rfl) (Nat.le_of_ble_eq_true rfl) (Nat.le_of_ble_eq_true rfl) (Nat.le_of_ble_eq_true rfl) hlocks (Nat.le_of_ble_eq_true rfl) (Nat.le_of_ble_eq_true rfl)
        · have d_29 := pg_le_f c_29
          have he : e9 = 3 := hthr.symm.trans (by simp only [pg_t_claim, c_2, hcl, c_9, c_13, d_29, cond_true, cond_false, Bool.not_true, Bool.not_false])
          obtain rfl := h9_3 he
          exact pg_thr (nm := pg_is) (i := 6) hx hb hfl hown (by decide +kernel) hw1 hw2 rfl (fun w9 h => hts w9 (List.mem_cons_of_mem _ (List.mem_append_left _ (List.mem_append_left _ (List.mem_append_right _ (h)))))) pg_h2_is pg_hg_is hE hP hS hA (by rw [hml]; exact hl.1) dX4_claim_32 dX4_claim_35 dX4_claim_36 dX4_claim_38 dX4_claim_41 hout (Nat.le_of_ble_eq_true rfl) (Nat.le_of_ble_eq_true rfl) (Nat.le_of_ble_eq_true rfl) (Nat.le_of_ble_eq_true rfl) hlocks (Nat.le_of_ble_eq_true rfl) (Nat.le_of_ble_eq_true rfl)
    · have he : e9 = 2 := hthr.symm.trans (by simp only [pg_t_claim, c_2, hcl, c_9, cond_true, cond_false, Bool.not_true, Bool.not_false])
      obtain rfl := h9_2 he
      exact pg_thru (pg_xS (As := [.int x, .int 1, .int 10000000]) (rest := []) ⟨hx, hb, hml, hown, hts⟩ (cc_rng_no l hfl D (pg_ty cI cZ) (pg_wB cI cZ a u) H.size x 1 10000000 c_9) (va_cwS 3 hts gX4_claim_X4_checkRange rfl rfl rfl (by decide +kernel) ⟨Nat.le_of_ble_eq_true rfl, Nat.le_of_ble_eq_true rfl⟩) hK hP hD hS hA hE rfl hl.1 rfl (Nat.le_of_ble_eq_true rfl) dX4_claim_9 ⟨Nat.le_of_ble_eq_true rfl, Nat.le_of_ble_eq_true rfl⟩) hD hS hA hout hlocks (Nat.le_of_ble_eq_true rfl) (Nat.le_of_ble_eq_true rfl)
  · have he : e9 = 1 := hthr.symm.trans (by simp only [pg_t_claim, c_2, cond_true, cond_false, Bool.not_true, Bool.not_false])
    obtain rfl := h9_1 he
    exact pg_thru (pg_xS (As := [.int k, .int 3]) (rest := []) ⟨hx, hb, hml, hown, hts⟩ (cc_num_no l hfl D (pg_ty cI cZ) (pg_wB cI cZ a u) s.heap.size k 3 c_2) (va_cwS 2 hts gX4_claim_X4_checkNumber rfl rfl rfl (by decide +kernel) ⟨Nat.le_of_ble_eq_true rfl, Nat.le_of_ble_eq_true rfl⟩) hK hP hD hS hA hE rfl hl.1 rfl (Nat.le_of_ble_eq_true rfl) dX4_claim_2 ⟨Nat.le_of_ble_eq_true rfl, Nat.le_of_ble_eq_true rfl⟩) hD hS hA hout hlocks (Nat.le_of_ble_eq_true rfl) (Nat.le_of_ble_eq_true rfl)
set_option maxHeartbeats 4000000 in
set_option maxRecDepth 100000 in
/-- cc_offer: returns -/
theorem cc_offer_ok (l : Launch) (D : va_G) (cI cZ : ClassId) (a : Nat → Nat) (sz : Nat) (u : pg_St) (n : Nat) (hn : u.1 10 = nI n) (h20 : n ≤ 20) (k x : Int32) (hthr : pg_t_offer u.2 (nI n) k x = 0) : Met l yX4_offer wsX4_offer ({ frames := 1, cells := 0, slots := 0, locals := 22 }) (va_Pc [.ref (a 0), .int k, .int x] (pg_B D (pg_ty cI cZ) (pg_wB cI cZ a u) sz)) (va_Qi (fun r u' => r = u.2 9 k.toNatClampNeg ∧ u' = (u.1, pg_row u.2 9 (upd (u.2 9) k.toNatClampNeg x))) (pg_E D (pg_ty cI cZ) (va_A (pg_wB cI cZ a u) sz) (pg_wB cI cZ a)) (va_A (pg_wB cI cZ a u) sz)) 0 0 (va_A (pg_wB cI cZ a u) sz) := by
  refine Met.ofW (cc := cX4_offer) (maxL := 4) (ret := (some .int)) (by decide) rfl ?_
  intro p e s m args below meth c s₁ B hml hv
  obtain ⟨rfl, hsz, hP, hK, hD0⟩ := hv
  have hx := B.exec
  have hb := B.bytes
  have hr := B.returns
  have hts := atoms_spec (ws := wsX4_offer) B.pre
  have hown : s.vm.findClass RX4 = some m.cls := findClass_of_methodNamed B.named
  have hlocks := B.notSynchronized
  subst hsz
  have hD := hD0.self (sz := s.heap.size)
  generalize hAe : va_A (pg_wB cI cZ a u) s.heap.size = A at hD ⊢
  have hA : ∀ q : Nat, s.heap.size ≤ q → A q := fun q h => by rw [← hAe]; exact Or.inr h
  have hS : va_S A s.heap s.heap [] := va_S.rf
  have hl := lv_entry ([.ref (a 0), .int k, .int x]) (n := 4) (Nat.le_of_ble_eq_true rfl)
  rw [lg_entry_eq]
  generalize (lg_sl ([.ref (a 0), .int k, .int x]) ++ List.replicate (4 - (lg_sl ([.ref (a 0), .int k, .int x])).length) Slot.unset).toArray = ls at hl ⊢
  have hl : lv_has ls 4 [(0, .ref (a 0)), (1, .int k), (2, .int x)] := hl
  have hiX0 : ∀ w ∈ wsX00, w ∈ wsX4_offer := fun _ h => List.mem_cons_of_mem _ (List.mem_append_left _ (List.mem_append_left _ (List.mem_append_left _ (List.mem_append_right _ (h)))))
  have hiX4 : ∀ w ∈ wsX40, w ∈ wsX4_offer := fun _ h => List.mem_cons_of_mem _ (List.mem_append_left _ (List.mem_append_left _ (List.mem_append_left _ (List.mem_append_left _ (List.mem_append_right _ (h))))))
  have hw1 := hts (.fieldLink RX4 26 "PegBox" "book" "LPegBox$ClaimBook;") (List.mem_of_getElem? (i := 1) rfl)
  have hw2 := hts (.fieldLink RX4 136 "PegBox$ClaimBook" "count" "I") (List.mem_of_getElem? (i := 2) rfl)
  have hw3 := hts (.fieldLink RX4 147 "PegBox$ClaimBook" "settled" "[I") (List.mem_of_getElem? (i := 3) rfl)
  have hw4 := hts (.fieldLink RX4 143 "PegBox$ClaimBook" "amounts" "[I") (List.mem_of_getElem? (i := 4) rfl)
  have hw5 := hts (.fieldLink RX4 144 "PegBox$ClaimBook" "offers" "[I") (List.mem_of_getElem? (i := 5) rfl)
  refine lv_iload_n hx hb dX4_offer_0 rfl (lv_at hl 1 rfl) ?_
  refine lv_aload_n hx hb dX4_offer_1 rfl (lv_at hl 0 rfl) ?_
  refine va_get (D := D) (ci := 4) (v := .ref (a 3)) (C := RX4) (T := TX4) (N := 14) hx hb hts hiX4 hown hK hP 0 rfl rfl 2 (by decide) hw1 (fun _ h9 => h9) rfl dX4_offer_2 ?_
  refine va_get (D := D) (ci := 0) (v := .int (u.1 10)) (C := RX0) (T := TX0) (N := 5) hx hb hts hiX0 hown hK hP 3 rfl rfl 4 (by decide) hw2 (fun _ h9 => h9) rfl dX4_offer_5 ?_
  rw [hn]
  rcases Bool.eq_false_or_eq_true (pg_nb k (nI n)) with c_8 | c_8
  · refine pg_vU (pg_rS (As := [.int k, .int (nI n)]) (rest := []) ⟨hx, hb, hml, hown, hts⟩ (cc_num_ok l D (pg_ty cI cZ) (pg_wB cI cZ a u) s.heap.size k (nI n) c_8) (va_cwS 2 hts gX4_offer_X4_checkNumber rfl rfl rfl (by decide +kernel) ⟨Nat.le_of_ble_eq_true rfl, Nat.le_of_ble_eq_true rfl⟩) hK hP hD rfl hl.1 rfl (Nat.le_of_ble_eq_true rfl) dX4_offer_8 ⟨Nat.le_of_ble_eq_true rfl, Nat.le_of_ble_eq_true rfl⟩) hD hS hA (fun H locs hP hD hS => ?_)
    obtain ⟨j, hj, rfl⟩ := pg_nb_nI (n := n) (by omega) c_8
    have hcl : (nI j).toNatClampNeg = j := nI_clamp (by omega)
    refine lv_aload_n hx hb dX4_offer_11 rfl (lv_at hl 0 rfl) ?_
    refine va_get (D := D) (ci := 4) (v := .ref (a 3)) (C := RX4) (T := TX4) (N := 14) hx hb hts hiX4 hown hK hP 0 rfl rfl 2 (by decide) hw1 (fun _ h9 => h9) rfl dX4_offer_12 ?_
    refine va_get (D := D) (ci := 0) (v := .ref (a 15)) (C := RX0) (T := TX0) (N := 5) hx hb hts hiX0 hown hK hP 3 rfl rfl 3 (by decide) hw3 (fun _ h9 => h9) rfl dX4_offer_15 ?_
    refine lv_iload_n hx hb dX4_offer_18 rfl (lv_at hl 1 rfl) ?_
    refine pg_ild (f := u.2 10) hx hb hK hP 15 0 rfl rfl (show j < _ by omega) (by decide) dX4_offer_19 ?_
    rcases Bool.eq_false_or_eq_true (pg_eq (u.2 10 j) (-1)) with c_20 | c_20
    · refine pg_vU (pg_rS (As := [.int (u.2 10 j)]) (rest := []) ⟨hx, hb, hml, hown, hts⟩ (cc_opn_ok l D (pg_ty cI cZ) (pg_wB cI cZ a u) H.size (u.2 10 j) c_20) (va_cwS 1 hts gX4_offer_X4_checkOpen rfl rfl rfl (by decide +kernel) ⟨Nat.le_of_ble_eq_true rfl, Nat.le_of_ble_eq_true rfl⟩) hK hP hD rfl hl.1 rfl (Nat.le_of_ble_eq_true rfl) dX4_offer_20 ⟨Nat.le_of_ble_eq_true rfl, Nat.le_of_ble_eq_true rfl⟩) hD hS hA (fun H locs hP hD hS => ?_)
      refine lv_iload_n hx hb dX4_offer_23 rfl (lv_at hl 2 rfl) ?_
      refine lv_iconst (v := 0) hx hb dX4_offer_24 (by decide) ?_
      refine lv_aload_n hx hb dX4_offer_25 rfl (lv_at hl 0 rfl) ?_
      refine va_get (D := D) (ci := 4) (v := .ref (a 3)) (C := RX4) (T := TX4) (N := 14) hx hb hts hiX4 hown hK hP 0 rfl rfl 2 (by decide) hw1 (fun _ h9 => h9) rfl dX4_offer_26 ?_
      refine va_get (D := D) (ci := 0) (v := .ref (a 13)) (C := RX0) (T := TX0) (N := 5) hx hb hts hiX0 hown hK hP 3 rfl rfl 1 (by decide) hw4 (fun _ h9 => h9) rfl dX4_offer_29 ?_
      refine lv_iload_n hx hb dX4_offer_32 rfl (lv_at hl 1 rfl) ?_
      refine pg_ild (f := u.2 8) hx hb hK hP 13 0 rfl rfl (show j < _ by omega) (by decide) dX4_offer_33 ?_
      rcases Bool.eq_false_or_eq_true (pg_in x 0 (u.2 8 j)) with c_34 | c_34
      · refine pg_vU (pg_rS (As := [.int x, .int 0, .int (u.2 8 j)]) (rest := []) ⟨hx, hb, hml, hown, hts⟩ (cc_rng_ok l D (pg_ty cI cZ) (pg_wB cI cZ a u) H.size x 0 (u.2 8 j) c_34) (va_cwS 3 hts gX4_offer_X4_checkRange rfl rfl rfl (by decide +kernel) ⟨Nat.le_of_ble_eq_true rfl, Nat.le_of_ble_eq_true rfl⟩) hK hP hD rfl hl.1 rfl (Nat.le_of_ble_eq_true rfl) dX4_offer_34 ⟨Nat.le_of_ble_eq_true rfl, Nat.le_of_ble_eq_true rfl⟩) hD hS hA (fun H locs hP hD hS => ?_)
        refine lv_aload_n hx hb dX4_offer_37 rfl (lv_at hl 0 rfl) ?_
        refine va_get (D := D) (ci := 4) (v := .ref (a 3)) (C := RX4) (T := TX4) (N := 14) hx hb hts hiX4 hown hK hP 0 rfl rfl 2 (by decide) hw1 (fun _ h9 => h9) rfl dX4_offer_38 ?_
        refine va_get (D := D) (ci := 0) (v := .ref (a 14)) (C := RX0) (T := TX0) (N := 5) hx hb hts hiX0 hown hK hP 3 rfl rfl 2 (by decide) hw5 (fun _ h9 => h9) rfl dX4_offer_41 ?_
        refine lv_iload_n hx hb dX4_offer_44 rfl (lv_at hl 1 rfl) ?_
        refine pg_ild (f := u.2 9) hx hb hK hP 14 0 rfl rfl (show j < _ by omega) (by decide) dX4_offer_45 ?_
        refine lv_istore_n (lv' := [(3, .int (u.2 9 j)), (0, .ref (a 0)), (1, .int (nI j)), (2, .int x)]) hx hb dX4_offer_46 rfl hl (by decide) rfl (fun ls hl => ?_)
        refine lv_aload_n hx hb dX4_offer_47 rfl (lv_at hl 1 rfl) ?_
        refine va_get (D := D) (ci := 4) (v := .ref (a 3)) (C := RX4) (T := TX4) (N := 14) hx hb hts hiX4 hown hK hP 0 rfl rfl 2 (by decide) hw1 (fun _ h9 => h9) rfl dX4_offer_48 ?_
        refine va_get (D := D) (ci := 0) (v := .ref (a 14)) (C := RX0) (T := TX0) (N := 5) hx hb hts hiX0 hown hK hP 3 rfl rfl 2 (by decide) hw5 (fun _ h9 => h9) rfl dX4_offer_51 ?_
        refine lv_iload_n hx hb dX4_offer_54 rfl (lv_at hl 2 rfl) ?_
        refine lv_iload_n hx hb dX4_offer_55 rfl (lv_at hl 3 rfl) ?_
        refine pg_ist hx hb hK hP hD hS 14 0 rfl rfl (show j < _ by omega) (by decide) dX4_offer_56 (fun H locs hP hD hS => ?_)
        have hP : va_P D vwCl (pg_wB cI cZ a (u.1, (pg_row u.2 9 (upd (u.2 9) j x)))) H := hP
        have hD : va_D A (pg_wB cI cZ a (u.1, (pg_row u.2 9 (upd (u.2 9) j x)))) := hD
        refine lv_iload_n hx hb dX4_offer_57 rfl (lv_at hl 0 rfl) ?_
        exact W.iret (v := u.2 9 j) hx hb hr (fun t9 ht9 hW9 => ⟨⟨u.2 9 j, (u.1, (pg_row u.2 9 (upd (u.2 9) j x))), rfl, ⟨by rw [hcl], by rw [hcl]⟩, by rw [ht9]; exact hP, va_K.moved hW9.alike hK, hD⟩, hS.F ht9⟩) hS.2.2 dX4_offer_58
      · exact absurd hthr (by first | (simp only [pg_t_offer, c_8, hcl, c_20, c_34, cond_true, cond_false, Bool.not_true, Bool.not_false]; done) | (simp only [pg_t_offer, c_8, hcl, c_20, c_34, cond_true, cond_false, Bool.not_true, Bool.not_false]; decide))
    · exact absurd hthr (by first | (simp only [pg_t_offer, c_8, hcl, c_20, cond_true, cond_false, Bool.not_true, Bool.not_false]; done) | (simp only [pg_t_offer, c_8, hcl, c_20, cond_true, cond_false, Bool.not_true, Bool.not_false]; decide))
  · exact absurd hthr (by first | (simp only [pg_t_offer, c_8, cond_true, cond_false, Bool.not_true, Bool.not_false]; done) | (simp only [pg_t_offer, c_8, cond_true, cond_false, Bool.not_true, Bool.not_false]; decide))
set_option maxHeartbeats 4000000 in
set_option maxRecDepth 100000 in
/-- cc_offer: throws -/
theorem cc_offer_no (l : Launch) (hfl : l.stackTraces = false) (D : va_G) (cI cZ : ClassId) (a : Nat → Nat) (sz : Nat) (u : pg_St) (n : Nat) (hn : u.1 10 = nI n) (h20 : n ≤ 20) (k x : Int32) (e9 : Int32) (nm : String) (hthr : pg_t_offer u.2 (nI n) k x = e9) (h0 : e9 ≠ 0) (h9_1 : e9 = 1 → nm = pg_io) (h9_2 : e9 = 2 → nm = pg_is) (h9_3 : e9 = 3 → nm = pg_ia) : vx_Met l yX4_offer wsX4_offer ({ frames := 7, cells := 1, slots := 6, locals := 108 }) (va_Pc [.ref (a 0), .int k, .int x] (pg_T D (pg_ty cI cZ) (pg_wB cI cZ a u) sz)) pg_No (pg_X D (pg_wB cI cZ a u) (va_A (pg_wB cI cZ a u) sz) nm) 1 6 (va_A (pg_wB cI cZ a u) sz) := by
  refine vx_ofW (cc := cX4_offer) (maxL := 4) (ret := (some .int)) (by decide) rfl ?_
  intro p e s m args below meth c s₁ B hml hout hv
  obtain ⟨rfl, ⟨hsz, hP, hK, hD0⟩, hE⟩ := hv
  have hx := B.exec
  have hb := B.bytes
  have hr := B.returns
  have hts := atoms_spec (ws := wsX4_offer) B.pre
  have hown : s.vm.findClass RX4 = some m.cls := findClass_of_methodNamed B.named
  have hlocks := B.notSynchronized
  subst hsz
  have hD := hD0.self (sz := s.heap.size)
  generalize hAe : va_A (pg_wB cI cZ a u) s.heap.size = A at hD hE ⊢
  have hA : ∀ q : Nat, s.heap.size ≤ q → A q := fun q h => by rw [← hAe]; exact Or.inr h
  have hS : va_S A s.heap s.heap [] := va_S.rf
  have hl := lv_entry ([.ref (a 0), .int k, .int x]) (n := 4) (Nat.le_of_ble_eq_true rfl)
  rw [lg_entry_eq]
  generalize (lg_sl ([.ref (a 0), .int k, .int x]) ++ List.replicate (4 - (lg_sl ([.ref (a 0), .int k, .int x])).length) Slot.unset).toArray = ls at hl ⊢
  have hl : lv_has ls 4 [(0, .ref (a 0)), (1, .int k), (2, .int x)] := hl
  have hiX0 : ∀ w ∈ wsX00, w ∈ wsX4_offer := fun _ h => List.mem_cons_of_mem _ (List.mem_append_left _ (List.mem_append_left _ (List.mem_append_left _ (List.mem_append_right _ (h)))))
  have hiX4 : ∀ w ∈ wsX40, w ∈ wsX4_offer := fun _ h => List.mem_cons_of_mem _ (List.mem_append_left _ (List.mem_append_left _ (List.mem_append_left _ (List.mem_append_left _ (List.mem_append_right _ (h))))))
  have hw1 := hts (.fieldLink RX4 26 "PegBox" "book" "LPegBox$ClaimBook;") (List.mem_of_getElem? (i := 1) rfl)
  have hw2 := hts (.fieldLink RX4 136 "PegBox$ClaimBook" "count" "I") (List.mem_of_getElem? (i := 2) rfl)
  have hw3 := hts (.fieldLink RX4 147 "PegBox$ClaimBook" "settled" "[I") (List.mem_of_getElem? (i := 3) rfl)
  have hw4 := hts (.fieldLink RX4 143 "PegBox$ClaimBook" "amounts" "[I") (List.mem_of_getElem? (i := 4) rfl)
  refine lv_iload_n hx hb dX4_offer_0 rfl (lv_at hl 1 rfl) ?_
  refine lv_aload_n hx hb dX4_offer_1 rfl (lv_at hl 0 rfl) ?_
  refine va_get (D := D) (ci := 4) (v := .ref (a 3)) (C := RX4) (T := TX4) (N := 14) hx hb hts hiX4 hown hK hP 0 rfl rfl 2 (by decide) hw1 (fun _ h9 => h9) rfl dX4_offer_2 ?_
  refine va_get (D := D) (ci := 0) (v := .int (u.1 10)) (C := RX0) (T := TX0) (N := 5) hx hb hts hiX0 hown hK hP 3 rfl rfl 4 (by decide) hw2 (fun _ h9 => h9) rfl dX4_offer_5 ?_
  rw [hn]
  rcases Bool.eq_false_or_eq_true (pg_nb k (nI n)) with c_8 | c_8
  · refine pg_vU (pg_rS (As := [.int k, .int (nI n)]) (rest := []) ⟨hx, hb, hml, hown, hts⟩ (cc_num_ok l D (pg_ty cI cZ) (pg_wB cI cZ a u) s.heap.size k (nI n) c_8) (va_cwS 2 hts gX4_offer_X4_checkNumber rfl rfl rfl (by decide +kernel) ⟨Nat.le_of_ble_eq_true rfl, Nat.le_of_ble_eq_true rfl⟩) hK hP hD rfl hl.1 rfl (Nat.le_of_ble_eq_true rfl) dX4_offer_8 ⟨Nat.le_of_ble_eq_true rfl, Nat.le_of_ble_eq_true rfl⟩) hD hS hA (fun H locs hP hD hS => ?_)
    obtain ⟨j, hj, rfl⟩ := pg_nb_nI (n := n) (by omega) c_8
    have hcl : (nI j).toNatClampNeg = j := nI_clamp (by omega)
    refine lv_aload_n hx hb dX4_offer_11 rfl (lv_at hl 0 rfl) ?_
    refine va_get (D := D) (ci := 4) (v := .ref (a 3)) (C := RX4) (T := TX4) (N := 14) hx hb hts hiX4 hown hK hP 0 rfl rfl 2 (by decide) hw1 (fun _ h9 => h9) rfl dX4_offer_12 ?_
    refine va_get (D := D) (ci := 0) (v := .ref (a 15)) (C := RX0) (T := TX0) (N := 5) hx hb hts hiX0 hown hK hP 3 rfl rfl 3 (by decide) hw3 (fun _ h9 => h9) rfl dX4_offer_15 ?_
    refine lv_iload_n hx hb dX4_offer_18 rfl (lv_at hl 1 rfl) ?_
    refine pg_ild (f := u.2 10) hx hb hK hP 15 0 rfl rfl (show j < _ by omega) (by decide) dX4_offer_19 ?_
    rcases Bool.eq_false_or_eq_true (pg_eq (u.2 10 j) (-1)) with c_20 | c_20
    · refine pg_vU (pg_rS (As := [.int (u.2 10 j)]) (rest := []) ⟨hx, hb, hml, hown, hts⟩ (cc_opn_ok l D (pg_ty cI cZ) (pg_wB cI cZ a u) H.size (u.2 10 j) c_20) (va_cwS 1 hts gX4_offer_X4_checkOpen rfl rfl rfl (by decide +kernel) ⟨Nat.le_of_ble_eq_true rfl, Nat.le_of_ble_eq_true rfl⟩) hK hP hD rfl hl.1 rfl (Nat.le_of_ble_eq_true rfl) dX4_offer_20 ⟨Nat.le_of_ble_eq_true rfl, Nat.le_of_ble_eq_true rfl⟩) hD hS hA (fun H locs hP hD hS => ?_)
      refine lv_iload_n hx hb dX4_offer_23 rfl (lv_at hl 2 rfl) ?_
      refine lv_iconst (v := 0) hx hb dX4_offer_24 (by decide) ?_
      refine lv_aload_n hx hb dX4_offer_25 rfl (lv_at hl 0 rfl) ?_
      refine va_get (D := D) (ci := 4) (v := .ref (a 3)) (C := RX4) (T := TX4) (N := 14) hx hb hts hiX4 hown hK hP 0 rfl rfl 2 (by decide) hw1 (fun _ h9 => h9) rfl dX4_offer_26 ?_
      refine va_get (D := D) (ci := 0) (v := .ref (a 13)) (C := RX0) (T := TX0) (N := 5) hx hb hts hiX0 hown hK hP 3 rfl rfl 1 (by decide) hw4 (fun _ h9 => h9) rfl dX4_offer_29 ?_
      refine lv_iload_n hx hb dX4_offer_32 rfl (lv_at hl 1 rfl) ?_
      refine pg_ild (f := u.2 8) hx hb hK hP 13 0 rfl rfl (show j < _ by omega) (by decide) dX4_offer_33 ?_
      rcases Bool.eq_false_or_eq_true (pg_in x 0 (u.2 8 j)) with c_34 | c_34
      · exact absurd (hthr.symm.trans (by simp only [pg_t_offer, c_8, hcl, c_20, c_34, cond_true, cond_false, Bool.not_true, Bool.not_false])) h0
      · have he : e9 = 3 := hthr.symm.trans (by simp only [pg_t_offer, c_8, hcl, c_20, c_34, cond_true, cond_false, Bool.not_true, Bool.not_false])
        obtain rfl := h9_3 he
        exact pg_thru (pg_xS (As := [.int x, .int 0, .int (u.2 8 j)]) (rest := []) ⟨hx, hb, hml, hown, hts⟩ (cc_rng_no l hfl D (pg_ty cI cZ) (pg_wB cI cZ a u) H.size x 0 (u.2 8 j) c_34) (va_cwS 3 hts gX4_offer_X4_checkRange rfl rfl rfl (by decide +kernel) ⟨Nat.le_of_ble_eq_true rfl, Nat.le_of_ble_eq_true rfl⟩) hK hP hD hS hA hE rfl hl.1 rfl (Nat.le_of_ble_eq_true rfl) dX4_offer_34 ⟨Nat.le_of_ble_eq_true rfl, Nat.le_of_ble_eq_true rfl⟩) hD hS hA hout hlocks (Nat.le_of_ble_eq_true rfl) (Nat.le_of_ble_eq_true rfl)
    · have he : e9 = 2 := hthr.symm.trans (by simp only [pg_t_offer, c_8, hcl, c_20, cond_true, cond_false, Bool.not_true, Bool.not_false])
      obtain rfl := h9_2 he
      exact pg_thru (pg_xS (As := [.int (u.2 10 j)]) (rest := []) ⟨hx, hb, hml, hown, hts⟩ (cc_opn_no l hfl D (pg_ty cI cZ) (pg_wB cI cZ a u) H.size (u.2 10 j) c_20) (va_cwS 1 hts gX4_offer_X4_checkOpen rfl rfl rfl (by decide +kernel) ⟨Nat.le_of_ble_eq_true rfl, Nat.le_of_ble_eq_true rfl⟩) hK hP hD hS hA hE rfl hl.1 rfl (Nat.le_of_ble_eq_true rfl) dX4_offer_20 ⟨Nat.le_of_ble_eq_true rfl, Nat.le_of_ble_eq_true rfl⟩) hD hS hA hout hlocks (Nat.le_of_ble_eq_true rfl) (Nat.le_of_ble_eq_true rfl)
  · have he : e9 = 1 := hthr.symm.trans (by simp only [pg_t_offer, c_8, cond_true, cond_false, Bool.not_true, Bool.not_false])
    obtain rfl := h9_1 he
    exact pg_thru (pg_xS (As := [.int k, .int (nI n)]) (rest := []) ⟨hx, hb, hml, hown, hts⟩ (cc_num_no l hfl D (pg_ty cI cZ) (pg_wB cI cZ a u) s.heap.size k (nI n) c_8) (va_cwS 2 hts gX4_offer_X4_checkNumber rfl rfl rfl (by decide +kernel) ⟨Nat.le_of_ble_eq_true rfl, Nat.le_of_ble_eq_true rfl⟩) hK hP hD hS hA hE rfl hl.1 rfl (Nat.le_of_ble_eq_true rfl) dX4_offer_8 ⟨Nat.le_of_ble_eq_true rfl, Nat.le_of_ble_eq_true rfl⟩) hD hS hA hout hlocks (Nat.le_of_ble_eq_true rfl) (Nat.le_of_ble_eq_true rfl)
set_option maxHeartbeats 4000000 in
set_option maxRecDepth 100000 in
/-- cc_decide: returns -/
theorem cc_decide_ok (l : Launch) (D : va_G) (cI cZ : ClassId) (a : Nat → Nat) (sz : Nat) (u : pg_St) (n : Nat) (hn : u.1 10 = nI n) (h20 : n ≤ 20) (k x : Int32) (hthr : pg_t_decide u.2 (nI n) k x = 0) : Met l yX4_decide wsX4_decide ({ frames := 6, cells := 0, slots := 0, locals := 129 }) (va_Pc [.ref (a 0), .int k, .int x] (pg_B D (pg_ty cI cZ) (pg_wB cI cZ a u) sz)) (va_Qi (fun r u' => r = pg_back (pg_at u k.toNatClampNeg x) n ∧ u' = pg_pay (pg_at u k.toNatClampNeg x) n (u.1 3)) (pg_E D (pg_ty cI cZ) (va_A (pg_wB cI cZ a u) sz) (pg_wB cI cZ a)) (va_A (pg_wB cI cZ a u) sz)) 0 0 (va_A (pg_wB cI cZ a u) sz) := by
  refine Met.ofW (cc := cX4_decide) (maxL := 4) (ret := (some .int)) (by decide) rfl ?_
  intro p e s m args below meth c s₁ B hml hv
  obtain ⟨rfl, hsz, hP, hK, hD0⟩ := hv
  have hx := B.exec
  have hb := B.bytes
  have hr := B.returns
  have hts := atoms_spec (ws := wsX4_decide) B.pre
  have hown : s.vm.findClass RX4 = some m.cls := findClass_of_methodNamed B.named
  have hlocks := B.notSynchronized
  subst hsz
  have hD := hD0.self (sz := s.heap.size)
  generalize hAe : va_A (pg_wB cI cZ a u) s.heap.size = A at hD ⊢
  have hA : ∀ q : Nat, s.heap.size ≤ q → A q := fun q h => by rw [← hAe]; exact Or.inr h
  have hS : va_S A s.heap s.heap [] := va_S.rf
  have hl := lv_entry ([.ref (a 0), .int k, .int x]) (n := 4) (Nat.le_of_ble_eq_true rfl)
  rw [lg_entry_eq]
  generalize (lg_sl ([.ref (a 0), .int k, .int x]) ++ List.replicate (4 - (lg_sl ([.ref (a 0), .int k, .int x])).length) Slot.unset).toArray = ls at hl ⊢
  have hl : lv_has ls 4 [(0, .ref (a 0)), (1, .int k), (2, .int x)] := hl
  have hiX0 : ∀ w ∈ wsX00, w ∈ wsX4_decide := fun _ h => List.mem_cons_of_mem _ (List.mem_append_left _ (List.mem_append_left _ (List.mem_append_left _ (List.mem_append_left _ (List.mem_append_left _ (List.mem_append_right _ (h)))))))
  have hiX4 : ∀ w ∈ wsX40, w ∈ wsX4_decide := fun _ h => List.mem_cons_of_mem _ (List.mem_append_left _ (List.mem_append_left _ (List.mem_append_left _ (List.mem_append_left _ (List.mem_append_left _ (List.mem_append_left _ (List.mem_append_right _ (h))))))))
  have hw1 := hts (.fieldLink RX4 26 "PegBox" "book" "LPegBox$ClaimBook;") (List.mem_of_getElem? (i := 1) rfl)
  have hw2 := hts (.fieldLink RX4 136 "PegBox$ClaimBook" "count" "I") (List.mem_of_getElem? (i := 2) rfl)
  have hw3 := hts (.fieldLink RX4 147 "PegBox$ClaimBook" "settled" "[I") (List.mem_of_getElem? (i := 3) rfl)
  have hw4 := hts (.fieldLink RX4 144 "PegBox$ClaimBook" "offers" "[I") (List.mem_of_getElem? (i := 4) rfl)
  have hw5 := hts (.fieldLink RX4 143 "PegBox$ClaimBook" "amounts" "[I") (List.mem_of_getElem? (i := 5) rfl)
  refine lv_iload_n hx hb dX4_decide_0 rfl (lv_at hl 1 rfl) ?_
  refine lv_aload_n hx hb dX4_decide_1 rfl (lv_at hl 0 rfl) ?_
  refine va_get (D := D) (ci := 4) (v := .ref (a 3)) (C := RX4) (T := TX4) (N := 14) hx hb hts hiX4 hown hK hP 0 rfl rfl 2 (by decide) hw1 (fun _ h9 => h9) rfl dX4_decide_2 ?_
  refine va_get (D := D) (ci := 0) (v := .int (u.1 10)) (C := RX0) (T := TX0) (N := 5) hx hb hts hiX0 hown hK hP 3 rfl rfl 4 (by decide) hw2 (fun _ h9 => h9) rfl dX4_decide_5 ?_
  rw [hn]
  rcases Bool.eq_false_or_eq_true (pg_nb k (nI n)) with c_8 | c_8
  · refine pg_vU (pg_rS (As := [.int k, .int (nI n)]) (rest := []) ⟨hx, hb, hml, hown, hts⟩ (cc_num_ok l D (pg_ty cI cZ) (pg_wB cI cZ a u) s.heap.size k (nI n) c_8) (va_cwS 2 hts gX4_decide_X4_checkNumber rfl rfl rfl (by decide +kernel) ⟨Nat.le_of_ble_eq_true rfl, Nat.le_of_ble_eq_true rfl⟩) hK hP hD rfl hl.1 rfl (Nat.le_of_ble_eq_true rfl) dX4_decide_8 ⟨Nat.le_of_ble_eq_true rfl, Nat.le_of_ble_eq_true rfl⟩) hD hS hA (fun H locs hP hD hS => ?_)
    obtain ⟨j, hj, rfl⟩ := pg_nb_nI (n := n) (by omega) c_8
    have hcl : (nI j).toNatClampNeg = j := nI_clamp (by omega)
    refine lv_aload_n hx hb dX4_decide_11 rfl (lv_at hl 0 rfl) ?_
    refine va_get (D := D) (ci := 4) (v := .ref (a 3)) (C := RX4) (T := TX4) (N := 14) hx hb hts hiX4 hown hK hP 0 rfl rfl 2 (by decide) hw1 (fun _ h9 => h9) rfl dX4_decide_12 ?_
    refine va_get (D := D) (ci := 0) (v := .ref (a 15)) (C := RX0) (T := TX0) (N := 5) hx hb hts hiX0 hown hK hP 3 rfl rfl 3 (by decide) hw3 (fun _ h9 => h9) rfl dX4_decide_15 ?_
    refine lv_iload_n hx hb dX4_decide_18 rfl (lv_at hl 1 rfl) ?_
    refine pg_ild (f := u.2 10) hx hb hK hP 15 0 rfl rfl (show j < _ by omega) (by decide) dX4_decide_19 ?_
    rcases Bool.eq_false_or_eq_true (pg_eq (u.2 10 j) (-1)) with c_20 | c_20
    · refine pg_vU (pg_rS (As := [.int (u.2 10 j)]) (rest := []) ⟨hx, hb, hml, hown, hts⟩ (cc_opn_ok l D (pg_ty cI cZ) (pg_wB cI cZ a u) H.size (u.2 10 j) c_20) (va_cwS 1 hts gX4_decide_X4_checkOpen rfl rfl rfl (by decide +kernel) ⟨Nat.le_of_ble_eq_true rfl, Nat.le_of_ble_eq_true rfl⟩) hK hP hD rfl hl.1 rfl (Nat.le_of_ble_eq_true rfl) dX4_decide_20 ⟨Nat.le_of_ble_eq_true rfl, Nat.le_of_ble_eq_true rfl⟩) hD hS hA (fun H locs hP hD hS => ?_)
      refine lv_aload_n hx hb dX4_decide_23 rfl (lv_at hl 0 rfl) ?_
      refine va_get (D := D) (ci := 4) (v := .ref (a 3)) (C := RX4) (T := TX4) (N := 14) hx hb hts hiX4 hown hK hP 0 rfl rfl 2 (by decide) hw1 (fun _ h9 => h9) rfl dX4_decide_24 ?_
      refine va_get (D := D) (ci := 0) (v := .ref (a 14)) (C := RX0) (T := TX0) (N := 5) hx hb hts hiX0 hown hK hP 3 rfl rfl 2 (by decide) hw4 (fun _ h9 => h9) rfl dX4_decide_27 ?_
      refine lv_iload_n hx hb dX4_decide_30 rfl (lv_at hl 1 rfl) ?_
      refine pg_ild (f := u.2 9) hx hb hK hP 14 0 rfl rfl (show j < _ by omega) (by decide) dX4_decide_31 ?_
      refine lv_istore_n (lv' := [(3, .int (u.2 9 j)), (0, .ref (a 0)), (1, .int (nI j)), (2, .int x)]) hx hb dX4_decide_32 rfl hl (by decide) rfl (fun ls hl => ?_)
      refine lv_iload_n hx hb dX4_decide_33 rfl (lv_at hl 3 rfl) ?_
      refine lv_iload_n hx hb dX4_decide_34 rfl (lv_at hl 0 rfl) ?_
      refine lv_iconst (v := (-1)) hx hb dX4_decide_35 (by decide) ?_
      refine lv_icmp_ne (tgt := 43) hx hb dX4_decide_36 (by decide) (fun c_36 => ?_) (fun c_36 => ?_)
      · have elow : pg_low (u.2 9 j) = u.2 9 j := if_neg c_36
        refine lv_iload_n hx hb dX4_decide_43 rfl (lv_at hl 0 rfl) ?_
        refine W.eq (g2 := F0 m 44 ls [.int (pg_low (u.2 9 j)), .int x]) (by rw [elow]) ?_
        refine lv_aload_n hx hb dX4_decide_44 rfl (lv_at hl 1 rfl) ?_
        refine va_get (D := D) (ci := 4) (v := .ref (a 3)) (C := RX4) (T := TX4) (N := 14) hx hb hts hiX4 hown hK hP 0 rfl rfl 2 (by decide) hw1 (fun _ h9 => h9) rfl dX4_decide_45 ?_
        refine va_get (D := D) (ci := 0) (v := .ref (a 13)) (C := RX0) (T := TX0) (N := 5) hx hb hts hiX0 hown hK hP 3 rfl rfl 1 (by decide) hw5 (fun _ h9 => h9) rfl dX4_decide_48 ?_
        refine lv_iload_n hx hb dX4_decide_51 rfl (lv_at hl 2 rfl) ?_
        refine pg_ild (f := u.2 8) hx hb hK hP 13 0 rfl rfl (show j < _ by omega) (by decide) dX4_decide_52 ?_
        rcases Bool.eq_false_or_eq_true (pg_in x (pg_low (u.2 9 j)) (u.2 8 j)) with c_53 | c_53
        · refine pg_vU (pg_rS (As := [.int x, .int (pg_low (u.2 9 j)), .int (u.2 8 j)]) (rest := []) ⟨hx, hb, hml, hown, hts⟩ (cc_rng_ok l D (pg_ty cI cZ) (pg_wB cI cZ a u) H.size x (pg_low (u.2 9 j)) (u.2 8 j) c_53) (va_cwS 3 hts gX4_decide_X4_checkRange rfl rfl rfl (by decide +kernel) ⟨Nat.le_of_ble_eq_true rfl, Nat.le_of_ble_eq_true rfl⟩) hK hP hD rfl hl.1 rfl (Nat.le_of_ble_eq_true rfl) dX4_decide_53 ⟨Nat.le_of_ble_eq_true rfl, Nat.le_of_ble_eq_true rfl⟩) hD hS hA (fun H locs hP hD hS => ?_)
          refine lv_aload_n hx hb dX4_decide_56 rfl (lv_at hl 1 rfl) ?_
          refine va_get (D := D) (ci := 4) (v := .ref (a 3)) (C := RX4) (T := TX4) (N := 14) hx hb hts hiX4 hown hK hP 0 rfl rfl 2 (by decide) hw1 (fun _ h9 => h9) rfl dX4_decide_57 ?_
          refine va_get (D := D) (ci := 0) (v := .ref (a 15)) (C := RX0) (T := TX0) (N := 5) hx hb hts hiX0 hown hK hP 3 rfl rfl 3 (by decide) hw3 (fun _ h9 => h9) rfl dX4_decide_60 ?_
          refine lv_iload_n hx hb dX4_decide_63 rfl (lv_at hl 2 rfl) ?_
          refine lv_iload_n hx hb dX4_decide_64 rfl (lv_at hl 3 rfl) ?_
          refine pg_ist hx hb hK hP hD hS 15 0 rfl rfl (show j < _ by omega) (by decide) dX4_decide_65 (fun H locs hP hD hS => ?_)
          have hP : va_P D vwCl (pg_wB cI cZ a (u.1, (pg_row u.2 10 (upd (u.2 10) j x)))) H := hP
          have hD : va_D A (pg_wB cI cZ a (u.1, (pg_row u.2 10 (upd (u.2 10) j x)))) := hD
          refine lv_aload_n hx hb dX4_decide_66 rfl (lv_at hl 1 rfl) ?_
          refine pg_iE (pg_rV (As := []) (rest := []) ⟨hx, hb, hml, hown, hts⟩ (cc_payOut l D cI cZ a H.size (u.1, (pg_row u.2 10 (upd (u.2 10) j x))) n hn h20) (cwV 0 hts gX4_decide_X4_payOut rfl rfl rfl (by decide +kernel) ⟨Nat.le_of_ble_eq_true rfl, Nat.le_of_ble_eq_true rfl⟩) hK hP hD 0 (ci := 4) rfl rfl rfl rfl hl.1 rfl (Nat.le_of_ble_eq_true rfl) dX4_decide_67 ⟨Nat.le_of_ble_eq_true rfl, Nat.le_of_ble_eq_true rfl⟩) hD hS hA (fun H locs hP hD hS => ?_)
          exact W.iret (v := pg_back (pg_at u j x) n) hx hb hr (fun t9 ht9 hW9 => ⟨⟨pg_back (pg_at u j x) n, (pg_pay (pg_at u j x) n (u.1 3)), rfl, ⟨by rw [hcl], by rw [hcl]⟩, by rw [ht9]; exact hP, va_K.moved hW9.alike hK, hD⟩, hS.F ht9⟩) hS.2.2 dX4_decide_70
        · exact absurd hthr (by first | (simp only [pg_t_decide, c_8, hcl, c_20, c_53, cond_true, cond_false, Bool.not_true, Bool.not_false]; done) | (simp only [pg_t_decide, c_8, hcl, c_20, c_53, cond_true, cond_false, Bool.not_true, Bool.not_false]; decide))
      · have elow : pg_low (u.2 9 j) = 0 := if_pos c_36
        refine lv_iconst (v := 0) hx hb dX4_decide_39 (by decide) ?_
        refine lv_goto (tgt := 44) hx hb dX4_decide_40 (by decide) ?_
        refine W.eq (g2 := F0 m 44 ls [.int (pg_low (u.2 9 j)), .int x]) (by rw [elow]) ?_
        refine lv_aload_n hx hb dX4_decide_44 rfl (lv_at hl 1 rfl) ?_
        refine va_get (D := D) (ci := 4) (v := .ref (a 3)) (C := RX4) (T := TX4) (N := 14) hx hb hts hiX4 hown hK hP 0 rfl rfl 2 (by decide) hw1 (fun _ h9 => h9) rfl dX4_decide_45 ?_
        refine va_get (D := D) (ci := 0) (v := .ref (a 13)) (C := RX0) (T := TX0) (N := 5) hx hb hts hiX0 hown hK hP 3 rfl rfl 1 (by decide) hw5 (fun _ h9 => h9) rfl dX4_decide_48 ?_
        refine lv_iload_n hx hb dX4_decide_51 rfl (lv_at hl 2 rfl) ?_
        refine pg_ild (f := u.2 8) hx hb hK hP 13 0 rfl rfl (show j < _ by omega) (by decide) dX4_decide_52 ?_
        rcases Bool.eq_false_or_eq_true (pg_in x (pg_low (u.2 9 j)) (u.2 8 j)) with c_53 | c_53
        · refine pg_vU (pg_rS (As := [.int x, .int (pg_low (u.2 9 j)), .int (u.2 8 j)]) (rest := []) ⟨hx, hb, hml, hown, hts⟩ (cc_rng_ok l D (pg_ty cI cZ) (pg_wB cI cZ a u) H.size x (pg_low (u.2 9 j)) (u.2 8 j) c_53) (va_cwS 3 hts gX4_decide_X4_checkRange rfl rfl rfl (by decide +kernel) ⟨Nat.le_of_ble_eq_true rfl, Nat.le_of_ble_eq_true rfl⟩) hK hP hD rfl hl.1 rfl (Nat.le_of_ble_eq_true rfl) dX4_decide_53 ⟨Nat.le_of_ble_eq_true rfl, Nat.le_of_ble_eq_true rfl⟩) hD hS hA (fun H locs hP hD hS => ?_)
          refine lv_aload_n hx hb dX4_decide_56 rfl (lv_at hl 1 rfl) ?_
          refine va_get (D := D) (ci := 4) (v := .ref (a 3)) (C := RX4) (T := TX4) (N := 14) hx hb hts hiX4 hown hK hP 0 rfl rfl 2 (by decide) hw1 (fun _ h9 => h9) rfl dX4_decide_57 ?_
          refine va_get (D := D) (ci := 0) (v := .ref (a 15)) (C := RX0) (T := TX0) (N := 5) hx hb hts hiX0 hown hK hP 3 rfl rfl 3 (by decide) hw3 (fun _ h9 => h9) rfl dX4_decide_60 ?_
          refine lv_iload_n hx hb dX4_decide_63 rfl (lv_at hl 2 rfl) ?_
          refine lv_iload_n hx hb dX4_decide_64 rfl (lv_at hl 3 rfl) ?_
          refine pg_ist hx hb hK hP hD hS 15 0 rfl rfl (show j < _ by omega) (by decide) dX4_decide_65 (fun H locs hP hD hS => ?_)
          have hP : va_P D vwCl (pg_wB cI cZ a (u.1, (pg_row u.2 10 (upd (u.2 10) j x)))) H := hP
          have hD : va_D A (pg_wB cI cZ a (u.1, (pg_row u.2 10 (upd (u.2 10) j x)))) := hD
          refine lv_aload_n hx hb dX4_decide_66 rfl (lv_at hl 1 rfl) ?_
          refine pg_iE (pg_rV (As := []) (rest := []) ⟨hx, hb, hml, hown, hts⟩ (cc_payOut l D cI cZ a H.size (u.1, (pg_row u.2 10 (upd (u.2 10) j x))) n hn h20) (cwV 0 hts gX4_decide_X4_payOut rfl rfl rfl (by decide +kernel) ⟨Nat.le_of_ble_eq_true rfl, Nat.le_of_ble_eq_true rfl⟩) hK hP hD 0 (ci := 4) rfl rfl rfl rfl hl.1 rfl (Nat.le_of_ble_eq_true rfl) dX4_decide_67 ⟨Nat.le_of_ble_eq_true rfl, Nat.le_of_ble_eq_true rfl⟩) hD hS hA (fun H locs hP hD hS => ?_)
          exact W.iret (v := pg_back (pg_at u j x) n) hx hb hr (fun t9 ht9 hW9 => ⟨⟨pg_back (pg_at u j x) n, (pg_pay (pg_at u j x) n (u.1 3)), rfl, ⟨by rw [hcl], by rw [hcl]⟩, by rw [ht9]; exact hP, va_K.moved hW9.alike hK, hD⟩, hS.F ht9⟩) hS.2.2 dX4_decide_70
        · exact absurd hthr (by first | (simp only [pg_t_decide, c_8, hcl, c_20, c_53, cond_true, cond_false, Bool.not_true, Bool.not_false]; done) | (simp only [pg_t_decide, c_8, hcl, c_20, c_53, cond_true, cond_false, Bool.not_true, Bool.not_false]; decide))
    · exact absurd hthr (by first | (simp only [pg_t_decide, c_8, hcl, c_20, cond_true, cond_false, Bool.not_true, Bool.not_false]; done) | (simp only [pg_t_decide, c_8, hcl, c_20, cond_true, cond_false, Bool.not_true, Bool.not_false]; decide))
  · exact absurd hthr (by first | (simp only [pg_t_decide, c_8, cond_true, cond_false, Bool.not_true, Bool.not_false]; done) | (simp only [pg_t_decide, c_8, cond_true, cond_false, Bool.not_true, Bool.not_false]; decide))
set_option maxHeartbeats 4000000 in
set_option maxRecDepth 100000 in
/-- cc_decide: throws -/
theorem cc_decide_no (l : Launch) (hfl : l.stackTraces = false) (D : va_G) (cI cZ : ClassId) (a : Nat → Nat) (sz : Nat) (u : pg_St) (n : Nat) (hn : u.1 10 = nI n) (h20 : n ≤ 20) (k x : Int32) (e9 : Int32) (nm : String) (hthr : pg_t_decide u.2 (nI n) k x = e9) (h0 : e9 ≠ 0) (h9_1 : e9 = 1 → nm = pg_io) (h9_2 : e9 = 2 → nm = pg_is) (h9_3 : e9 = 3 → nm = pg_ia) : vx_Met l yX4_decide wsX4_decide ({ frames := 7, cells := 1, slots := 6, locals := 108 }) (va_Pc [.ref (a 0), .int k, .int x] (pg_T D (pg_ty cI cZ) (pg_wB cI cZ a u) sz)) pg_No (pg_X D (pg_wB cI cZ a u) (va_A (pg_wB cI cZ a u) sz) nm) 1 6 (va_A (pg_wB cI cZ a u) sz) := by
  refine vx_ofW (cc := cX4_decide) (maxL := 4) (ret := (some .int)) (by decide) rfl ?_
  intro p e s m args below meth c s₁ B hml hout hv
  obtain ⟨rfl, ⟨hsz, hP, hK, hD0⟩, hE⟩ := hv
  have hx := B.exec
  have hb := B.bytes
  have hr := B.returns
  have hts := atoms_spec (ws := wsX4_decide) B.pre
  have hown : s.vm.findClass RX4 = some m.cls := findClass_of_methodNamed B.named
  have hlocks := B.notSynchronized
  subst hsz
  have hD := hD0.self (sz := s.heap.size)
  generalize hAe : va_A (pg_wB cI cZ a u) s.heap.size = A at hD hE ⊢
  have hA : ∀ q : Nat, s.heap.size ≤ q → A q := fun q h => by rw [← hAe]; exact Or.inr h
  have hS : va_S A s.heap s.heap [] := va_S.rf
  have hl := lv_entry ([.ref (a 0), .int k, .int x]) (n := 4) (Nat.le_of_ble_eq_true rfl)
  rw [lg_entry_eq]
  generalize (lg_sl ([.ref (a 0), .int k, .int x]) ++ List.replicate (4 - (lg_sl ([.ref (a 0), .int k, .int x])).length) Slot.unset).toArray = ls at hl ⊢
  have hl : lv_has ls 4 [(0, .ref (a 0)), (1, .int k), (2, .int x)] := hl
  have hiX0 : ∀ w ∈ wsX00, w ∈ wsX4_decide := fun _ h => List.mem_cons_of_mem _ (List.mem_append_left _ (List.mem_append_left _ (List.mem_append_left _ (List.mem_append_left _ (List.mem_append_left _ (List.mem_append_right _ (h)))))))
  have hiX4 : ∀ w ∈ wsX40, w ∈ wsX4_decide := fun _ h => List.mem_cons_of_mem _ (List.mem_append_left _ (List.mem_append_left _ (List.mem_append_left _ (List.mem_append_left _ (List.mem_append_left _ (List.mem_append_left _ (List.mem_append_right _ (h))))))))
  have hw1 := hts (.fieldLink RX4 26 "PegBox" "book" "LPegBox$ClaimBook;") (List.mem_of_getElem? (i := 1) rfl)
  have hw2 := hts (.fieldLink RX4 136 "PegBox$ClaimBook" "count" "I") (List.mem_of_getElem? (i := 2) rfl)
  have hw3 := hts (.fieldLink RX4 147 "PegBox$ClaimBook" "settled" "[I") (List.mem_of_getElem? (i := 3) rfl)
  have hw4 := hts (.fieldLink RX4 144 "PegBox$ClaimBook" "offers" "[I") (List.mem_of_getElem? (i := 4) rfl)
  have hw5 := hts (.fieldLink RX4 143 "PegBox$ClaimBook" "amounts" "[I") (List.mem_of_getElem? (i := 5) rfl)
  refine lv_iload_n hx hb dX4_decide_0 rfl (lv_at hl 1 rfl) ?_
  refine lv_aload_n hx hb dX4_decide_1 rfl (lv_at hl 0 rfl) ?_
  refine va_get (D := D) (ci := 4) (v := .ref (a 3)) (C := RX4) (T := TX4) (N := 14) hx hb hts hiX4 hown hK hP 0 rfl rfl 2 (by decide) hw1 (fun _ h9 => h9) rfl dX4_decide_2 ?_
  refine va_get (D := D) (ci := 0) (v := .int (u.1 10)) (C := RX0) (T := TX0) (N := 5) hx hb hts hiX0 hown hK hP 3 rfl rfl 4 (by decide) hw2 (fun _ h9 => h9) rfl dX4_decide_5 ?_
  rw [hn]
  rcases Bool.eq_false_or_eq_true (pg_nb k (nI n)) with c_8 | c_8
  · refine pg_vU (pg_rS (As := [.int k, .int (nI n)]) (rest := []) ⟨hx, hb, hml, hown, hts⟩ (cc_num_ok l D (pg_ty cI cZ) (pg_wB cI cZ a u) s.heap.size k (nI n) c_8) (va_cwS 2 hts gX4_decide_X4_checkNumber rfl rfl rfl (by decide +kernel) ⟨Nat.le_of_ble_eq_true rfl, Nat.le_of_ble_eq_true rfl⟩) hK hP hD rfl hl.1 rfl (Nat.le_of_ble_eq_true rfl) dX4_decide_8 ⟨Nat.le_of_ble_eq_true rfl, Nat.le_of_ble_eq_true rfl⟩) hD hS hA (fun H locs hP hD hS => ?_)
    obtain ⟨j, hj, rfl⟩ := pg_nb_nI (n := n) (by omega) c_8
    have hcl : (nI j).toNatClampNeg = j := nI_clamp (by omega)
    refine lv_aload_n hx hb dX4_decide_11 rfl (lv_at hl 0 rfl) ?_
    refine va_get (D := D) (ci := 4) (v := .ref (a 3)) (C := RX4) (T := TX4) (N := 14) hx hb hts hiX4 hown hK hP 0 rfl rfl 2 (by decide) hw1 (fun _ h9 => h9) rfl dX4_decide_12 ?_
    refine va_get (D := D) (ci := 0) (v := .ref (a 15)) (C := RX0) (T := TX0) (N := 5) hx hb hts hiX0 hown hK hP 3 rfl rfl 3 (by decide) hw3 (fun _ h9 => h9) rfl dX4_decide_15 ?_
    refine lv_iload_n hx hb dX4_decide_18 rfl (lv_at hl 1 rfl) ?_
    refine pg_ild (f := u.2 10) hx hb hK hP 15 0 rfl rfl (show j < _ by omega) (by decide) dX4_decide_19 ?_
    rcases Bool.eq_false_or_eq_true (pg_eq (u.2 10 j) (-1)) with c_20 | c_20
    · refine pg_vU (pg_rS (As := [.int (u.2 10 j)]) (rest := []) ⟨hx, hb, hml, hown, hts⟩ (cc_opn_ok l D (pg_ty cI cZ) (pg_wB cI cZ a u) H.size (u.2 10 j) c_20) (va_cwS 1 hts gX4_decide_X4_checkOpen rfl rfl rfl (by decide +kernel) ⟨Nat.le_of_ble_eq_true rfl, Nat.le_of_ble_eq_true rfl⟩) hK hP hD rfl hl.1 rfl (Nat.le_of_ble_eq_true rfl) dX4_decide_20 ⟨Nat.le_of_ble_eq_true rfl, Nat.le_of_ble_eq_true rfl⟩) hD hS hA (fun H locs hP hD hS => ?_)
      refine lv_aload_n hx hb dX4_decide_23 rfl (lv_at hl 0 rfl) ?_
      refine va_get (D := D) (ci := 4) (v := .ref (a 3)) (C := RX4) (T := TX4) (N := 14) hx hb hts hiX4 hown hK hP 0 rfl rfl 2 (by decide) hw1 (fun _ h9 => h9) rfl dX4_decide_24 ?_
      refine va_get (D := D) (ci := 0) (v := .ref (a 14)) (C := RX0) (T := TX0) (N := 5) hx hb hts hiX0 hown hK hP 3 rfl rfl 2 (by decide) hw4 (fun _ h9 => h9) rfl dX4_decide_27 ?_
      refine lv_iload_n hx hb dX4_decide_30 rfl (lv_at hl 1 rfl) ?_
      refine pg_ild (f := u.2 9) hx hb hK hP 14 0 rfl rfl (show j < _ by omega) (by decide) dX4_decide_31 ?_
      refine lv_istore_n (lv' := [(3, .int (u.2 9 j)), (0, .ref (a 0)), (1, .int (nI j)), (2, .int x)]) hx hb dX4_decide_32 rfl hl (by decide) rfl (fun ls hl => ?_)
      refine lv_iload_n hx hb dX4_decide_33 rfl (lv_at hl 3 rfl) ?_
      refine lv_iload_n hx hb dX4_decide_34 rfl (lv_at hl 0 rfl) ?_
      refine lv_iconst (v := (-1)) hx hb dX4_decide_35 (by decide) ?_
      refine lv_icmp_ne (tgt := 43) hx hb dX4_decide_36 (by decide) (fun c_36 => ?_) (fun c_36 => ?_)
      · have elow : pg_low (u.2 9 j) = u.2 9 j := if_neg c_36
        refine lv_iload_n hx hb dX4_decide_43 rfl (lv_at hl 0 rfl) ?_
        refine W.eq (g2 := F0 m 44 ls [.int (pg_low (u.2 9 j)), .int x]) (by rw [elow]) ?_
        refine lv_aload_n hx hb dX4_decide_44 rfl (lv_at hl 1 rfl) ?_
        refine va_get (D := D) (ci := 4) (v := .ref (a 3)) (C := RX4) (T := TX4) (N := 14) hx hb hts hiX4 hown hK hP 0 rfl rfl 2 (by decide) hw1 (fun _ h9 => h9) rfl dX4_decide_45 ?_
        refine va_get (D := D) (ci := 0) (v := .ref (a 13)) (C := RX0) (T := TX0) (N := 5) hx hb hts hiX0 hown hK hP 3 rfl rfl 1 (by decide) hw5 (fun _ h9 => h9) rfl dX4_decide_48 ?_
        refine lv_iload_n hx hb dX4_decide_51 rfl (lv_at hl 2 rfl) ?_
        refine pg_ild (f := u.2 8) hx hb hK hP 13 0 rfl rfl (show j < _ by omega) (by decide) dX4_decide_52 ?_
        rcases Bool.eq_false_or_eq_true (pg_in x (pg_low (u.2 9 j)) (u.2 8 j)) with c_53 | c_53
        · exact absurd (hthr.symm.trans (by simp only [pg_t_decide, c_8, hcl, c_20, c_53, cond_true, cond_false, Bool.not_true, Bool.not_false])) h0
        · have he : e9 = 3 := hthr.symm.trans (by simp only [pg_t_decide, c_8, hcl, c_20, c_53, cond_true, cond_false, Bool.not_true, Bool.not_false])
          obtain rfl := h9_3 he
          exact pg_thru (pg_xS (As := [.int x, .int (pg_low (u.2 9 j)), .int (u.2 8 j)]) (rest := []) ⟨hx, hb, hml, hown, hts⟩ (cc_rng_no l hfl D (pg_ty cI cZ) (pg_wB cI cZ a u) H.size x (pg_low (u.2 9 j)) (u.2 8 j) c_53) (va_cwS 3 hts gX4_decide_X4_checkRange rfl rfl rfl (by decide +kernel) ⟨Nat.le_of_ble_eq_true rfl, Nat.le_of_ble_eq_true rfl⟩) hK hP hD hS hA hE rfl hl.1 rfl (Nat.le_of_ble_eq_true rfl) dX4_decide_53 ⟨Nat.le_of_ble_eq_true rfl, Nat.le_of_ble_eq_true rfl⟩) hD hS hA hout hlocks (Nat.le_of_ble_eq_true rfl) (Nat.le_of_ble_eq_true rfl)
      · have elow : pg_low (u.2 9 j) = 0 := if_pos c_36
        refine lv_iconst (v := 0) hx hb dX4_decide_39 (by decide) ?_
        refine lv_goto (tgt := 44) hx hb dX4_decide_40 (by decide) ?_
        refine W.eq (g2 := F0 m 44 ls [.int (pg_low (u.2 9 j)), .int x]) (by rw [elow]) ?_
        refine lv_aload_n hx hb dX4_decide_44 rfl (lv_at hl 1 rfl) ?_
        refine va_get (D := D) (ci := 4) (v := .ref (a 3)) (C := RX4) (T := TX4) (N := 14) hx hb hts hiX4 hown hK hP 0 rfl rfl 2 (by decide) hw1 (fun _ h9 => h9) rfl dX4_decide_45 ?_
        refine va_get (D := D) (ci := 0) (v := .ref (a 13)) (C := RX0) (T := TX0) (N := 5) hx hb hts hiX0 hown hK hP 3 rfl rfl 1 (by decide) hw5 (fun _ h9 => h9) rfl dX4_decide_48 ?_
        refine lv_iload_n hx hb dX4_decide_51 rfl (lv_at hl 2 rfl) ?_
        refine pg_ild (f := u.2 8) hx hb hK hP 13 0 rfl rfl (show j < _ by omega) (by decide) dX4_decide_52 ?_
        rcases Bool.eq_false_or_eq_true (pg_in x (pg_low (u.2 9 j)) (u.2 8 j)) with c_53 | c_53
        · exact absurd (hthr.symm.trans (by simp only [pg_t_decide, c_8, hcl, c_20, c_53, cond_true, cond_false, Bool.not_true, Bool.not_false])) h0
        · have he : e9 = 3 := hthr.symm.trans (by simp only [pg_t_decide, c_8, hcl, c_20, c_53, cond_true, cond_false, Bool.not_true, Bool.not_false])
          obtain rfl := h9_3 he
          exact pg_thru (pg_xS (As := [.int x, .int (pg_low (u.2 9 j)), .int (u.2 8 j)]) (rest := []) ⟨hx, hb, hml, hown, hts⟩ (cc_rng_no l hfl D (pg_ty cI cZ) (pg_wB cI cZ a u) H.size x (pg_low (u.2 9 j)) (u.2 8 j) c_53) (va_cwS 3 hts gX4_decide_X4_checkRange rfl rfl rfl (by decide +kernel) ⟨Nat.le_of_ble_eq_true rfl, Nat.le_of_ble_eq_true rfl⟩) hK hP hD hS hA hE rfl hl.1 rfl (Nat.le_of_ble_eq_true rfl) dX4_decide_53 ⟨Nat.le_of_ble_eq_true rfl, Nat.le_of_ble_eq_true rfl⟩) hD hS hA hout hlocks (Nat.le_of_ble_eq_true rfl) (Nat.le_of_ble_eq_true rfl)
    · have he : e9 = 2 := hthr.symm.trans (by simp only [pg_t_decide, c_8, hcl, c_20, cond_true, cond_false, Bool.not_true, Bool.not_false])
      obtain rfl := h9_2 he
      exact pg_thru (pg_xS (As := [.int (u.2 10 j)]) (rest := []) ⟨hx, hb, hml, hown, hts⟩ (cc_opn_no l hfl D (pg_ty cI cZ) (pg_wB cI cZ a u) H.size (u.2 10 j) c_20) (va_cwS 1 hts gX4_decide_X4_checkOpen rfl rfl rfl (by decide +kernel) ⟨Nat.le_of_ble_eq_true rfl, Nat.le_of_ble_eq_true rfl⟩) hK hP hD hS hA hE rfl hl.1 rfl (Nat.le_of_ble_eq_true rfl) dX4_decide_20 ⟨Nat.le_of_ble_eq_true rfl, Nat.le_of_ble_eq_true rfl⟩) hD hS hA hout hlocks (Nat.le_of_ble_eq_true rfl) (Nat.le_of_ble_eq_true rfl)
  · have he : e9 = 1 := hthr.symm.trans (by simp only [pg_t_decide, c_8, cond_true, cond_false, Bool.not_true, Bool.not_false])
    obtain rfl := h9_1 he
    exact pg_thru (pg_xS (As := [.int k, .int (nI n)]) (rest := []) ⟨hx, hb, hml, hown, hts⟩ (cc_num_no l hfl D (pg_ty cI cZ) (pg_wB cI cZ a u) s.heap.size k (nI n) c_8) (va_cwS 2 hts gX4_decide_X4_checkNumber rfl rfl rfl (by decide +kernel) ⟨Nat.le_of_ble_eq_true rfl, Nat.le_of_ble_eq_true rfl⟩) hK hP hD hS hA hE rfl hl.1 rfl (Nat.le_of_ble_eq_true rfl) dX4_decide_8 ⟨Nat.le_of_ble_eq_true rfl, Nat.le_of_ble_eq_true rfl⟩) hD hS hA hout hlocks (Nat.le_of_ble_eq_true rfl) (Nat.le_of_ble_eq_true rfl)
set_option maxHeartbeats 4000000 in
set_option maxRecDepth 100000 in
/-- cc_report: returns -/
theorem cc_report_ok (l : Launch) (D : va_G) (cI cZ : ClassId) (a : Nat → Nat) (sz : Nat) (u : pg_St) (n : Nat) (hn : u.1 10 = nI n) (h20 : n ≤ 20) (t : Nat) (ht : u.1 13 = nI t) (h4 : t ≤ 4) (x : Int32) (hthr : pg_t_report (!pg_eq (u.1 3) (-1)) (!pg_eq (u.1 12) 0) (nI t) x = 0) : Met l yX4_report wsX4_report ({ frames := 6, cells := 0, slots := 0, locals := 130 }) (va_Pc [.ref (a 0), .int x] (pg_B D (pg_ty cI cZ) (pg_wB cI cZ a u) sz)) (va_Qi (fun r u' => r = pg_tellr u t x ∧ u' = pg_owe (pg_tell u t x) n (pg_tellr u t x)) (pg_E D (pg_ty cI cZ) (va_A (pg_wB cI cZ a u) sz) (pg_wB cI cZ a)) (va_A (pg_wB cI cZ a u) sz)) 0 0 (va_A (pg_wB cI cZ a u) sz) := by
  refine Met.ofW (cc := cX4_report) (maxL := 2) (ret := (some .int)) (by decide) rfl ?_
  intro p e s m args below meth c s₁ B hml hv
  obtain ⟨rfl, hsz, hP, hK, hD0⟩ := hv
  have hx := B.exec
  have hb := B.bytes
  have hr := B.returns
  have hts := atoms_spec (ws := wsX4_report) B.pre
  have hown : s.vm.findClass RX4 = some m.cls := findClass_of_methodNamed B.named
  have hlocks := B.notSynchronized
  subst hsz
  have hD := hD0.self (sz := s.heap.size)
  generalize hAe : va_A (pg_wB cI cZ a u) s.heap.size = A at hD ⊢
  have hA : ∀ q : Nat, s.heap.size ≤ q → A q := fun q h => by rw [← hAe]; exact Or.inr h
  have hS : va_S A s.heap s.heap [] := va_S.rf
  have hl := lv_entry ([.ref (a 0), .int x]) (n := 2) (Nat.le_of_ble_eq_true rfl)
  rw [lg_entry_eq]
  generalize (lg_sl ([.ref (a 0), .int x]) ++ List.replicate (2 - (lg_sl ([.ref (a 0), .int x])).length) Slot.unset).toArray = ls at hl ⊢
  have hl : lv_has ls 2 [(0, .ref (a 0)), (1, .int x)] := hl
  have hiX1 : ∀ w ∈ wsX10, w ∈ wsX4_report := fun _ h => List.mem_cons_of_mem _ (List.mem_append_left _ (List.mem_append_left _ (List.mem_append_left _ (List.mem_append_left _ (List.mem_append_right _ (h))))))
  have hiX4 : ∀ w ∈ wsX40, w ∈ wsX4_report := fun _ h => List.mem_cons_of_mem _ (List.mem_append_left _ (List.mem_append_left _ (List.mem_append_left _ (List.mem_append_left _ (List.mem_append_left _ (List.mem_append_right _ (h)))))))
  have hw3 := hts (.constant RX4 49 (-10000000)) (List.mem_of_getElem? (i := 3) rfl)
  have hw4 := hts (.constant RX4 44 (10000000)) (List.mem_of_getElem? (i := 4) rfl)
  have hw5 := hts (.fieldLink RX4 33 "PegBox" "earnOut" "LPegBox$EarnOut;") (List.mem_of_getElem? (i := 5) rfl)
  have hw6 := hts (.fieldLink RX4 159 "PegBox$EarnOut" "isSpedUp" "Z") (List.mem_of_getElem? (i := 6) rfl)
  have hw7 := hts (.fieldLink RX4 164 "PegBox$EarnOut" "told" "I") (List.mem_of_getElem? (i := 7) rfl)
  refine lv_iload_n hx hb dX4_report_0 rfl (lv_at hl 1 rfl) ?_
  refine lv_ldc hx hb hown hw3 dX4_report_1 ?_
  refine lv_ldc hx hb hown hw4 dX4_report_3 ?_
  rcases Bool.eq_false_or_eq_true (pg_in x (-10000000) 10000000) with c_5 | c_5
  · refine pg_vU (pg_rS (As := [.int x, .int (-10000000), .int 10000000]) (rest := []) ⟨hx, hb, hml, hown, hts⟩ (cc_rng_ok l D (pg_ty cI cZ) (pg_wB cI cZ a u) s.heap.size x (-10000000) 10000000 c_5) (va_cwS 3 hts gX4_report_X4_checkRange rfl rfl rfl (by decide +kernel) ⟨Nat.le_of_ble_eq_true rfl, Nat.le_of_ble_eq_true rfl⟩) hK hP hD rfl hl.1 rfl (Nat.le_of_ble_eq_true rfl) dX4_report_5 ⟨Nat.le_of_ble_eq_true rfl, Nat.le_of_ble_eq_true rfl⟩) hD hS hA (fun H locs hP hD hS => ?_)
    refine lv_aload_n hx hb dX4_report_8 rfl (lv_at hl 0 rfl) ?_
    rcases Bool.eq_false_or_eq_true (pg_eq (u.1 3) (-1)) with c_9 | c_9
    · exact absurd hthr (by first | (simp only [pg_t_report, c_5, c_9, cond_true, cond_false, Bool.not_true, Bool.not_false]; done) | (simp only [pg_t_report, c_5, c_9, cond_true, cond_false, Bool.not_true, Bool.not_false]; decide))
    · refine pg_vE (pg_rV (As := []) (rest := []) ⟨hx, hb, hml, hown, hts⟩ (cc_cls_ok l D cI cZ a H.size u c_9) (cwV 0 hts gX4_report_X4_checkClosed rfl rfl rfl (by decide +kernel) ⟨Nat.le_of_ble_eq_true rfl, Nat.le_of_ble_eq_true rfl⟩) hK hP hD 0 (ci := 4) rfl rfl rfl rfl hl.1 rfl (Nat.le_of_ble_eq_true rfl) dX4_report_9 ⟨Nat.le_of_ble_eq_true rfl, Nat.le_of_ble_eq_true rfl⟩) hD hS hA (fun H locs hP hD hS => ?_)
      refine lv_aload_n hx hb dX4_report_12 rfl (lv_at hl 0 rfl) ?_
      refine va_get (D := D) (ci := 4) (v := .ref (a 4)) (C := RX4) (T := TX4) (N := 14) hx hb hts hiX4 hown hK hP 0 rfl rfl 3 (by decide) hw5 (fun _ h9 => h9) rfl dX4_report_13 ?_
      refine va_get (D := D) (ci := 1) (v := .int (u.1 12)) (C := RX1) (T := TX1) (N := 8) hx hb hts hiX1 hown hK hP 4 rfl rfl 4 (by decide) hw6 (fun _ h9 => h9) rfl dX4_report_16 ?_
      refine lv_if_eq (tgt := 32) hx hb dX4_report_19 (by decide) (fun c_19 => ?_) (fun c_19 => ?_)
      · have d_19 := pg_eq_t c_19
        refine lv_aload_n hx hb dX4_report_32 rfl (lv_at hl 0 rfl) ?_
        refine va_get (D := D) (ci := 4) (v := .ref (a 4)) (C := RX4) (T := TX4) (N := 14) hx hb hts hiX4 hown hK hP 0 rfl rfl 3 (by decide) hw5 (fun _ h9 => h9) rfl dX4_report_33 ?_
        refine va_get (D := D) (ci := 1) (v := .int (u.1 13)) (C := RX1) (T := TX1) (N := 8) hx hb hts hiX1 hown hK hP 4 rfl rfl 5 (by decide) hw7 (fun _ h9 => h9) rfl dX4_report_36 ?_
        rw [ht]
        refine lv_iconst (v := 4) hx hb dX4_report_39 (by decide) ?_
        refine lv_icmp_lt (tgt := 53) hx hb dX4_report_40 (by decide) (fun c_40 => ?_) (fun c_40 => ?_)
        · have d_40 := pg_le_f (Int32.not_le.mpr c_40)
          have ht4 : t < 4 := (nI_ltI (by omega) (by decide)).mp (show nI t < nI 4 from c_40)
          refine lv_aload_n hx hb dX4_report_53 rfl (lv_at hl 0 rfl) ?_
          refine lv_aload_n hx hb dX4_report_54 rfl (lv_at hl 0 rfl) ?_
          refine va_get (D := D) (ci := 4) (v := .ref (a 4)) (C := RX4) (T := TX4) (N := 14) hx hb hts hiX4 hown hK hP 0 rfl rfl 3 (by decide) hw5 (fun _ h9 => h9) rfl dX4_report_55 ?_
          refine lv_iload_n hx hb dX4_report_58 rfl (lv_at hl 1 rfl) ?_
          refine pg_iE (pg_rV (As := [.int x]) (rest := [.ref (a 0)]) ⟨hx, hb, hml, hown, hts⟩ (cc_tell l D cI cZ a H.size u t ht ht4 x) (cwV 1 hts gX4_report_X1_tell rfl rfl rfl (by decide +kernel) ⟨Nat.le_of_ble_eq_true rfl, Nat.le_of_ble_eq_true rfl⟩) hK hP hD 4 (ci := 1) rfl rfl rfl rfl hl.1 rfl (Nat.le_of_ble_eq_true rfl) dX4_report_59 ⟨Nat.le_of_ble_eq_true rfl, Nat.le_of_ble_eq_true rfl⟩) hD hS hA (fun H locs hP hD hS => ?_)
          refine pg_iE (pg_rV (As := [.int (pg_tellr u t x)]) (rest := []) ⟨hx, hb, hml, hown, hts⟩ (cc_owe l D cI cZ a H.size (pg_tell u t x) n hn h20 (pg_tellr u t x)) (cwV 1 hts gX4_report_X4_owe rfl rfl rfl (by decide +kernel) ⟨Nat.le_of_ble_eq_true rfl, Nat.le_of_ble_eq_true rfl⟩) hK hP hD 0 (ci := 4) rfl rfl rfl rfl hl.1 rfl (Nat.le_of_ble_eq_true rfl) dX4_report_62 ⟨Nat.le_of_ble_eq_true rfl, Nat.le_of_ble_eq_true rfl⟩) hD hS hA (fun H locs hP hD hS => ?_)
          exact W.iret (v := pg_tellr u t x) hx hb hr (fun t9 ht9 hW9 => ⟨⟨pg_tellr u t x, (pg_owe (pg_tell u t x) n (pg_tellr u t x)), rfl, ⟨rfl, rfl⟩, by rw [ht9]; exact hP, va_K.moved hW9.alike hK, hD⟩, hS.F ht9⟩) hS.2.2 dX4_report_65
        · have d_40 := pg_le_t (Int32.not_lt.mp c_40)
          exact absurd hthr (by first | (simp only [pg_t_report, c_5, c_9, d_19, d_40, cond_true, cond_false, Bool.not_true, Bool.not_false]; done) | (simp only [pg_t_report, c_5, c_9, d_19, d_40, cond_true, cond_false, Bool.not_true, Bool.not_false]; decide))
      · have d_19 := pg_eq_f c_19
        exact absurd hthr (by first | (simp only [pg_t_report, c_5, c_9, d_19, cond_true, cond_false, Bool.not_true, Bool.not_false]; done) | (simp only [pg_t_report, c_5, c_9, d_19, cond_true, cond_false, Bool.not_true, Bool.not_false]; decide))
  · exact absurd hthr (by first | (simp only [pg_t_report, c_5, cond_true, cond_false, Bool.not_true, Bool.not_false]; done) | (simp only [pg_t_report, c_5, cond_true, cond_false, Bool.not_true, Bool.not_false]; decide))
set_option maxHeartbeats 4000000 in
set_option maxRecDepth 100000 in
/-- cc_report: throws -/
theorem cc_report_no (l : Launch) (hfl : l.stackTraces = false) (D : va_G) (cI cZ : ClassId) (a : Nat → Nat) (sz : Nat) (u : pg_St) (n : Nat) (hn : u.1 10 = nI n) (h20 : n ≤ 20) (t : Nat) (ht : u.1 13 = nI t) (h4 : t ≤ 4) (x : Int32) (e9 : Int32) (nm : String) (hthr : pg_t_report (!pg_eq (u.1 3) (-1)) (!pg_eq (u.1 12) 0) (nI t) x = e9) (h0 : e9 ≠ 0) (h9_1 : e9 = 1 → nm = pg_ia) (h9_2 : e9 = 2 → nm = pg_is) : vx_Met l yX4_report wsX4_report ({ frames := 7, cells := 1, slots := 6, locals := 108 }) (va_Pc [.ref (a 0), .int x] (pg_T D (pg_ty cI cZ) (pg_wB cI cZ a u) sz)) pg_No (pg_X D (pg_wB cI cZ a u) (va_A (pg_wB cI cZ a u) sz) nm) 1 6 (va_A (pg_wB cI cZ a u) sz) := by
  refine vx_ofW (cc := cX4_report) (maxL := 2) (ret := (some .int)) (by decide) rfl ?_
  intro p e s m args below meth c s₁ B hml hout hv
  obtain ⟨rfl, ⟨hsz, hP, hK, hD0⟩, hE⟩ := hv
  have hx := B.exec
  have hb := B.bytes
  have hr := B.returns
  have hts := atoms_spec (ws := wsX4_report) B.pre
  have hown : s.vm.findClass RX4 = some m.cls := findClass_of_methodNamed B.named
  have hlocks := B.notSynchronized
  subst hsz
  have hD := hD0.self (sz := s.heap.size)
  generalize hAe : va_A (pg_wB cI cZ a u) s.heap.size = A at hD hE ⊢
  have hA : ∀ q : Nat, s.heap.size ≤ q → A q := fun q h => by rw [← hAe]; exact Or.inr h
  have hS : va_S A s.heap s.heap [] := va_S.rf
  have hl := lv_entry ([.ref (a 0), .int x]) (n := 2) (Nat.le_of_ble_eq_true rfl)
  rw [lg_entry_eq]
  generalize (lg_sl ([.ref (a 0), .int x]) ++ List.replicate (2 - (lg_sl ([.ref (a 0), .int x])).length) Slot.unset).toArray = ls at hl ⊢
  have hl : lv_has ls 2 [(0, .ref (a 0)), (1, .int x)] := hl
  have hiX1 : ∀ w ∈ wsX10, w ∈ wsX4_report := fun _ h => List.mem_cons_of_mem _ (List.mem_append_left _ (List.mem_append_left _ (List.mem_append_left _ (List.mem_append_left _ (List.mem_append_right _ (h))))))
  have hiX4 : ∀ w ∈ wsX40, w ∈ wsX4_report := fun _ h => List.mem_cons_of_mem _ (List.mem_append_left _ (List.mem_append_left _ (List.mem_append_left _ (List.mem_append_left _ (List.mem_append_left _ (List.mem_append_right _ (h)))))))
  have hw1 := hts (.classLink RX4 124 "java/lang/IllegalStateException") (List.mem_of_getElem? (i := 1) rfl)
  have hw2 := hts (.initialized "java/lang/IllegalStateException") (List.mem_of_getElem? (i := 2) rfl)
  have hw3 := hts (.constant RX4 49 (-10000000)) (List.mem_of_getElem? (i := 3) rfl)
  have hw4 := hts (.constant RX4 44 (10000000)) (List.mem_of_getElem? (i := 4) rfl)
  have hw5 := hts (.fieldLink RX4 33 "PegBox" "earnOut" "LPegBox$EarnOut;") (List.mem_of_getElem? (i := 5) rfl)
  have hw6 := hts (.fieldLink RX4 159 "PegBox$EarnOut" "isSpedUp" "Z") (List.mem_of_getElem? (i := 6) rfl)
  have hw7 := hts (.fieldLink RX4 164 "PegBox$EarnOut" "told" "I") (List.mem_of_getElem? (i := 7) rfl)
  refine lv_iload_n hx hb dX4_report_0 rfl (lv_at hl 1 rfl) ?_
  refine lv_ldc hx hb hown hw3 dX4_report_1 ?_
  refine lv_ldc hx hb hown hw4 dX4_report_3 ?_
  rcases Bool.eq_false_or_eq_true (pg_in x (-10000000) 10000000) with c_5 | c_5
  · refine pg_vU (pg_rS (As := [.int x, .int (-10000000), .int 10000000]) (rest := []) ⟨hx, hb, hml, hown, hts⟩ (cc_rng_ok l D (pg_ty cI cZ) (pg_wB cI cZ a u) s.heap.size x (-10000000) 10000000 c_5) (va_cwS 3 hts gX4_report_X4_checkRange rfl rfl rfl (by decide +kernel) ⟨Nat.le_of_ble_eq_true rfl, Nat.le_of_ble_eq_true rfl⟩) hK hP hD rfl hl.1 rfl (Nat.le_of_ble_eq_true rfl) dX4_report_5 ⟨Nat.le_of_ble_eq_true rfl, Nat.le_of_ble_eq_true rfl⟩) hD hS hA (fun H locs hP hD hS => ?_)
    refine lv_aload_n hx hb dX4_report_8 rfl (lv_at hl 0 rfl) ?_
    rcases Bool.eq_false_or_eq_true (pg_eq (u.1 3) (-1)) with c_9 | c_9
    · have he : e9 = 2 := hthr.symm.trans (by simp only [pg_t_report, c_5, c_9, cond_true, cond_false, Bool.not_true, Bool.not_false])
      obtain rfl := h9_2 he
      exact pg_thru (pg_xV (As := []) (rest := []) ⟨hx, hb, hml, hown, hts⟩ (cc_cls_no l hfl D cI cZ a H.size u c_9) (cwV 0 hts gX4_report_X4_checkClosed rfl rfl rfl (by decide +kernel) ⟨Nat.le_of_ble_eq_true rfl, Nat.le_of_ble_eq_true rfl⟩) hK hP hD hS hA hE 0 (ci := 4) rfl rfl rfl rfl hl.1 rfl (Nat.le_of_ble_eq_true rfl) dX4_report_9 ⟨Nat.le_of_ble_eq_true rfl, Nat.le_of_ble_eq_true rfl⟩) hD hS hA hout hlocks (Nat.le_of_ble_eq_true rfl) (Nat.le_of_ble_eq_true rfl)
    · refine pg_vE (pg_rV (As := []) (rest := []) ⟨hx, hb, hml, hown, hts⟩ (cc_cls_ok l D cI cZ a H.size u c_9) (cwV 0 hts gX4_report_X4_checkClosed rfl rfl rfl (by decide +kernel) ⟨Nat.le_of_ble_eq_true rfl, Nat.le_of_ble_eq_true rfl⟩) hK hP hD 0 (ci := 4) rfl rfl rfl rfl hl.1 rfl (Nat.le_of_ble_eq_true rfl) dX4_report_9 ⟨Nat.le_of_ble_eq_true rfl, Nat.le_of_ble_eq_true rfl⟩) hD hS hA (fun H locs hP hD hS => ?_)
      refine lv_aload_n hx hb dX4_report_12 rfl (lv_at hl 0 rfl) ?_
      refine va_get (D := D) (ci := 4) (v := .ref (a 4)) (C := RX4) (T := TX4) (N := 14) hx hb hts hiX4 hown hK hP 0 rfl rfl 3 (by decide) hw5 (fun _ h9 => h9) rfl dX4_report_13 ?_
      refine va_get (D := D) (ci := 1) (v := .int (u.1 12)) (C := RX1) (T := TX1) (N := 8) hx hb hts hiX1 hown hK hP 4 rfl rfl 4 (by decide) hw6 (fun _ h9 => h9) rfl dX4_report_16 ?_
      refine lv_if_eq (tgt := 32) hx hb dX4_report_19 (by decide) (fun c_19 => ?_) (fun c_19 => ?_)
      · have d_19 := pg_eq_t c_19
        refine lv_aload_n hx hb dX4_report_32 rfl (lv_at hl 0 rfl) ?_
        refine va_get (D := D) (ci := 4) (v := .ref (a 4)) (C := RX4) (T := TX4) (N := 14) hx hb hts hiX4 hown hK hP 0 rfl rfl 3 (by decide) hw5 (fun _ h9 => h9) rfl dX4_report_33 ?_
        refine va_get (D := D) (ci := 1) (v := .int (u.1 13)) (C := RX1) (T := TX1) (N := 8) hx hb hts hiX1 hown hK hP 4 rfl rfl 5 (by decide) hw7 (fun _ h9 => h9) rfl dX4_report_36 ?_
        rw [ht]
        refine lv_iconst (v := 4) hx hb dX4_report_39 (by decide) ?_
        refine lv_icmp_lt (tgt := 53) hx hb dX4_report_40 (by decide) (fun c_40 => ?_) (fun c_40 => ?_)
        · have d_40 := pg_le_f (Int32.not_le.mpr c_40)
          exact absurd (hthr.symm.trans (by simp only [pg_t_report, c_5, c_9, d_19, d_40, cond_true, cond_false, Bool.not_true, Bool.not_false])) h0
        · have d_40 := pg_le_t (Int32.not_lt.mp c_40)
          have he : e9 = 2 := hthr.symm.trans (by simp only [pg_t_report, c_5, c_9, d_19, d_40, cond_true, cond_false, Bool.not_true, Bool.not_false])
          obtain rfl := h9_2 he
          exact pg_thr (nm := pg_is) (i := 10) hx hb hfl hown (by decide +kernel) hw1 hw2 rfl (fun w9 h => hts w9 (List.mem_cons_of_mem _ (List.mem_append_left _ (List.mem_append_right _ (h))))) pg_h2_is pg_hg_is hE hP hS hA (by rw [hml]; exact hl.1) dX4_report_43 dX4_report_46 dX4_report_47 dX4_report_49 dX4_report_52 hout (Nat.le_of_ble_eq_true rfl) (Nat.le_of_ble_eq_true rfl) (Nat.le_of_ble_eq_true rfl) (Nat.le_of_ble_eq_true rfl) hlocks (Nat.le_of_ble_eq_true rfl) (Nat.le_of_ble_eq_true rfl)
      · have d_19 := pg_eq_f c_19
        have he : e9 = 2 := hthr.symm.trans (by simp only [pg_t_report, c_5, c_9, d_19, cond_true, cond_false, Bool.not_true, Bool.not_false])
        obtain rfl := h9_2 he
        exact pg_thr (nm := pg_is) (i := 9) hx hb hfl hown (by decide +kernel) hw1 hw2 rfl (fun w9 h => hts w9 (List.mem_cons_of_mem _ (List.mem_append_left _ (List.mem_append_right _ (h))))) pg_h2_is pg_hg_is hE hP hS hA (by rw [hml]; exact hl.1) dX4_report_22 dX4_report_25 dX4_report_26 dX4_report_28 dX4_report_31 hout (Nat.le_of_ble_eq_true rfl) (Nat.le_of_ble_eq_true rfl) (Nat.le_of_ble_eq_true rfl) (Nat.le_of_ble_eq_true rfl) hlocks (Nat.le_of_ble_eq_true rfl) (Nat.le_of_ble_eq_true rfl)
  · have he : e9 = 1 := hthr.symm.trans (by simp only [pg_t_report, c_5, cond_true, cond_false, Bool.not_true, Bool.not_false])
    obtain rfl := h9_1 he
    exact pg_thru (pg_xS (As := [.int x, .int (-10000000), .int 10000000]) (rest := []) ⟨hx, hb, hml, hown, hts⟩ (cc_rng_no l hfl D (pg_ty cI cZ) (pg_wB cI cZ a u) s.heap.size x (-10000000) 10000000 c_5) (va_cwS 3 hts gX4_report_X4_checkRange rfl rfl rfl (by decide +kernel) ⟨Nat.le_of_ble_eq_true rfl, Nat.le_of_ble_eq_true rfl⟩) hK hP hD hS hA hE rfl hl.1 rfl (Nat.le_of_ble_eq_true rfl) dX4_report_5 ⟨Nat.le_of_ble_eq_true rfl, Nat.le_of_ble_eq_true rfl⟩) hD hS hA hout hlocks (Nat.le_of_ble_eq_true rfl) (Nat.le_of_ble_eq_true rfl)
set_option maxHeartbeats 4000000 in
set_option maxRecDepth 100000 in
/-- cc_speedUp: returns -/
theorem cc_speedUp_ok (l : Launch) (D : va_G) (cI cZ : ClassId) (a : Nat → Nat) (sz : Nat) (u : pg_St) (n : Nat) (hn : u.1 10 = nI n) (h20 : n ≤ 20) (t : Nat) (ht : u.1 13 = nI t) (h4 : t ≤ 4)  (hthr : pg_t_speedUp (!pg_eq (u.1 3) (-1)) (!pg_eq (u.1 12) 0) = 0) : Met l yX4_speedUp wsX4_speedUp ({ frames := 6, cells := 0, slots := 0, locals := 130 }) (va_Pc [.ref (a 0)] (pg_B D (pg_ty cI cZ) (pg_wB cI cZ a u) sz)) (va_Qi (fun r u' => r = pg_hasr u t ∧ u' = pg_owe (pg_has u t) n (pg_hasr u t)) (pg_E D (pg_ty cI cZ) (va_A (pg_wB cI cZ a u) sz) (pg_wB cI cZ a)) (va_A (pg_wB cI cZ a u) sz)) 0 0 (va_A (pg_wB cI cZ a u) sz) := by
  refine Met.ofW (cc := cX4_speedUp) (maxL := 1) (ret := (some .int)) (by decide) rfl ?_
  intro p e s m args below meth c s₁ B hml hv
  obtain ⟨rfl, hsz, hP, hK, hD0⟩ := hv
  have hx := B.exec
  have hb := B.bytes
  have hr := B.returns
  have hts := atoms_spec (ws := wsX4_speedUp) B.pre
  have hown : s.vm.findClass RX4 = some m.cls := findClass_of_methodNamed B.named
  have hlocks := B.notSynchronized
  subst hsz
  have hD := hD0.self (sz := s.heap.size)
  generalize hAe : va_A (pg_wB cI cZ a u) s.heap.size = A at hD ⊢
  have hA : ∀ q : Nat, s.heap.size ≤ q → A q := fun q h => by rw [← hAe]; exact Or.inr h
  have hS : va_S A s.heap s.heap [] := va_S.rf
  have hl := lv_entry ([.ref (a 0)]) (n := 1) (Nat.le_of_ble_eq_true rfl)
  rw [lg_entry_eq]
  generalize (lg_sl ([.ref (a 0)]) ++ List.replicate (1 - (lg_sl ([.ref (a 0)])).length) Slot.unset).toArray = ls at hl ⊢
  have hl : lv_has ls 1 [(0, .ref (a 0))] := hl
  have hiX1 : ∀ w ∈ wsX10, w ∈ wsX4_speedUp := fun _ h => List.mem_cons_of_mem _ (List.mem_append_left _ (List.mem_append_left _ (List.mem_append_left _ (List.mem_append_right _ (h)))))
  have hiX4 : ∀ w ∈ wsX40, w ∈ wsX4_speedUp := fun _ h => List.mem_cons_of_mem _ (List.mem_append_left _ (List.mem_append_left _ (List.mem_append_left _ (List.mem_append_left _ (List.mem_append_right _ (h))))))
  have hw3 := hts (.fieldLink RX4 33 "PegBox" "earnOut" "LPegBox$EarnOut;") (List.mem_of_getElem? (i := 3) rfl)
  have hw4 := hts (.fieldLink RX4 159 "PegBox$EarnOut" "isSpedUp" "Z") (List.mem_of_getElem? (i := 4) rfl)
  refine lv_aload_n hx hb dX4_speedUp_0 rfl (lv_at hl 0 rfl) ?_
  rcases Bool.eq_false_or_eq_true (pg_eq (u.1 3) (-1)) with c_1 | c_1
  · exact absurd hthr (by first | (simp only [pg_t_speedUp, c_1, cond_true, cond_false, Bool.not_true, Bool.not_false]; done) | (simp only [pg_t_speedUp, c_1, cond_true, cond_false, Bool.not_true, Bool.not_false]; decide))
  · refine pg_vE (pg_rV (As := []) (rest := []) ⟨hx, hb, hml, hown, hts⟩ (cc_cls_ok l D cI cZ a s.heap.size u c_1) (cwV 0 hts gX4_speedUp_X4_checkClosed rfl rfl rfl (by decide +kernel) ⟨Nat.le_of_ble_eq_true rfl, Nat.le_of_ble_eq_true rfl⟩) hK hP hD 0 (ci := 4) rfl rfl rfl rfl hl.1 rfl (Nat.le_of_ble_eq_true rfl) dX4_speedUp_1 ⟨Nat.le_of_ble_eq_true rfl, Nat.le_of_ble_eq_true rfl⟩) hD hS hA (fun H locs hP hD hS => ?_)
    refine lv_aload_n hx hb dX4_speedUp_4 rfl (lv_at hl 0 rfl) ?_
    refine va_get (D := D) (ci := 4) (v := .ref (a 4)) (C := RX4) (T := TX4) (N := 14) hx hb hts hiX4 hown hK hP 0 rfl rfl 3 (by decide) hw3 (fun _ h9 => h9) rfl dX4_speedUp_5 ?_
    refine va_get (D := D) (ci := 1) (v := .int (u.1 12)) (C := RX1) (T := TX1) (N := 8) hx hb hts hiX1 hown hK hP 4 rfl rfl 4 (by decide) hw4 (fun _ h9 => h9) rfl dX4_speedUp_8 ?_
    refine lv_if_eq (tgt := 24) hx hb dX4_speedUp_11 (by decide) (fun c_11 => ?_) (fun c_11 => ?_)
    · have d_11 := pg_eq_t c_11
      refine lv_aload_n hx hb dX4_speedUp_24 rfl (lv_at hl 0 rfl) ?_
      refine lv_aload_n hx hb dX4_speedUp_25 rfl (lv_at hl 0 rfl) ?_
      refine va_get (D := D) (ci := 4) (v := .ref (a 4)) (C := RX4) (T := TX4) (N := 14) hx hb hts hiX4 hown hK hP 0 rfl rfl 3 (by decide) hw3 (fun _ h9 => h9) rfl dX4_speedUp_26 ?_
      refine pg_iE (pg_rV (As := []) (rest := [.ref (a 0)]) ⟨hx, hb, hml, hown, hts⟩ (cc_hasten l D cI cZ a H.size u t ht h4) (cwV 0 hts gX4_speedUp_X1_hasten rfl rfl rfl (by decide +kernel) ⟨Nat.le_of_ble_eq_true rfl, Nat.le_of_ble_eq_true rfl⟩) hK hP hD 4 (ci := 1) rfl rfl rfl rfl hl.1 rfl (Nat.le_of_ble_eq_true rfl) dX4_speedUp_29 ⟨Nat.le_of_ble_eq_true rfl, Nat.le_of_ble_eq_true rfl⟩) hD hS hA (fun H locs hP hD hS => ?_)
      refine pg_iE (pg_rV (As := [.int (pg_hasr u t)]) (rest := []) ⟨hx, hb, hml, hown, hts⟩ (cc_owe l D cI cZ a H.size (pg_has u t) n hn h20 (pg_hasr u t)) (cwV 1 hts gX4_speedUp_X4_owe rfl rfl rfl (by decide +kernel) ⟨Nat.le_of_ble_eq_true rfl, Nat.le_of_ble_eq_true rfl⟩) hK hP hD 0 (ci := 4) rfl rfl rfl rfl hl.1 rfl (Nat.le_of_ble_eq_true rfl) dX4_speedUp_32 ⟨Nat.le_of_ble_eq_true rfl, Nat.le_of_ble_eq_true rfl⟩) hD hS hA (fun H locs hP hD hS => ?_)
      exact W.iret (v := pg_hasr u t) hx hb hr (fun t9 ht9 hW9 => ⟨⟨pg_hasr u t, (pg_owe (pg_has u t) n (pg_hasr u t)), rfl, ⟨rfl, rfl⟩, by rw [ht9]; exact hP, va_K.moved hW9.alike hK, hD⟩, hS.F ht9⟩) hS.2.2 dX4_speedUp_35
    · have d_11 := pg_eq_f c_11
      exact absurd hthr (by first | (simp only [pg_t_speedUp, c_1, d_11, cond_true, cond_false, Bool.not_true, Bool.not_false]; done) | (simp only [pg_t_speedUp, c_1, d_11, cond_true, cond_false, Bool.not_true, Bool.not_false]; decide))
set_option maxHeartbeats 4000000 in
set_option maxRecDepth 100000 in
/-- cc_speedUp: throws -/
theorem cc_speedUp_no (l : Launch) (hfl : l.stackTraces = false) (D : va_G) (cI cZ : ClassId) (a : Nat → Nat) (sz : Nat) (u : pg_St) (n : Nat) (hn : u.1 10 = nI n) (h20 : n ≤ 20) (t : Nat) (ht : u.1 13 = nI t) (h4 : t ≤ 4)  (e9 : Int32) (nm : String) (hthr : pg_t_speedUp (!pg_eq (u.1 3) (-1)) (!pg_eq (u.1 12) 0) = e9) (h0 : e9 ≠ 0) (h9_1 : e9 = 1 → nm = pg_is) : vx_Met l yX4_speedUp wsX4_speedUp ({ frames := 7, cells := 1, slots := 6, locals := 106 }) (va_Pc [.ref (a 0)] (pg_T D (pg_ty cI cZ) (pg_wB cI cZ a u) sz)) pg_No (pg_X D (pg_wB cI cZ a u) (va_A (pg_wB cI cZ a u) sz) nm) 1 6 (va_A (pg_wB cI cZ a u) sz) := by
  refine vx_ofW (cc := cX4_speedUp) (maxL := 1) (ret := (some .int)) (by decide) rfl ?_
  intro p e s m args below meth c s₁ B hml hout hv
  obtain ⟨rfl, ⟨hsz, hP, hK, hD0⟩, hE⟩ := hv
  have hx := B.exec
  have hb := B.bytes
  have hr := B.returns
  have hts := atoms_spec (ws := wsX4_speedUp) B.pre
  have hown : s.vm.findClass RX4 = some m.cls := findClass_of_methodNamed B.named
  have hlocks := B.notSynchronized
  subst hsz
  have hD := hD0.self (sz := s.heap.size)
  generalize hAe : va_A (pg_wB cI cZ a u) s.heap.size = A at hD hE ⊢
  have hA : ∀ q : Nat, s.heap.size ≤ q → A q := fun q h => by rw [← hAe]; exact Or.inr h
  have hS : va_S A s.heap s.heap [] := va_S.rf
  have hl := lv_entry ([.ref (a 0)]) (n := 1) (Nat.le_of_ble_eq_true rfl)
  rw [lg_entry_eq]
  generalize (lg_sl ([.ref (a 0)]) ++ List.replicate (1 - (lg_sl ([.ref (a 0)])).length) Slot.unset).toArray = ls at hl ⊢
  have hl : lv_has ls 1 [(0, .ref (a 0))] := hl
  have hiX1 : ∀ w ∈ wsX10, w ∈ wsX4_speedUp := fun _ h => List.mem_cons_of_mem _ (List.mem_append_left _ (List.mem_append_left _ (List.mem_append_left _ (List.mem_append_right _ (h)))))
  have hiX4 : ∀ w ∈ wsX40, w ∈ wsX4_speedUp := fun _ h => List.mem_cons_of_mem _ (List.mem_append_left _ (List.mem_append_left _ (List.mem_append_left _ (List.mem_append_left _ (List.mem_append_right _ (h))))))
  have hw1 := hts (.classLink RX4 124 "java/lang/IllegalStateException") (List.mem_of_getElem? (i := 1) rfl)
  have hw2 := hts (.initialized "java/lang/IllegalStateException") (List.mem_of_getElem? (i := 2) rfl)
  have hw3 := hts (.fieldLink RX4 33 "PegBox" "earnOut" "LPegBox$EarnOut;") (List.mem_of_getElem? (i := 3) rfl)
  have hw4 := hts (.fieldLink RX4 159 "PegBox$EarnOut" "isSpedUp" "Z") (List.mem_of_getElem? (i := 4) rfl)
  refine lv_aload_n hx hb dX4_speedUp_0 rfl (lv_at hl 0 rfl) ?_
  rcases Bool.eq_false_or_eq_true (pg_eq (u.1 3) (-1)) with c_1 | c_1
  · have he : e9 = 1 := hthr.symm.trans (by simp only [pg_t_speedUp, c_1, cond_true, cond_false, Bool.not_true, Bool.not_false])
    obtain rfl := h9_1 he
    exact pg_thru (pg_xV (As := []) (rest := []) ⟨hx, hb, hml, hown, hts⟩ (cc_cls_no l hfl D cI cZ a s.heap.size u c_1) (cwV 0 hts gX4_speedUp_X4_checkClosed rfl rfl rfl (by decide +kernel) ⟨Nat.le_of_ble_eq_true rfl, Nat.le_of_ble_eq_true rfl⟩) hK hP hD hS hA hE 0 (ci := 4) rfl rfl rfl rfl hl.1 rfl (Nat.le_of_ble_eq_true rfl) dX4_speedUp_1 ⟨Nat.le_of_ble_eq_true rfl, Nat.le_of_ble_eq_true rfl⟩) hD hS hA hout hlocks (Nat.le_of_ble_eq_true rfl) (Nat.le_of_ble_eq_true rfl)
  · refine pg_vE (pg_rV (As := []) (rest := []) ⟨hx, hb, hml, hown, hts⟩ (cc_cls_ok l D cI cZ a s.heap.size u c_1) (cwV 0 hts gX4_speedUp_X4_checkClosed rfl rfl rfl (by decide +kernel) ⟨Nat.le_of_ble_eq_true rfl, Nat.le_of_ble_eq_true rfl⟩) hK hP hD 0 (ci := 4) rfl rfl rfl rfl hl.1 rfl (Nat.le_of_ble_eq_true rfl) dX4_speedUp_1 ⟨Nat.le_of_ble_eq_true rfl, Nat.le_of_ble_eq_true rfl⟩) hD hS hA (fun H locs hP hD hS => ?_)
    refine lv_aload_n hx hb dX4_speedUp_4 rfl (lv_at hl 0 rfl) ?_
    refine va_get (D := D) (ci := 4) (v := .ref (a 4)) (C := RX4) (T := TX4) (N := 14) hx hb hts hiX4 hown hK hP 0 rfl rfl 3 (by decide) hw3 (fun _ h9 => h9) rfl dX4_speedUp_5 ?_
    refine va_get (D := D) (ci := 1) (v := .int (u.1 12)) (C := RX1) (T := TX1) (N := 8) hx hb hts hiX1 hown hK hP 4 rfl rfl 4 (by decide) hw4 (fun _ h9 => h9) rfl dX4_speedUp_8 ?_
    refine lv_if_eq (tgt := 24) hx hb dX4_speedUp_11 (by decide) (fun c_11 => ?_) (fun c_11 => ?_)
    · have d_11 := pg_eq_t c_11
      exact absurd (hthr.symm.trans (by simp only [pg_t_speedUp, c_1, d_11, cond_true, cond_false, Bool.not_true, Bool.not_false])) h0
    · have d_11 := pg_eq_f c_11
      have he : e9 = 1 := hthr.symm.trans (by simp only [pg_t_speedUp, c_1, d_11, cond_true, cond_false, Bool.not_true, Bool.not_false])
      obtain rfl := h9_1 he
      exact pg_thr (nm := pg_is) (i := 9) hx hb hfl hown (by decide +kernel) hw1 hw2 rfl (fun w9 h => hts w9 (List.mem_cons_of_mem _ (List.mem_append_right _ (h)))) pg_h2_is pg_hg_is hE hP hS hA (by rw [hml]; exact hl.1) dX4_speedUp_14 dX4_speedUp_17 dX4_speedUp_18 dX4_speedUp_20 dX4_speedUp_23 hout (Nat.le_of_ble_eq_true rfl) (Nat.le_of_ble_eq_true rfl) (Nat.le_of_ble_eq_true rfl) (Nat.le_of_ble_eq_true rfl) hlocks (Nat.le_of_ble_eq_true rfl) (Nat.le_of_ble_eq_true rfl)
set_option maxHeartbeats 4000000 in
set_option maxRecDepth 100000 in
theorem cc_day (l : Launch) (D : va_G) (cI cZ : ClassId) (a : Nat → Nat) (sz : Nat) (u : pg_St) : Met l yX4_day wsX4_day ({ frames := 0, cells := 0, slots := 0, locals := 0 }) (va_Pc [.ref (a 0)] (pg_B D (pg_ty cI cZ) (pg_wB cI cZ a u) sz)) (va_Qi (fun r u' => r = u.1 3 ∧ u' = u) (pg_E D (pg_ty cI cZ) (va_A (pg_wB cI cZ a u) sz) (pg_wB cI cZ a)) (va_A (pg_wB cI cZ a u) sz)) 0 0 (va_A (pg_wB cI cZ a u) sz) := by
  refine Met.ofW (cc := cX4_day) (maxL := 1) (ret := (some .int)) (by decide) rfl ?_
  intro p e s m args below meth c s₁ B hml hv
  obtain ⟨rfl, hsz, hP, hK, hD0⟩ := hv
  have hx := B.exec
  have hb := B.bytes
  have hr := B.returns
  have hts := atoms_spec (ws := wsX4_day) B.pre
  have hown : s.vm.findClass RX4 = some m.cls := findClass_of_methodNamed B.named
  have hlocks := B.notSynchronized
  subst hsz
  have hD := hD0.self (sz := s.heap.size)
  generalize hAe : va_A (pg_wB cI cZ a u) s.heap.size = A at hD ⊢
  have hA : ∀ q : Nat, s.heap.size ≤ q → A q := fun q h => by rw [← hAe]; exact Or.inr h
  have hS : va_S A s.heap s.heap [] := va_S.rf
  have hl := lv_entry ([.ref (a 0)]) (n := 1) (Nat.le_of_ble_eq_true rfl)
  rw [lg_entry_eq]
  generalize (lg_sl ([.ref (a 0)]) ++ List.replicate (1 - (lg_sl ([.ref (a 0)])).length) Slot.unset).toArray = ls at hl ⊢
  have hl : lv_has ls 1 [(0, .ref (a 0))] := hl
  have hiX4 : ∀ w ∈ wsX40, w ∈ wsX4_day := fun _ h => List.mem_cons_of_mem _ (List.mem_append_right _ (h))
  have hw1 := hts (.fieldLink RX4 37 "PegBox" "day" "I") (List.mem_of_getElem? (i := 1) rfl)
  refine lv_aload_n hx hb dX4_day_0 rfl (lv_at hl 0 rfl) ?_
  refine va_get (D := D) (ci := 4) (v := .int (u.1 3)) (C := RX4) (T := TX4) (N := 14) hx hb hts hiX4 hown hK hP 0 rfl rfl 7 (by decide) hw1 (fun _ h9 => h9) rfl dX4_day_1 ?_
  exact W.iret (v := u.1 3) hx hb hr (fun t9 ht9 hW9 => ⟨⟨u.1 3, u, rfl, ⟨rfl, rfl⟩, by rw [ht9]; exact hP, va_K.moved hW9.alike hK, hD⟩, hS.F ht9⟩) hS.2.2 dX4_day_4
set_option maxHeartbeats 4000000 in
set_option maxRecDepth 100000 in
theorem cc_finalPrice (l : Launch) (D : va_G) (cI cZ : ClassId) (a : Nat → Nat) (sz : Nat) (u : pg_St) : Met l yX4_finalPrice wsX4_finalPrice ({ frames := 0, cells := 0, slots := 0, locals := 0 }) (va_Pc [.ref (a 0)] (pg_B D (pg_ty cI cZ) (pg_wB cI cZ a u) sz)) (va_Qi (fun r u' => r = u.1 4 ∧ u' = u) (pg_E D (pg_ty cI cZ) (va_A (pg_wB cI cZ a u) sz) (pg_wB cI cZ a)) (va_A (pg_wB cI cZ a u) sz)) 0 0 (va_A (pg_wB cI cZ a u) sz) := by
  refine Met.ofW (cc := cX4_finalPrice) (maxL := 1) (ret := (some .int)) (by decide) rfl ?_
  intro p e s m args below meth c s₁ B hml hv
  obtain ⟨rfl, hsz, hP, hK, hD0⟩ := hv
  have hx := B.exec
  have hb := B.bytes
  have hr := B.returns
  have hts := atoms_spec (ws := wsX4_finalPrice) B.pre
  have hown : s.vm.findClass RX4 = some m.cls := findClass_of_methodNamed B.named
  have hlocks := B.notSynchronized
  subst hsz
  have hD := hD0.self (sz := s.heap.size)
  generalize hAe : va_A (pg_wB cI cZ a u) s.heap.size = A at hD ⊢
  have hA : ∀ q : Nat, s.heap.size ≤ q → A q := fun q h => by rw [← hAe]; exact Or.inr h
  have hS : va_S A s.heap s.heap [] := va_S.rf
  have hl := lv_entry ([.ref (a 0)]) (n := 1) (Nat.le_of_ble_eq_true rfl)
  rw [lg_entry_eq]
  generalize (lg_sl ([.ref (a 0)]) ++ List.replicate (1 - (lg_sl ([.ref (a 0)])).length) Slot.unset).toArray = ls at hl ⊢
  have hl : lv_has ls 1 [(0, .ref (a 0))] := hl
  have hiX4 : ∀ w ∈ wsX40, w ∈ wsX4_finalPrice := fun _ h => List.mem_cons_of_mem _ (List.mem_append_right _ (h))
  have hw1 := hts (.fieldLink RX4 41 "PegBox" "finalPrice" "I") (List.mem_of_getElem? (i := 1) rfl)
  refine lv_aload_n hx hb dX4_finalPrice_0 rfl (lv_at hl 0 rfl) ?_
  refine va_get (D := D) (ci := 4) (v := .int (u.1 4)) (C := RX4) (T := TX4) (N := 14) hx hb hts hiX4 hown hK hP 0 rfl rfl 8 (by decide) hw1 (fun _ h9 => h9) rfl dX4_finalPrice_1 ?_
  exact W.iret (v := u.1 4) hx hb hr (fun t9 ht9 hW9 => ⟨⟨u.1 4, u, rfl, ⟨rfl, rfl⟩, by rw [ht9]; exact hP, va_K.moved hW9.alike hK, hD⟩, hS.F ht9⟩) hS.2.2 dX4_finalPrice_4
set_option maxHeartbeats 4000000 in
set_option maxRecDepth 100000 in
theorem cc_held (l : Launch) (D : va_G) (cI cZ : ClassId) (a : Nat → Nat) (sz : Nat) (u : pg_St) : Met l yX4_held wsX4_held ({ frames := 0, cells := 0, slots := 0, locals := 0 }) (va_Pc [.ref (a 0)] (pg_B D (pg_ty cI cZ) (pg_wB cI cZ a u) sz)) (va_Qi (fun r u' => r = u.1 5 ∧ u' = u) (pg_E D (pg_ty cI cZ) (va_A (pg_wB cI cZ a u) sz) (pg_wB cI cZ a)) (va_A (pg_wB cI cZ a u) sz)) 0 0 (va_A (pg_wB cI cZ a u) sz) := by
  refine Met.ofW (cc := cX4_held) (maxL := 1) (ret := (some .int)) (by decide) rfl ?_
  intro p e s m args below meth c s₁ B hml hv
  obtain ⟨rfl, hsz, hP, hK, hD0⟩ := hv
  have hx := B.exec
  have hb := B.bytes
  have hr := B.returns
  have hts := atoms_spec (ws := wsX4_held) B.pre
  have hown : s.vm.findClass RX4 = some m.cls := findClass_of_methodNamed B.named
  have hlocks := B.notSynchronized
  subst hsz
  have hD := hD0.self (sz := s.heap.size)
  generalize hAe : va_A (pg_wB cI cZ a u) s.heap.size = A at hD ⊢
  have hA : ∀ q : Nat, s.heap.size ≤ q → A q := fun q h => by rw [← hAe]; exact Or.inr h
  have hS : va_S A s.heap s.heap [] := va_S.rf
  have hl := lv_entry ([.ref (a 0)]) (n := 1) (Nat.le_of_ble_eq_true rfl)
  rw [lg_entry_eq]
  generalize (lg_sl ([.ref (a 0)]) ++ List.replicate (1 - (lg_sl ([.ref (a 0)])).length) Slot.unset).toArray = ls at hl ⊢
  have hl : lv_has ls 1 [(0, .ref (a 0))] := hl
  have hiX4 : ∀ w ∈ wsX40, w ∈ wsX4_held := fun _ h => List.mem_cons_of_mem _ (List.mem_append_right _ (h))
  have hw1 := hts (.fieldLink RX4 115 "PegBox" "held" "I") (List.mem_of_getElem? (i := 1) rfl)
  refine lv_aload_n hx hb dX4_held_0 rfl (lv_at hl 0 rfl) ?_
  refine va_get (D := D) (ci := 4) (v := .int (u.1 5)) (C := RX4) (T := TX4) (N := 14) hx hb hts hiX4 hown hK hP 0 rfl rfl 9 (by decide) hw1 (fun _ h9 => h9) rfl dX4_held_1 ?_
  exact W.iret (v := u.1 5) hx hb hr (fun t9 ht9 hW9 => ⟨⟨u.1 5, u, rfl, ⟨rfl, rfl⟩, by rw [ht9]; exact hP, va_K.moved hW9.alike hK, hD⟩, hS.F ht9⟩) hS.2.2 dX4_held_4
set_option maxHeartbeats 4000000 in
set_option maxRecDepth 100000 in
theorem cc_paid (l : Launch) (D : va_G) (cI cZ : ClassId) (a : Nat → Nat) (sz : Nat) (u : pg_St) : Met l yX4_paid wsX4_paid ({ frames := 0, cells := 0, slots := 0, locals := 0 }) (va_Pc [.ref (a 0)] (pg_B D (pg_ty cI cZ) (pg_wB cI cZ a u) sz)) (va_Qi (fun r u' => r = u.1 6 ∧ u' = u) (pg_E D (pg_ty cI cZ) (va_A (pg_wB cI cZ a u) sz) (pg_wB cI cZ a)) (va_A (pg_wB cI cZ a u) sz)) 0 0 (va_A (pg_wB cI cZ a u) sz) := by
  refine Met.ofW (cc := cX4_paid) (maxL := 1) (ret := (some .int)) (by decide) rfl ?_
  intro p e s m args below meth c s₁ B hml hv
  obtain ⟨rfl, hsz, hP, hK, hD0⟩ := hv
  have hx := B.exec
  have hb := B.bytes
  have hr := B.returns
  have hts := atoms_spec (ws := wsX4_paid) B.pre
  have hown : s.vm.findClass RX4 = some m.cls := findClass_of_methodNamed B.named
  have hlocks := B.notSynchronized
  subst hsz
  have hD := hD0.self (sz := s.heap.size)
  generalize hAe : va_A (pg_wB cI cZ a u) s.heap.size = A at hD ⊢
  have hA : ∀ q : Nat, s.heap.size ≤ q → A q := fun q h => by rw [← hAe]; exact Or.inr h
  have hS : va_S A s.heap s.heap [] := va_S.rf
  have hl := lv_entry ([.ref (a 0)]) (n := 1) (Nat.le_of_ble_eq_true rfl)
  rw [lg_entry_eq]
  generalize (lg_sl ([.ref (a 0)]) ++ List.replicate (1 - (lg_sl ([.ref (a 0)])).length) Slot.unset).toArray = ls at hl ⊢
  have hl : lv_has ls 1 [(0, .ref (a 0))] := hl
  have hiX4 : ∀ w ∈ wsX40, w ∈ wsX4_paid := fun _ h => List.mem_cons_of_mem _ (List.mem_append_right _ (h))
  have hw1 := hts (.fieldLink RX4 118 "PegBox" "paid" "I") (List.mem_of_getElem? (i := 1) rfl)
  refine lv_aload_n hx hb dX4_paid_0 rfl (lv_at hl 0 rfl) ?_
  refine va_get (D := D) (ci := 4) (v := .int (u.1 6)) (C := RX4) (T := TX4) (N := 14) hx hb hts hiX4 hown hK hP 0 rfl rfl 10 (by decide) hw1 (fun _ h9 => h9) rfl dX4_paid_1 ?_
  exact W.iret (v := u.1 6) hx hb hr (fun t9 ht9 hW9 => ⟨⟨u.1 6, u, rfl, ⟨rfl, rfl⟩, by rw [ht9]; exact hP, va_K.moved hW9.alike hK, hD⟩, hS.F ht9⟩) hS.2.2 dX4_paid_4
set_option maxHeartbeats 4000000 in
set_option maxRecDepth 100000 in
theorem cc_returned (l : Launch) (D : va_G) (cI cZ : ClassId) (a : Nat → Nat) (sz : Nat) (u : pg_St) : Met l yX4_returned wsX4_returned ({ frames := 0, cells := 0, slots := 0, locals := 0 }) (va_Pc [.ref (a 0)] (pg_B D (pg_ty cI cZ) (pg_wB cI cZ a u) sz)) (va_Qi (fun r u' => r = u.1 7 ∧ u' = u) (pg_E D (pg_ty cI cZ) (va_A (pg_wB cI cZ a u) sz) (pg_wB cI cZ a)) (va_A (pg_wB cI cZ a u) sz)) 0 0 (va_A (pg_wB cI cZ a u) sz) := by
  refine Met.ofW (cc := cX4_returned) (maxL := 1) (ret := (some .int)) (by decide) rfl ?_
  intro p e s m args below meth c s₁ B hml hv
  obtain ⟨rfl, hsz, hP, hK, hD0⟩ := hv
  have hx := B.exec
  have hb := B.bytes
  have hr := B.returns
  have hts := atoms_spec (ws := wsX4_returned) B.pre
  have hown : s.vm.findClass RX4 = some m.cls := findClass_of_methodNamed B.named
  have hlocks := B.notSynchronized
  subst hsz
  have hD := hD0.self (sz := s.heap.size)
  generalize hAe : va_A (pg_wB cI cZ a u) s.heap.size = A at hD ⊢
  have hA : ∀ q : Nat, s.heap.size ≤ q → A q := fun q h => by rw [← hAe]; exact Or.inr h
  have hS : va_S A s.heap s.heap [] := va_S.rf
  have hl := lv_entry ([.ref (a 0)]) (n := 1) (Nat.le_of_ble_eq_true rfl)
  rw [lg_entry_eq]
  generalize (lg_sl ([.ref (a 0)]) ++ List.replicate (1 - (lg_sl ([.ref (a 0)])).length) Slot.unset).toArray = ls at hl ⊢
  have hl : lv_has ls 1 [(0, .ref (a 0))] := hl
  have hiX4 : ∀ w ∈ wsX40, w ∈ wsX4_returned := fun _ h => List.mem_cons_of_mem _ (List.mem_append_right _ (h))
  have hw1 := hts (.fieldLink RX4 178 "PegBox" "returned" "I") (List.mem_of_getElem? (i := 1) rfl)
  refine lv_aload_n hx hb dX4_returned_0 rfl (lv_at hl 0 rfl) ?_
  refine va_get (D := D) (ci := 4) (v := .int (u.1 7)) (C := RX4) (T := TX4) (N := 14) hx hb hts hiX4 hown hK hP 0 rfl rfl 11 (by decide) hw1 (fun _ h9 => h9) rfl dX4_returned_1 ?_
  exact W.iret (v := u.1 7) hx hb hr (fun t9 ht9 hW9 => ⟨⟨u.1 7, u, rfl, ⟨rfl, rfl⟩, by rw [ht9]; exact hP, va_K.moved hW9.alike hK, hD⟩, hS.F ht9⟩) hS.2.2 dX4_returned_4
set_option maxHeartbeats 4000000 in
set_option maxRecDepth 100000 in
theorem cc_setOff (l : Launch) (D : va_G) (cI cZ : ClassId) (a : Nat → Nat) (sz : Nat) (u : pg_St) : Met l yX4_setOff wsX4_setOff ({ frames := 0, cells := 0, slots := 0, locals := 0 }) (va_Pc [.ref (a 0)] (pg_B D (pg_ty cI cZ) (pg_wB cI cZ a u) sz)) (va_Qi (fun r u' => r = u.1 8 ∧ u' = u) (pg_E D (pg_ty cI cZ) (va_A (pg_wB cI cZ a u) sz) (pg_wB cI cZ a)) (va_A (pg_wB cI cZ a u) sz)) 0 0 (va_A (pg_wB cI cZ a u) sz) := by
  refine Met.ofW (cc := cX4_setOff) (maxL := 1) (ret := (some .int)) (by decide) rfl ?_
  intro p e s m args below meth c s₁ B hml hv
  obtain ⟨rfl, hsz, hP, hK, hD0⟩ := hv
  have hx := B.exec
  have hb := B.bytes
  have hr := B.returns
  have hts := atoms_spec (ws := wsX4_setOff) B.pre
  have hown : s.vm.findClass RX4 = some m.cls := findClass_of_methodNamed B.named
  have hlocks := B.notSynchronized
  subst hsz
  have hD := hD0.self (sz := s.heap.size)
  generalize hAe : va_A (pg_wB cI cZ a u) s.heap.size = A at hD ⊢
  have hA : ∀ q : Nat, s.heap.size ≤ q → A q := fun q h => by rw [← hAe]; exact Or.inr h
  have hS : va_S A s.heap s.heap [] := va_S.rf
  have hl := lv_entry ([.ref (a 0)]) (n := 1) (Nat.le_of_ble_eq_true rfl)
  rw [lg_entry_eq]
  generalize (lg_sl ([.ref (a 0)]) ++ List.replicate (1 - (lg_sl ([.ref (a 0)])).length) Slot.unset).toArray = ls at hl ⊢
  have hl : lv_has ls 1 [(0, .ref (a 0))] := hl
  have hiX4 : ∀ w ∈ wsX40, w ∈ wsX4_setOff := fun _ h => List.mem_cons_of_mem _ (List.mem_append_right _ (h))
  have hw1 := hts (.fieldLink RX4 181 "PegBox" "setOff" "I") (List.mem_of_getElem? (i := 1) rfl)
  refine lv_aload_n hx hb dX4_setOff_0 rfl (lv_at hl 0 rfl) ?_
  refine va_get (D := D) (ci := 4) (v := .int (u.1 8)) (C := RX4) (T := TX4) (N := 14) hx hb hts hiX4 hown hK hP 0 rfl rfl 12 (by decide) hw1 (fun _ h9 => h9) rfl dX4_setOff_1 ?_
  exact W.iret (v := u.1 8) hx hb hr (fun t9 ht9 hW9 => ⟨⟨u.1 8, u, rfl, ⟨rfl, rfl⟩, by rw [ht9]; exact hP, va_K.moved hW9.alike hK, hD⟩, hS.F ht9⟩) hS.2.2 dX4_setOff_4
set_option maxHeartbeats 4000000 in
set_option maxRecDepth 100000 in
theorem cc_owed (l : Launch) (D : va_G) (cI cZ : ClassId) (a : Nat → Nat) (sz : Nat) (u : pg_St) : Met l yX4_owed wsX4_owed ({ frames := 0, cells := 0, slots := 0, locals := 0 }) (va_Pc [.ref (a 0)] (pg_B D (pg_ty cI cZ) (pg_wB cI cZ a u) sz)) (va_Qi (fun r u' => r = u.1 9 ∧ u' = u) (pg_E D (pg_ty cI cZ) (va_A (pg_wB cI cZ a u) sz) (pg_wB cI cZ a)) (va_A (pg_wB cI cZ a u) sz)) 0 0 (va_A (pg_wB cI cZ a u) sz) := by
  refine Met.ofW (cc := cX4_owed) (maxL := 1) (ret := (some .int)) (by decide) rfl ?_
  intro p e s m args below meth c s₁ B hml hv
  obtain ⟨rfl, hsz, hP, hK, hD0⟩ := hv
  have hx := B.exec
  have hb := B.bytes
  have hr := B.returns
  have hts := atoms_spec (ws := wsX4_owed) B.pre
  have hown : s.vm.findClass RX4 = some m.cls := findClass_of_methodNamed B.named
  have hlocks := B.notSynchronized
  subst hsz
  have hD := hD0.self (sz := s.heap.size)
  generalize hAe : va_A (pg_wB cI cZ a u) s.heap.size = A at hD ⊢
  have hA : ∀ q : Nat, s.heap.size ≤ q → A q := fun q h => by rw [← hAe]; exact Or.inr h
  have hS : va_S A s.heap s.heap [] := va_S.rf
  have hl := lv_entry ([.ref (a 0)]) (n := 1) (Nat.le_of_ble_eq_true rfl)
  rw [lg_entry_eq]
  generalize (lg_sl ([.ref (a 0)]) ++ List.replicate (1 - (lg_sl ([.ref (a 0)])).length) Slot.unset).toArray = ls at hl ⊢
  have hl : lv_has ls 1 [(0, .ref (a 0))] := hl
  have hiX4 : ∀ w ∈ wsX40, w ∈ wsX4_owed := fun _ h => List.mem_cons_of_mem _ (List.mem_append_right _ (h))
  have hw1 := hts (.fieldLink RX4 184 "PegBox" "owed" "I") (List.mem_of_getElem? (i := 1) rfl)
  refine lv_aload_n hx hb dX4_owed_0 rfl (lv_at hl 0 rfl) ?_
  refine va_get (D := D) (ci := 4) (v := .int (u.1 9)) (C := RX4) (T := TX4) (N := 14) hx hb hts hiX4 hown hK hP 0 rfl rfl 13 (by decide) hw1 (fun _ h9 => h9) rfl dX4_owed_1 ?_
  exact W.iret (v := u.1 9) hx hb hr (fun t9 ht9 hW9 => ⟨⟨u.1 9, u, rfl, ⟨rfl, rfl⟩, by rw [ht9]; exact hP, va_K.moved hW9.alike hK, hD⟩, hS.F ht9⟩) hS.2.2 dX4_owed_4
set_option maxHeartbeats 4000000 in
set_option maxRecDepth 100000 in
theorem cc_claims (l : Launch) (D : va_G) (cI cZ : ClassId) (a : Nat → Nat) (sz : Nat) (u : pg_St) : Met l yX4_claims wsX4_claims ({ frames := 0, cells := 0, slots := 0, locals := 0 }) (va_Pc [.ref (a 0)] (pg_B D (pg_ty cI cZ) (pg_wB cI cZ a u) sz)) (va_Qi (fun r u' => r = u.1 10 ∧ u' = u) (pg_E D (pg_ty cI cZ) (va_A (pg_wB cI cZ a u) sz) (pg_wB cI cZ a)) (va_A (pg_wB cI cZ a u) sz)) 0 0 (va_A (pg_wB cI cZ a u) sz) := by
  refine Met.ofW (cc := cX4_claims) (maxL := 1) (ret := (some .int)) (by decide) rfl ?_
  intro p e s m args below meth c s₁ B hml hv
  obtain ⟨rfl, hsz, hP, hK, hD0⟩ := hv
  have hx := B.exec
  have hb := B.bytes
  have hr := B.returns
  have hts := atoms_spec (ws := wsX4_claims) B.pre
  have hown : s.vm.findClass RX4 = some m.cls := findClass_of_methodNamed B.named
  have hlocks := B.notSynchronized
  subst hsz
  have hD := hD0.self (sz := s.heap.size)
  generalize hAe : va_A (pg_wB cI cZ a u) s.heap.size = A at hD ⊢
  have hA : ∀ q : Nat, s.heap.size ≤ q → A q := fun q h => by rw [← hAe]; exact Or.inr h
  have hS : va_S A s.heap s.heap [] := va_S.rf
  have hl := lv_entry ([.ref (a 0)]) (n := 1) (Nat.le_of_ble_eq_true rfl)
  rw [lg_entry_eq]
  generalize (lg_sl ([.ref (a 0)]) ++ List.replicate (1 - (lg_sl ([.ref (a 0)])).length) Slot.unset).toArray = ls at hl ⊢
  have hl : lv_has ls 1 [(0, .ref (a 0))] := hl
  have hiX0 : ∀ w ∈ wsX00, w ∈ wsX4_claims := fun _ h => List.mem_cons_of_mem _ (List.mem_append_right _ (h))
  have hiX4 : ∀ w ∈ wsX40, w ∈ wsX4_claims := fun _ h => List.mem_cons_of_mem _ (List.mem_append_left _ (List.mem_append_right _ (h)))
  have hw1 := hts (.fieldLink RX4 26 "PegBox" "book" "LPegBox$ClaimBook;") (List.mem_of_getElem? (i := 1) rfl)
  have hw2 := hts (.fieldLink RX4 136 "PegBox$ClaimBook" "count" "I") (List.mem_of_getElem? (i := 2) rfl)
  refine lv_aload_n hx hb dX4_claims_0 rfl (lv_at hl 0 rfl) ?_
  refine va_get (D := D) (ci := 4) (v := .ref (a 3)) (C := RX4) (T := TX4) (N := 14) hx hb hts hiX4 hown hK hP 0 rfl rfl 2 (by decide) hw1 (fun _ h9 => h9) rfl dX4_claims_1 ?_
  refine va_get (D := D) (ci := 0) (v := .int (u.1 10)) (C := RX0) (T := TX0) (N := 5) hx hb hts hiX0 hown hK hP 3 rfl rfl 4 (by decide) hw2 (fun _ h9 => h9) rfl dX4_claims_4 ?_
  exact W.iret (v := u.1 10) hx hb hr (fun t9 ht9 hW9 => ⟨⟨u.1 10, u, rfl, ⟨rfl, rfl⟩, by rw [ht9]; exact hP, va_K.moved hW9.alike hK, hD⟩, hS.F ht9⟩) hS.2.2 dX4_claims_7
set_option maxHeartbeats 4000000 in
set_option maxRecDepth 100000 in
theorem cc_due (l : Launch) (D : va_G) (cI cZ : ClassId) (a : Nat → Nat) (sz : Nat) (u : pg_St) (n : Nat) (hn : u.1 10 = nI n) (h20 : n ≤ 20) : Met l yX4_due wsX4_due ({ frames := 4, cells := 0, slots := 0, locals := 88 }) (va_Pc [.ref (a 0)] (pg_B D (pg_ty cI cZ) (pg_wB cI cZ a u) sz)) (va_Qi (fun r u' => r = pg_all u.2 n ∧ u' = u) (pg_E D (pg_ty cI cZ) (va_A (pg_wB cI cZ a u) sz) (pg_wB cI cZ a)) (va_A (pg_wB cI cZ a u) sz)) 0 0 (va_A (pg_wB cI cZ a u) sz) := by
  refine Met.ofW (cc := cX4_due) (maxL := 1) (ret := (some .int)) (by decide) rfl ?_
  intro p e s m args below meth c s₁ B hml hv
  obtain ⟨rfl, hsz, hP, hK, hD0⟩ := hv
  have hx := B.exec
  have hb := B.bytes
  have hr := B.returns
  have hts := atoms_spec (ws := wsX4_due) B.pre
  have hown : s.vm.findClass RX4 = some m.cls := findClass_of_methodNamed B.named
  have hlocks := B.notSynchronized
  subst hsz
  have hD := hD0.self (sz := s.heap.size)
  generalize hAe : va_A (pg_wB cI cZ a u) s.heap.size = A at hD ⊢
  have hA : ∀ q : Nat, s.heap.size ≤ q → A q := fun q h => by rw [← hAe]; exact Or.inr h
  have hS : va_S A s.heap s.heap [] := va_S.rf
  have hl := lv_entry ([.ref (a 0)]) (n := 1) (Nat.le_of_ble_eq_true rfl)
  rw [lg_entry_eq]
  generalize (lg_sl ([.ref (a 0)]) ++ List.replicate (1 - (lg_sl ([.ref (a 0)])).length) Slot.unset).toArray = ls at hl ⊢
  have hl : lv_has ls 1 [(0, .ref (a 0))] := hl
  refine lv_aload_n hx hb dX4_due_0 rfl (lv_at hl 0 rfl) ?_
  refine pg_iE (pg_rV (As := []) (rest := []) ⟨hx, hb, hml, hown, hts⟩ (cc_dueInAll l D cI cZ a s.heap.size u n hn h20) (cwV 0 hts gX4_due_X4_dueInAll rfl rfl rfl (by decide +kernel) ⟨Nat.le_of_ble_eq_true rfl, Nat.le_of_ble_eq_true rfl⟩) hK hP hD 0 (ci := 4) rfl rfl rfl rfl hl.1 rfl (Nat.le_of_ble_eq_true rfl) dX4_due_1 ⟨Nat.le_of_ble_eq_true rfl, Nat.le_of_ble_eq_true rfl⟩) hD hS hA (fun H locs hP hD hS => ?_)
  exact W.iret (v := pg_all u.2 n) hx hb hr (fun t9 ht9 hW9 => ⟨⟨pg_all u.2 n, u, rfl, ⟨rfl, rfl⟩, by rw [ht9]; exact hP, va_K.moved hW9.alike hK, hD⟩, hS.F ht9⟩) hS.2.2 dX4_due_4
set_option maxHeartbeats 4000000 in
set_option maxRecDepth 100000 in
theorem cc_outstanding (l : Launch) (D : va_G) (cI cZ : ClassId) (a : Nat → Nat) (sz : Nat) (u : pg_St) (n : Nat) (hn : u.1 10 = nI n) (h20 : n ≤ 20) : Met l yX4_outstanding wsX4_outstanding ({ frames := 5, cells := 0, slots := 0, locals := 108 }) (va_Pc [.ref (a 0)] (pg_B D (pg_ty cI cZ) (pg_wB cI cZ a u) sz)) (va_Qi (fun r u' => r = pg_out u n ∧ u' = u) (pg_E D (pg_ty cI cZ) (va_A (pg_wB cI cZ a u) sz) (pg_wB cI cZ a)) (va_A (pg_wB cI cZ a u) sz)) 0 0 (va_A (pg_wB cI cZ a u) sz) := by
  refine Met.ofW (cc := cX4_outstanding) (maxL := 1) (ret := (some .int)) (by decide) rfl ?_
  intro p e s m args below meth c s₁ B hml hv
  obtain ⟨rfl, hsz, hP, hK, hD0⟩ := hv
  have hx := B.exec
  have hb := B.bytes
  have hr := B.returns
  have hts := atoms_spec (ws := wsX4_outstanding) B.pre
  have hown : s.vm.findClass RX4 = some m.cls := findClass_of_methodNamed B.named
  have hlocks := B.notSynchronized
  subst hsz
  have hD := hD0.self (sz := s.heap.size)
  generalize hAe : va_A (pg_wB cI cZ a u) s.heap.size = A at hD ⊢
  have hA : ∀ q : Nat, s.heap.size ≤ q → A q := fun q h => by rw [← hAe]; exact Or.inr h
  have hS : va_S A s.heap s.heap [] := va_S.rf
  have hl := lv_entry ([.ref (a 0)]) (n := 1) (Nat.le_of_ble_eq_true rfl)
  rw [lg_entry_eq]
  generalize (lg_sl ([.ref (a 0)]) ++ List.replicate (1 - (lg_sl ([.ref (a 0)])).length) Slot.unset).toArray = ls at hl ⊢
  have hl : lv_has ls 1 [(0, .ref (a 0))] := hl
  refine lv_aload_n hx hb dX4_outstanding_0 rfl (lv_at hl 0 rfl) ?_
  refine pg_iE (pg_rV (As := []) (rest := []) ⟨hx, hb, hml, hown, hts⟩ (cc_left l D cI cZ a s.heap.size u n hn h20) (cwV 0 hts gX4_outstanding_X4_leftOutstanding rfl rfl rfl (by decide +kernel) ⟨Nat.le_of_ble_eq_true rfl, Nat.le_of_ble_eq_true rfl⟩) hK hP hD 0 (ci := 4) rfl rfl rfl rfl hl.1 rfl (Nat.le_of_ble_eq_true rfl) dX4_outstanding_1 ⟨Nat.le_of_ble_eq_true rfl, Nat.le_of_ble_eq_true rfl⟩) hD hS hA (fun H locs hP hD hS => ?_)
  exact W.iret (v := pg_out u n) hx hb hr (fun t9 ht9 hW9 => ⟨⟨pg_out u n, u, rfl, ⟨rfl, rfl⟩, by rw [ht9]; exact hP, va_K.moved hW9.alike hK, hD⟩, hS.F ht9⟩) hS.2.2 dX4_outstanding_4
set_option maxHeartbeats 4000000 in
set_option maxRecDepth 100000 in
/-- cc_dueOf: returns -/
theorem cc_dueOf_ok (l : Launch) (D : va_G) (cI cZ : ClassId) (a : Nat → Nat) (sz : Nat) (u : pg_St) (n : Nat) (hn : u.1 10 = nI n) (h20 : n ≤ 20) (k : Int32) (hthr : pg_t_num k 3 = 0) : Met l yX4_dueOf wsX4_dueOf ({ frames := 3, cells := 0, slots := 0, locals := 66 }) (va_Pc [.ref (a 0), .int k] (pg_B D (pg_ty cI cZ) (pg_wB cI cZ a u) sz)) (va_Qi (fun r u' => r = pg_due u.2 n k.toNatClampNeg ∧ u' = u) (pg_E D (pg_ty cI cZ) (va_A (pg_wB cI cZ a u) sz) (pg_wB cI cZ a)) (va_A (pg_wB cI cZ a u) sz)) 0 0 (va_A (pg_wB cI cZ a u) sz) := by
  refine Met.ofW (cc := cX4_dueOf) (maxL := 2) (ret := (some .int)) (by decide) rfl ?_
  intro p e s m args below meth c s₁ B hml hv
  obtain ⟨rfl, hsz, hP, hK, hD0⟩ := hv
  have hx := B.exec
  have hb := B.bytes
  have hr := B.returns
  have hts := atoms_spec (ws := wsX4_dueOf) B.pre
  have hown : s.vm.findClass RX4 = some m.cls := findClass_of_methodNamed B.named
  have hlocks := B.notSynchronized
  subst hsz
  have hD := hD0.self (sz := s.heap.size)
  generalize hAe : va_A (pg_wB cI cZ a u) s.heap.size = A at hD ⊢
  have hA : ∀ q : Nat, s.heap.size ≤ q → A q := fun q h => by rw [← hAe]; exact Or.inr h
  have hS : va_S A s.heap s.heap [] := va_S.rf
  have hl := lv_entry ([.ref (a 0), .int k]) (n := 2) (Nat.le_of_ble_eq_true rfl)
  rw [lg_entry_eq]
  generalize (lg_sl ([.ref (a 0), .int k]) ++ List.replicate (2 - (lg_sl ([.ref (a 0), .int k])).length) Slot.unset).toArray = ls at hl ⊢
  have hl : lv_has ls 2 [(0, .ref (a 0)), (1, .int k)] := hl
  refine lv_iload_n hx hb dX4_dueOf_0 rfl (lv_at hl 1 rfl) ?_
  refine lv_iconst (v := 3) hx hb dX4_dueOf_1 (by decide) ?_
  rcases Bool.eq_false_or_eq_true (pg_nb k 3) with c_2 | c_2
  · refine pg_vU (pg_rS (As := [.int k, .int 3]) (rest := []) ⟨hx, hb, hml, hown, hts⟩ (cc_num_ok l D (pg_ty cI cZ) (pg_wB cI cZ a u) s.heap.size k 3 c_2) (va_cwS 2 hts gX4_dueOf_X4_checkNumber rfl rfl rfl (by decide +kernel) ⟨Nat.le_of_ble_eq_true rfl, Nat.le_of_ble_eq_true rfl⟩) hK hP hD rfl hl.1 rfl (Nat.le_of_ble_eq_true rfl) dX4_dueOf_2 ⟨Nat.le_of_ble_eq_true rfl, Nat.le_of_ble_eq_true rfl⟩) hD hS hA (fun H locs hP hD hS => ?_)
    obtain ⟨j, hj, rfl⟩ := pg_nb_nI (n := 3) (by omega) c_2
    have hcl : (nI j).toNatClampNeg = j := nI_clamp (by omega)
    refine lv_aload_n hx hb dX4_dueOf_5 rfl (lv_at hl 0 rfl) ?_
    refine lv_iload_n hx hb dX4_dueOf_6 rfl (lv_at hl 1 rfl) ?_
    refine pg_iE (pg_rV (As := [.int (nI j)]) (rest := []) ⟨hx, hb, hml, hown, hts⟩ (cc_dueOfKind l D cI cZ a H.size u n hn h20 j hj) (cwV 1 hts gX4_dueOf_X4_dueOfKind rfl rfl rfl (by decide +kernel) ⟨Nat.le_of_ble_eq_true rfl, Nat.le_of_ble_eq_true rfl⟩) hK hP hD 0 (ci := 4) rfl rfl rfl rfl hl.1 rfl (Nat.le_of_ble_eq_true rfl) dX4_dueOf_7 ⟨Nat.le_of_ble_eq_true rfl, Nat.le_of_ble_eq_true rfl⟩) hD hS hA (fun H locs hP hD hS => ?_)
    exact W.iret (v := pg_due u.2 n j) hx hb hr (fun t9 ht9 hW9 => ⟨⟨pg_due u.2 n j, u, rfl, ⟨by rw [hcl], rfl⟩, by rw [ht9]; exact hP, va_K.moved hW9.alike hK, hD⟩, hS.F ht9⟩) hS.2.2 dX4_dueOf_10
  · exact absurd hthr (by first | (simp only [pg_t_num, c_2, cond_true, cond_false, Bool.not_true, Bool.not_false]; done) | (simp only [pg_t_num, c_2, cond_true, cond_false, Bool.not_true, Bool.not_false]; decide))
set_option maxHeartbeats 4000000 in
set_option maxRecDepth 100000 in
/-- cc_dueOf: throws -/
theorem cc_dueOf_no (l : Launch) (hfl : l.stackTraces = false) (D : va_G) (cI cZ : ClassId) (a : Nat → Nat) (sz : Nat) (u : pg_St) (n : Nat) (hn : u.1 10 = nI n) (h20 : n ≤ 20) (k : Int32) (e9 : Int32) (nm : String) (hthr : pg_t_num k 3 = e9) (h0 : e9 ≠ 0) (h9_1 : e9 = 1 → nm = pg_io) : vx_Met l yX4_dueOf wsX4_dueOf ({ frames := 7, cells := 1, slots := 6, locals := 108 }) (va_Pc [.ref (a 0), .int k] (pg_T D (pg_ty cI cZ) (pg_wB cI cZ a u) sz)) pg_No (pg_X D (pg_wB cI cZ a u) (va_A (pg_wB cI cZ a u) sz) nm) 1 6 (va_A (pg_wB cI cZ a u) sz) := by
  refine vx_ofW (cc := cX4_dueOf) (maxL := 2) (ret := (some .int)) (by decide) rfl ?_
  intro p e s m args below meth c s₁ B hml hout hv
  obtain ⟨rfl, ⟨hsz, hP, hK, hD0⟩, hE⟩ := hv
  have hx := B.exec
  have hb := B.bytes
  have hr := B.returns
  have hts := atoms_spec (ws := wsX4_dueOf) B.pre
  have hown : s.vm.findClass RX4 = some m.cls := findClass_of_methodNamed B.named
  have hlocks := B.notSynchronized
  subst hsz
  have hD := hD0.self (sz := s.heap.size)
  generalize hAe : va_A (pg_wB cI cZ a u) s.heap.size = A at hD hE ⊢
  have hA : ∀ q : Nat, s.heap.size ≤ q → A q := fun q h => by rw [← hAe]; exact Or.inr h
  have hS : va_S A s.heap s.heap [] := va_S.rf
  have hl := lv_entry ([.ref (a 0), .int k]) (n := 2) (Nat.le_of_ble_eq_true rfl)
  rw [lg_entry_eq]
  generalize (lg_sl ([.ref (a 0), .int k]) ++ List.replicate (2 - (lg_sl ([.ref (a 0), .int k])).length) Slot.unset).toArray = ls at hl ⊢
  have hl : lv_has ls 2 [(0, .ref (a 0)), (1, .int k)] := hl
  refine lv_iload_n hx hb dX4_dueOf_0 rfl (lv_at hl 1 rfl) ?_
  refine lv_iconst (v := 3) hx hb dX4_dueOf_1 (by decide) ?_
  rcases Bool.eq_false_or_eq_true (pg_nb k 3) with c_2 | c_2
  · exact absurd (hthr.symm.trans (by simp only [pg_t_num, c_2, cond_true, cond_false, Bool.not_true, Bool.not_false])) h0
  · have he : e9 = 1 := hthr.symm.trans (by simp only [pg_t_num, c_2, cond_true, cond_false, Bool.not_true, Bool.not_false])
    obtain rfl := h9_1 he
    exact pg_thru (pg_xS (As := [.int k, .int 3]) (rest := []) ⟨hx, hb, hml, hown, hts⟩ (cc_num_no l hfl D (pg_ty cI cZ) (pg_wB cI cZ a u) s.heap.size k 3 c_2) (va_cwS 2 hts gX4_dueOf_X4_checkNumber rfl rfl rfl (by decide +kernel) ⟨Nat.le_of_ble_eq_true rfl, Nat.le_of_ble_eq_true rfl⟩) hK hP hD hS hA hE rfl hl.1 rfl (Nat.le_of_ble_eq_true rfl) dX4_dueOf_2 ⟨Nat.le_of_ble_eq_true rfl, Nat.le_of_ble_eq_true rfl⟩) hD hS hA hout hlocks (Nat.le_of_ble_eq_true rfl) (Nat.le_of_ble_eq_true rfl)
set_option maxHeartbeats 4000000 in
set_option maxRecDepth 100000 in
/-- cc_settledAt: returns -/
theorem cc_settledAt_ok (l : Launch) (D : va_G) (cI cZ : ClassId) (a : Nat → Nat) (sz : Nat) (u : pg_St) (n : Nat) (hn : u.1 10 = nI n) (h20 : n ≤ 20) (k : Int32) (hthr : pg_t_num k (nI n) = 0) : Met l yX4_settledAt wsX4_settledAt ({ frames := 1, cells := 0, slots := 0, locals := 22 }) (va_Pc [.ref (a 0), .int k] (pg_B D (pg_ty cI cZ) (pg_wB cI cZ a u) sz)) (va_Qi (fun r u' => r = u.2 10 k.toNatClampNeg ∧ u' = u) (pg_E D (pg_ty cI cZ) (va_A (pg_wB cI cZ a u) sz) (pg_wB cI cZ a)) (va_A (pg_wB cI cZ a u) sz)) 0 0 (va_A (pg_wB cI cZ a u) sz) := by
  refine Met.ofW (cc := cX4_settledAt) (maxL := 2) (ret := (some .int)) (by decide) rfl ?_
  intro p e s m args below meth c s₁ B hml hv
  obtain ⟨rfl, hsz, hP, hK, hD0⟩ := hv
  have hx := B.exec
  have hb := B.bytes
  have hr := B.returns
  have hts := atoms_spec (ws := wsX4_settledAt) B.pre
  have hown : s.vm.findClass RX4 = some m.cls := findClass_of_methodNamed B.named
  have hlocks := B.notSynchronized
  subst hsz
  have hD := hD0.self (sz := s.heap.size)
  generalize hAe : va_A (pg_wB cI cZ a u) s.heap.size = A at hD ⊢
  have hA : ∀ q : Nat, s.heap.size ≤ q → A q := fun q h => by rw [← hAe]; exact Or.inr h
  have hS : va_S A s.heap s.heap [] := va_S.rf
  have hl := lv_entry ([.ref (a 0), .int k]) (n := 2) (Nat.le_of_ble_eq_true rfl)
  rw [lg_entry_eq]
  generalize (lg_sl ([.ref (a 0), .int k]) ++ List.replicate (2 - (lg_sl ([.ref (a 0), .int k])).length) Slot.unset).toArray = ls at hl ⊢
  have hl : lv_has ls 2 [(0, .ref (a 0)), (1, .int k)] := hl
  have hiX0 : ∀ w ∈ wsX00, w ∈ wsX4_settledAt := fun _ h => List.mem_cons_of_mem _ (List.mem_append_left _ (List.mem_append_right _ (h)))
  have hiX4 : ∀ w ∈ wsX40, w ∈ wsX4_settledAt := fun _ h => List.mem_cons_of_mem _ (List.mem_append_left _ (List.mem_append_left _ (List.mem_append_right _ (h))))
  have hw1 := hts (.fieldLink RX4 26 "PegBox" "book" "LPegBox$ClaimBook;") (List.mem_of_getElem? (i := 1) rfl)
  have hw2 := hts (.fieldLink RX4 136 "PegBox$ClaimBook" "count" "I") (List.mem_of_getElem? (i := 2) rfl)
  have hw3 := hts (.fieldLink RX4 147 "PegBox$ClaimBook" "settled" "[I") (List.mem_of_getElem? (i := 3) rfl)
  refine lv_iload_n hx hb dX4_settledAt_0 rfl (lv_at hl 1 rfl) ?_
  refine lv_aload_n hx hb dX4_settledAt_1 rfl (lv_at hl 0 rfl) ?_
  refine va_get (D := D) (ci := 4) (v := .ref (a 3)) (C := RX4) (T := TX4) (N := 14) hx hb hts hiX4 hown hK hP 0 rfl rfl 2 (by decide) hw1 (fun _ h9 => h9) rfl dX4_settledAt_2 ?_
  refine va_get (D := D) (ci := 0) (v := .int (u.1 10)) (C := RX0) (T := TX0) (N := 5) hx hb hts hiX0 hown hK hP 3 rfl rfl 4 (by decide) hw2 (fun _ h9 => h9) rfl dX4_settledAt_5 ?_
  rw [hn]
  rcases Bool.eq_false_or_eq_true (pg_nb k (nI n)) with c_8 | c_8
  · refine pg_vU (pg_rS (As := [.int k, .int (nI n)]) (rest := []) ⟨hx, hb, hml, hown, hts⟩ (cc_num_ok l D (pg_ty cI cZ) (pg_wB cI cZ a u) s.heap.size k (nI n) c_8) (va_cwS 2 hts gX4_settledAt_X4_checkNumber rfl rfl rfl (by decide +kernel) ⟨Nat.le_of_ble_eq_true rfl, Nat.le_of_ble_eq_true rfl⟩) hK hP hD rfl hl.1 rfl (Nat.le_of_ble_eq_true rfl) dX4_settledAt_8 ⟨Nat.le_of_ble_eq_true rfl, Nat.le_of_ble_eq_true rfl⟩) hD hS hA (fun H locs hP hD hS => ?_)
    obtain ⟨j, hj, rfl⟩ := pg_nb_nI (n := n) (by omega) c_8
    have hcl : (nI j).toNatClampNeg = j := nI_clamp (by omega)
    refine lv_aload_n hx hb dX4_settledAt_11 rfl (lv_at hl 0 rfl) ?_
    refine va_get (D := D) (ci := 4) (v := .ref (a 3)) (C := RX4) (T := TX4) (N := 14) hx hb hts hiX4 hown hK hP 0 rfl rfl 2 (by decide) hw1 (fun _ h9 => h9) rfl dX4_settledAt_12 ?_
    refine va_get (D := D) (ci := 0) (v := .ref (a 15)) (C := RX0) (T := TX0) (N := 5) hx hb hts hiX0 hown hK hP 3 rfl rfl 3 (by decide) hw3 (fun _ h9 => h9) rfl dX4_settledAt_15 ?_
    refine lv_iload_n hx hb dX4_settledAt_18 rfl (lv_at hl 1 rfl) ?_
    refine pg_ild (f := u.2 10) hx hb hK hP 15 0 rfl rfl (show j < _ by omega) (by decide) dX4_settledAt_19 ?_
    exact W.iret (v := u.2 10 j) hx hb hr (fun t9 ht9 hW9 => ⟨⟨u.2 10 j, u, rfl, ⟨by rw [hcl], rfl⟩, by rw [ht9]; exact hP, va_K.moved hW9.alike hK, hD⟩, hS.F ht9⟩) hS.2.2 dX4_settledAt_20
  · exact absurd hthr (by first | (simp only [pg_t_num, c_8, cond_true, cond_false, Bool.not_true, Bool.not_false]; done) | (simp only [pg_t_num, c_8, cond_true, cond_false, Bool.not_true, Bool.not_false]; decide))
set_option maxHeartbeats 4000000 in
set_option maxRecDepth 100000 in
/-- cc_settledAt: throws -/
theorem cc_settledAt_no (l : Launch) (hfl : l.stackTraces = false) (D : va_G) (cI cZ : ClassId) (a : Nat → Nat) (sz : Nat) (u : pg_St) (n : Nat) (hn : u.1 10 = nI n) (h20 : n ≤ 20) (k : Int32) (e9 : Int32) (nm : String) (hthr : pg_t_num k (nI n) = e9) (h0 : e9 ≠ 0) (h9_1 : e9 = 1 → nm = pg_io) : vx_Met l yX4_settledAt wsX4_settledAt ({ frames := 7, cells := 1, slots := 6, locals := 108 }) (va_Pc [.ref (a 0), .int k] (pg_T D (pg_ty cI cZ) (pg_wB cI cZ a u) sz)) pg_No (pg_X D (pg_wB cI cZ a u) (va_A (pg_wB cI cZ a u) sz) nm) 1 6 (va_A (pg_wB cI cZ a u) sz) := by
  refine vx_ofW (cc := cX4_settledAt) (maxL := 2) (ret := (some .int)) (by decide) rfl ?_
  intro p e s m args below meth c s₁ B hml hout hv
  obtain ⟨rfl, ⟨hsz, hP, hK, hD0⟩, hE⟩ := hv
  have hx := B.exec
  have hb := B.bytes
  have hr := B.returns
  have hts := atoms_spec (ws := wsX4_settledAt) B.pre
  have hown : s.vm.findClass RX4 = some m.cls := findClass_of_methodNamed B.named
  have hlocks := B.notSynchronized
  subst hsz
  have hD := hD0.self (sz := s.heap.size)
  generalize hAe : va_A (pg_wB cI cZ a u) s.heap.size = A at hD hE ⊢
  have hA : ∀ q : Nat, s.heap.size ≤ q → A q := fun q h => by rw [← hAe]; exact Or.inr h
  have hS : va_S A s.heap s.heap [] := va_S.rf
  have hl := lv_entry ([.ref (a 0), .int k]) (n := 2) (Nat.le_of_ble_eq_true rfl)
  rw [lg_entry_eq]
  generalize (lg_sl ([.ref (a 0), .int k]) ++ List.replicate (2 - (lg_sl ([.ref (a 0), .int k])).length) Slot.unset).toArray = ls at hl ⊢
  have hl : lv_has ls 2 [(0, .ref (a 0)), (1, .int k)] := hl
  have hiX0 : ∀ w ∈ wsX00, w ∈ wsX4_settledAt := fun _ h => List.mem_cons_of_mem _ (List.mem_append_left _ (List.mem_append_right _ (h)))
  have hiX4 : ∀ w ∈ wsX40, w ∈ wsX4_settledAt := fun _ h => List.mem_cons_of_mem _ (List.mem_append_left _ (List.mem_append_left _ (List.mem_append_right _ (h))))
  have hw1 := hts (.fieldLink RX4 26 "PegBox" "book" "LPegBox$ClaimBook;") (List.mem_of_getElem? (i := 1) rfl)
  have hw2 := hts (.fieldLink RX4 136 "PegBox$ClaimBook" "count" "I") (List.mem_of_getElem? (i := 2) rfl)
  refine lv_iload_n hx hb dX4_settledAt_0 rfl (lv_at hl 1 rfl) ?_
  refine lv_aload_n hx hb dX4_settledAt_1 rfl (lv_at hl 0 rfl) ?_
  refine va_get (D := D) (ci := 4) (v := .ref (a 3)) (C := RX4) (T := TX4) (N := 14) hx hb hts hiX4 hown hK hP 0 rfl rfl 2 (by decide) hw1 (fun _ h9 => h9) rfl dX4_settledAt_2 ?_
  refine va_get (D := D) (ci := 0) (v := .int (u.1 10)) (C := RX0) (T := TX0) (N := 5) hx hb hts hiX0 hown hK hP 3 rfl rfl 4 (by decide) hw2 (fun _ h9 => h9) rfl dX4_settledAt_5 ?_
  rw [hn]
  rcases Bool.eq_false_or_eq_true (pg_nb k (nI n)) with c_8 | c_8
  · exact absurd (hthr.symm.trans (by simp only [pg_t_num, c_8, cond_true, cond_false, Bool.not_true, Bool.not_false])) h0
  · have he : e9 = 1 := hthr.symm.trans (by simp only [pg_t_num, c_8, cond_true, cond_false, Bool.not_true, Bool.not_false])
    obtain rfl := h9_1 he
    exact pg_thru (pg_xS (As := [.int k, .int (nI n)]) (rest := []) ⟨hx, hb, hml, hown, hts⟩ (cc_num_no l hfl D (pg_ty cI cZ) (pg_wB cI cZ a u) s.heap.size k (nI n) c_8) (va_cwS 2 hts gX4_settledAt_X4_checkNumber rfl rfl rfl (by decide +kernel) ⟨Nat.le_of_ble_eq_true rfl, Nat.le_of_ble_eq_true rfl⟩) hK hP hD hS hA hE rfl hl.1 rfl (Nat.le_of_ble_eq_true rfl) dX4_settledAt_8 ⟨Nat.le_of_ble_eq_true rfl, Nat.le_of_ble_eq_true rfl⟩) hD hS hA hout hlocks (Nat.le_of_ble_eq_true rfl) (Nat.le_of_ble_eq_true rfl)
set_option maxHeartbeats 4000000 in
set_option maxRecDepth 100000 in
/-- cc_isMet: returns -/
theorem cc_isMet_ok (l : Launch) (D : va_G) (cI cZ : ClassId) (a : Nat → Nat) (sz : Nat) (u : pg_St) (hm9 : ∀ j, j < 4 → narrow .boolean (.int (u.2 13 j)) = .int (u.2 13 j)) (k : Int32) (hthr : pg_t_num k 4 = 0) : Met l yX4_isMet wsX4_isMet ({ frames := 1, cells := 0, slots := 0, locals := 22 }) (va_Pc [.ref (a 0), .int k] (pg_B D (pg_ty cI cZ) (pg_wB cI cZ a u) sz)) (va_Qi (fun r u' => r = u.2 13 k.toNatClampNeg ∧ u' = u) (pg_E D (pg_ty cI cZ) (va_A (pg_wB cI cZ a u) sz) (pg_wB cI cZ a)) (va_A (pg_wB cI cZ a u) sz)) 0 0 (va_A (pg_wB cI cZ a u) sz) := by
  refine Met.ofW (cc := cX4_isMet) (maxL := 2) (ret := (some .boolean)) (by decide) rfl ?_
  intro p e s m args below meth c s₁ B hml hv
  obtain ⟨rfl, hsz, hP, hK, hD0⟩ := hv
  have hx := B.exec
  have hb := B.bytes
  have hr := B.returns
  have hts := atoms_spec (ws := wsX4_isMet) B.pre
  have hown : s.vm.findClass RX4 = some m.cls := findClass_of_methodNamed B.named
  have hlocks := B.notSynchronized
  subst hsz
  have hD := hD0.self (sz := s.heap.size)
  generalize hAe : va_A (pg_wB cI cZ a u) s.heap.size = A at hD ⊢
  have hA : ∀ q : Nat, s.heap.size ≤ q → A q := fun q h => by rw [← hAe]; exact Or.inr h
  have hS : va_S A s.heap s.heap [] := va_S.rf
  have hl := lv_entry ([.ref (a 0), .int k]) (n := 2) (Nat.le_of_ble_eq_true rfl)
  rw [lg_entry_eq]
  generalize (lg_sl ([.ref (a 0), .int k]) ++ List.replicate (2 - (lg_sl ([.ref (a 0), .int k])).length) Slot.unset).toArray = ls at hl ⊢
  have hl : lv_has ls 2 [(0, .ref (a 0)), (1, .int k)] := hl
  have hiX1 : ∀ w ∈ wsX10, w ∈ wsX4_isMet := fun _ h => List.mem_cons_of_mem _ (List.mem_append_left _ (List.mem_append_right _ (h)))
  have hiX4 : ∀ w ∈ wsX40, w ∈ wsX4_isMet := fun _ h => List.mem_cons_of_mem _ (List.mem_append_left _ (List.mem_append_left _ (List.mem_append_right _ (h))))
  have hw1 := hts (.fieldLink RX4 33 "PegBox" "earnOut" "LPegBox$EarnOut;") (List.mem_of_getElem? (i := 1) rfl)
  have hw2 := hts (.fieldLink RX4 196 "PegBox$EarnOut" "met" "[Z") (List.mem_of_getElem? (i := 2) rfl)
  refine lv_iload_n hx hb dX4_isMet_0 rfl (lv_at hl 1 rfl) ?_
  refine lv_iconst (v := 4) hx hb dX4_isMet_1 (by decide) ?_
  rcases Bool.eq_false_or_eq_true (pg_nb k 4) with c_2 | c_2
  · refine pg_vU (pg_rS (As := [.int k, .int 4]) (rest := []) ⟨hx, hb, hml, hown, hts⟩ (cc_num_ok l D (pg_ty cI cZ) (pg_wB cI cZ a u) s.heap.size k 4 c_2) (va_cwS 2 hts gX4_isMet_X4_checkNumber rfl rfl rfl (by decide +kernel) ⟨Nat.le_of_ble_eq_true rfl, Nat.le_of_ble_eq_true rfl⟩) hK hP hD rfl hl.1 rfl (Nat.le_of_ble_eq_true rfl) dX4_isMet_2 ⟨Nat.le_of_ble_eq_true rfl, Nat.le_of_ble_eq_true rfl⟩) hD hS hA (fun H locs hP hD hS => ?_)
    obtain ⟨j, hj, rfl⟩ := pg_nb_nI (n := 4) (by omega) c_2
    have hcl : (nI j).toNatClampNeg = j := nI_clamp (by omega)
    refine lv_aload_n hx hb dX4_isMet_5 rfl (lv_at hl 0 rfl) ?_
    refine va_get (D := D) (ci := 4) (v := .ref (a 4)) (C := RX4) (T := TX4) (N := 14) hx hb hts hiX4 hown hK hP 0 rfl rfl 3 (by decide) hw1 (fun _ h9 => h9) rfl dX4_isMet_6 ?_
    refine va_get (D := D) (ci := 1) (v := .ref (a 18)) (C := RX1) (T := TX1) (N := 8) hx hb hts hiX1 hown hK hP 4 rfl rfl 2 (by decide) hw2 (fun _ h9 => h9) rfl dX4_isMet_9 ?_
    refine lv_iload_n hx hb dX4_isMet_12 rfl (lv_at hl 1 rfl) ?_
    refine pg_zld (f := u.2 13) hx hb hK hP 18 1 rfl rfl (show j < _ by omega) (by decide) dX4_isMet_13 ?_
    exact W.zret (v := u.2 13 j) hx hb hr (hm9 j hj) (fun t9 ht9 hW9 => ⟨⟨u.2 13 j, u, rfl, ⟨by rw [hcl], rfl⟩, by rw [ht9]; exact hP, va_K.moved hW9.alike hK, hD⟩, hS.F ht9⟩) hS.2.2 dX4_isMet_14
  · exact absurd hthr (by first | (simp only [pg_t_num, c_2, cond_true, cond_false, Bool.not_true, Bool.not_false]; done) | (simp only [pg_t_num, c_2, cond_true, cond_false, Bool.not_true, Bool.not_false]; decide))
set_option maxHeartbeats 4000000 in
set_option maxRecDepth 100000 in
/-- cc_isMet: throws -/
theorem cc_isMet_no (l : Launch) (hfl : l.stackTraces = false) (D : va_G) (cI cZ : ClassId) (a : Nat → Nat) (sz : Nat) (u : pg_St) (hm9 : ∀ j, j < 4 → narrow .boolean (.int (u.2 13 j)) = .int (u.2 13 j)) (k : Int32) (e9 : Int32) (nm : String) (hthr : pg_t_num k 4 = e9) (h0 : e9 ≠ 0) (h9_1 : e9 = 1 → nm = pg_io) : vx_Met l yX4_isMet wsX4_isMet ({ frames := 7, cells := 1, slots := 6, locals := 108 }) (va_Pc [.ref (a 0), .int k] (pg_T D (pg_ty cI cZ) (pg_wB cI cZ a u) sz)) pg_No (pg_X D (pg_wB cI cZ a u) (va_A (pg_wB cI cZ a u) sz) nm) 1 6 (va_A (pg_wB cI cZ a u) sz) := by
  refine vx_ofW (cc := cX4_isMet) (maxL := 2) (ret := (some .boolean)) (by decide) rfl ?_
  intro p e s m args below meth c s₁ B hml hout hv
  obtain ⟨rfl, ⟨hsz, hP, hK, hD0⟩, hE⟩ := hv
  have hx := B.exec
  have hb := B.bytes
  have hr := B.returns
  have hts := atoms_spec (ws := wsX4_isMet) B.pre
  have hown : s.vm.findClass RX4 = some m.cls := findClass_of_methodNamed B.named
  have hlocks := B.notSynchronized
  subst hsz
  have hD := hD0.self (sz := s.heap.size)
  generalize hAe : va_A (pg_wB cI cZ a u) s.heap.size = A at hD hE ⊢
  have hA : ∀ q : Nat, s.heap.size ≤ q → A q := fun q h => by rw [← hAe]; exact Or.inr h
  have hS : va_S A s.heap s.heap [] := va_S.rf
  have hl := lv_entry ([.ref (a 0), .int k]) (n := 2) (Nat.le_of_ble_eq_true rfl)
  rw [lg_entry_eq]
  generalize (lg_sl ([.ref (a 0), .int k]) ++ List.replicate (2 - (lg_sl ([.ref (a 0), .int k])).length) Slot.unset).toArray = ls at hl ⊢
  have hl : lv_has ls 2 [(0, .ref (a 0)), (1, .int k)] := hl
  refine lv_iload_n hx hb dX4_isMet_0 rfl (lv_at hl 1 rfl) ?_
  refine lv_iconst (v := 4) hx hb dX4_isMet_1 (by decide) ?_
  rcases Bool.eq_false_or_eq_true (pg_nb k 4) with c_2 | c_2
  · exact absurd (hthr.symm.trans (by simp only [pg_t_num, c_2, cond_true, cond_false, Bool.not_true, Bool.not_false])) h0
  · have he : e9 = 1 := hthr.symm.trans (by simp only [pg_t_num, c_2, cond_true, cond_false, Bool.not_true, Bool.not_false])
    obtain rfl := h9_1 he
    exact pg_thru (pg_xS (As := [.int k, .int 4]) (rest := []) ⟨hx, hb, hml, hown, hts⟩ (cc_num_no l hfl D (pg_ty cI cZ) (pg_wB cI cZ a u) s.heap.size k 4 c_2) (va_cwS 2 hts gX4_isMet_X4_checkNumber rfl rfl rfl (by decide +kernel) ⟨Nat.le_of_ble_eq_true rfl, Nat.le_of_ble_eq_true rfl⟩) hK hP hD hS hA hE rfl hl.1 rfl (Nat.le_of_ble_eq_true rfl) dX4_isMet_2 ⟨Nat.le_of_ble_eq_true rfl, Nat.le_of_ble_eq_true rfl⟩) hD hS hA hout hlocks (Nat.le_of_ble_eq_true rfl) (Nat.le_of_ble_eq_true rfl)
end
section
set_option maxHeartbeats 4000000 in
set_option maxRecDepth 100000 in
/-- cc_close: returns -/
theorem cc_close_ok (l : Launch) (D : va_G) (cI cZ : ClassId) (a : Nat → Nat) (sz : Nat) (u : pg_St) (x y1 z : Int32) (hthr : pg_t_close (!pg_eq (u.1 3) (-1)) x y1 z = 0) : Met l yX4_close wsX4_close ({ frames := 1, cells := 0, slots := 0, locals := 22 }) (va_Pc [.ref (a 0), .int x, .int y1, .int z] (pg_B D (pg_ty cI cZ) (pg_wB cI cZ a u) sz)) (va_Qi (fun r u' => r = pg_fin u x y1 z ∧ u' = pg_close u x y1 z) (pg_E D (pg_ty cI cZ) (va_A (pg_wB cI cZ a u) sz) (pg_wB cI cZ a)) (va_A (pg_wB cI cZ a u) sz)) 0 0 (va_A (pg_wB cI cZ a u) sz) := by
  refine Met.ofW (cc := cX4_close) (maxL := 4) (ret := (some .int)) (by decide) rfl ?_
  intro p e s m args below meth c s₁ B hml hv
  obtain ⟨rfl, hsz, hP, hK, hD0⟩ := hv
  have hx := B.exec
  have hb := B.bytes
  have hr := B.returns
  have hts := atoms_spec (ws := wsX4_close) B.pre
  have hown : s.vm.findClass RX4 = some m.cls := findClass_of_methodNamed B.named
  have hlocks := B.notSynchronized
  subst hsz
  have hD := hD0.self (sz := s.heap.size)
  generalize hAe : va_A (pg_wB cI cZ a u) s.heap.size = A at hD ⊢
  have hA : ∀ q : Nat, s.heap.size ≤ q → A q := fun q h => by rw [← hAe]; exact Or.inr h
  have hS : va_S A s.heap s.heap [] := va_S.rf
  have hl := lv_entry ([.ref (a 0), .int x, .int y1, .int z]) (n := 4) (Nat.le_of_ble_eq_true rfl)
  rw [lg_entry_eq]
  generalize (lg_sl ([.ref (a 0), .int x, .int y1, .int z]) ++ List.replicate (4 - (lg_sl ([.ref (a 0), .int x, .int y1, .int z])).length) Slot.unset).toArray = ls at hl ⊢
  have hl : lv_has ls 4 [(0, .ref (a 0)), (1, .int x), (2, .int y1), (3, .int z)] := hl
  have hiX4 : ∀ w ∈ wsX40, w ∈ wsX4_close := fun _ h => List.mem_cons_of_mem _ (List.mem_append_left _ (List.mem_append_left _ (List.mem_append_left _ (List.mem_append_right _ (h)))))
  have hw1 := hts (.constant RX4 44 (10000000)) (List.mem_of_getElem? (i := 1) rfl)
  have hw2 := hts (.constant RX4 49 (-10000000)) (List.mem_of_getElem? (i := 2) rfl)
  have hw3 := hts (.fieldLink RX4 37 "PegBox" "day" "I") (List.mem_of_getElem? (i := 3) rfl)
  have hw4 := hts (.fieldLink RX4 53 "PegBox" "price" "I") (List.mem_of_getElem? (i := 4) rfl)
  have hw5 := hts (.fieldLink RX4 56 "PegBox" "peg" "I") (List.mem_of_getElem? (i := 5) rfl)
  have hw6 := hts (.methodLink RX4 102 Lib.Math.max.name) (List.mem_of_getElem? (i := 6) rfl)
  have hw7 := hts (.static Lib.Math.max.name) (List.mem_of_getElem? (i := 7) rfl)
  have hw8 := hts (.initialized "java/lang/Math") (List.mem_of_getElem? (i := 8) rfl)
  have hw9 := hts (.code Lib.Math.max.name Lib.Math.max.code 2 (some .int)) (List.mem_of_getElem? (i := 9) rfl)
  have hw10 := hts (.fieldLink RX4 41 "PegBox" "finalPrice" "I") (List.mem_of_getElem? (i := 10) rfl)
  have hw11 := hts (.fieldLink RX4 10 "PegBox" "escrow" "LPegBox$Escrow;") (List.mem_of_getElem? (i := 11) rfl)
  have hw12 := hts (.methodLink RX4 112 Lib.Math.min.name) (List.mem_of_getElem? (i := 12) rfl)
  have hw13 := hts (.static Lib.Math.min.name) (List.mem_of_getElem? (i := 13) rfl)
  have hw14 := hts (.code Lib.Math.min.name Lib.Math.min.code 2 (some .int)) (List.mem_of_getElem? (i := 14) rfl)
  have hw15 := hts (.fieldLink RX4 115 "PegBox" "held" "I") (List.mem_of_getElem? (i := 15) rfl)
  have hw16 := hts (.fieldLink RX4 118 "PegBox" "paid" "I") (List.mem_of_getElem? (i := 16) rfl)
  refine lv_iload_n hx hb dX4_close_0 rfl (lv_at hl 1 rfl) ?_
  refine lv_iconst (v := 0) hx hb dX4_close_1 (by decide) ?_
  refine lv_ldc hx hb hown hw1 dX4_close_2 ?_
  rcases Bool.eq_false_or_eq_true (pg_in x 0 10000000) with c_4 | c_4
  · refine pg_vU (pg_rS (As := [.int x, .int 0, .int 10000000]) (rest := []) ⟨hx, hb, hml, hown, hts⟩ (cc_rng_ok l D (pg_ty cI cZ) (pg_wB cI cZ a u) s.heap.size x 0 10000000 c_4) (va_cwS 3 hts gX4_close_X4_checkRange rfl rfl rfl (by decide +kernel) ⟨Nat.le_of_ble_eq_true rfl, Nat.le_of_ble_eq_true rfl⟩) hK hP hD rfl hl.1 rfl (Nat.le_of_ble_eq_true rfl) dX4_close_4 ⟨Nat.le_of_ble_eq_true rfl, Nat.le_of_ble_eq_true rfl⟩) hD hS hA (fun H locs hP hD hS => ?_)
    refine lv_iload_n hx hb dX4_close_7 rfl (lv_at hl 2 rfl) ?_
    refine lv_iconst (v := 0) hx hb dX4_close_8 (by decide) ?_
    refine lv_ldc hx hb hown hw1 dX4_close_9 ?_
    rcases Bool.eq_false_or_eq_true (pg_in y1 0 10000000) with c_11 | c_11
    · refine pg_vU (pg_rS (As := [.int y1, .int 0, .int 10000000]) (rest := []) ⟨hx, hb, hml, hown, hts⟩ (cc_rng_ok l D (pg_ty cI cZ) (pg_wB cI cZ a u) H.size y1 0 10000000 c_11) (va_cwS 3 hts gX4_close_X4_checkRange rfl rfl rfl (by decide +kernel) ⟨Nat.le_of_ble_eq_true rfl, Nat.le_of_ble_eq_true rfl⟩) hK hP hD rfl hl.1 rfl (Nat.le_of_ble_eq_true rfl) dX4_close_11 ⟨Nat.le_of_ble_eq_true rfl, Nat.le_of_ble_eq_true rfl⟩) hD hS hA (fun H locs hP hD hS => ?_)
      refine lv_iload_n hx hb dX4_close_14 rfl (lv_at hl 3 rfl) ?_
      refine lv_ldc hx hb hown hw2 dX4_close_15 ?_
      refine lv_ldc hx hb hown hw1 dX4_close_17 ?_
      rcases Bool.eq_false_or_eq_true (pg_in z (-10000000) 10000000) with c_19 | c_19
      · refine pg_vU (pg_rS (As := [.int z, .int (-10000000), .int 10000000]) (rest := []) ⟨hx, hb, hml, hown, hts⟩ (cc_rng_ok l D (pg_ty cI cZ) (pg_wB cI cZ a u) H.size z (-10000000) 10000000 c_19) (va_cwS 3 hts gX4_close_X4_checkRange rfl rfl rfl (by decide +kernel) ⟨Nat.le_of_ble_eq_true rfl, Nat.le_of_ble_eq_true rfl⟩) hK hP hD rfl hl.1 rfl (Nat.le_of_ble_eq_true rfl) dX4_close_19 ⟨Nat.le_of_ble_eq_true rfl, Nat.le_of_ble_eq_true rfl⟩) hD hS hA (fun H locs hP hD hS => ?_)
        refine lv_aload_n hx hb dX4_close_22 rfl (lv_at hl 0 rfl) ?_
        rcases Bool.eq_false_or_eq_true (pg_eq (u.1 3) (-1)) with c_23 | c_23
        · refine pg_vE (pg_rV (As := []) (rest := []) ⟨hx, hb, hml, hown, hts⟩ (cc_ncl_ok l D cI cZ a H.size u c_23) (cwV 0 hts gX4_close_X4_checkNotClosed rfl rfl rfl (by decide +kernel) ⟨Nat.le_of_ble_eq_true rfl, Nat.le_of_ble_eq_true rfl⟩) hK hP hD 0 (ci := 4) rfl rfl rfl rfl hl.1 rfl (Nat.le_of_ble_eq_true rfl) dX4_close_23 ⟨Nat.le_of_ble_eq_true rfl, Nat.le_of_ble_eq_true rfl⟩) hD hS hA (fun H locs hP hD hS => ?_)
          refine lv_aload_n hx hb dX4_close_26 rfl (lv_at hl 0 rfl) ?_
          refine lv_iconst (v := 0) hx hb dX4_close_27 (by decide) ?_
          refine va_put (D := D) (ci := 4) (v := .int 0) (ty := .int) (C := RX4) (T := TX4) (N := 14) hx hb hts hiX4 tyX4 tyX4_ok nmX4 hown hK hP hD hS 0 rfl rfl 7 (by decide) hw3 (fun _ h9 => h9) rfl (by decide +kernel) rfl rfl (Nat.le_of_ble_eq_true rfl) dX4_close_28 (fun H locs hP hD hS => ?_)
          have hP : va_P D vwCl (pg_wB cI cZ a ((upd u.1 3 0), u.2)) H := hP
          have hD : va_D A (pg_wB cI cZ a ((upd u.1 3 0), u.2)) := hD
          refine lv_aload_n hx hb dX4_close_31 rfl (lv_at hl 0 rfl) ?_
          refine lv_iconst (v := 0) hx hb dX4_close_32 (by decide) ?_
          refine lv_aload_n hx hb dX4_close_33 rfl (lv_at hl 0 rfl) ?_
          refine va_get (D := D) (ci := 4) (v := .int (u.1 0)) (C := RX4) (T := TX4) (N := 14) hx hb hts hiX4 hown hK hP 0 rfl rfl 4 (by decide) hw4 (fun _ h9 => h9) rfl dX4_close_34 ?_
          refine lv_iload_n hx hb dX4_close_37 rfl (lv_at hl 1 rfl) ?_
          refine lv_iadd hx hb dX4_close_38 ?_
          refine lv_iload_n hx hb dX4_close_39 rfl (lv_at hl 2 rfl) ?_
          refine lv_isub hx hb dX4_close_40 ?_
          refine lv_aload_n hx hb dX4_close_41 rfl (lv_at hl 0 rfl) ?_
          refine lv_iload_n hx hb dX4_close_42 rfl (lv_at hl 3 rfl) ?_
          refine lv_aload_n hx hb dX4_close_43 rfl (lv_at hl 0 rfl) ?_
          refine va_get (D := D) (ci := 4) (v := .int (u.1 1)) (C := RX4) (T := TX4) (N := 14) hx hb hts hiX4 hown hK hP 0 rfl rfl 5 (by decide) hw5 (fun _ h9 => h9) rfl dX4_close_44 ?_
          refine lv_isub hx hb dX4_close_47 ?_
          refine pg_iE (pg_rV (As := [.int (z - (u.1 1))]) (rest := [.int (((u.1 0) + x) - y1), .int 0, .ref (a 0)]) ⟨hx, hb, hml, hown, hts⟩ (cc_col l D cI cZ a H.size ((upd u.1 3 0), u.2) (z - u.1 1)) (cwV 1 hts gX4_close_X4_beyondCollar rfl rfl rfl (by decide +kernel) ⟨Nat.le_of_ble_eq_true rfl, Nat.le_of_ble_eq_true rfl⟩) hK hP hD 0 (ci := 4) rfl rfl rfl rfl hl.1 rfl (Nat.le_of_ble_eq_true rfl) dX4_close_48 ⟨Nat.le_of_ble_eq_true rfl, Nat.le_of_ble_eq_true rfl⟩) hD hS hA (fun H locs hP hD hS => ?_)
          refine lv_topi (fun f0 ef0 => ?_)
          refine lv_iadd hx hb dX4_close_51 ?_
          refine va_mmax hx hb (by rw [hml]; exact hl.1.symm) hown hw6 hw7 hw8 hw9 (Nat.le_of_ble_eq_true rfl) (Nat.le_of_ble_eq_true rfl) (Nat.le_of_ble_eq_true rfl) (Nat.le_of_ble_eq_true rfl) dX4_close_52 ?_
          refine W.eq (g2 := F0 m 55 ls [.int (pg_max 0 ((((u.1 0) + x) - y1) + f0)), .ref (a 0)]) rfl ?_
          refine lv_topi (fun f1 ef1 => ?_)
          refine va_put (D := D) (ci := 4) (v := .int f1) (ty := .int) (C := RX4) (T := TX4) (N := 14) hx hb hts hiX4 tyX4 tyX4_ok nmX4 hown hK hP hD hS 0 rfl rfl 8 (by decide) hw10 (fun _ h9 => h9) rfl (by decide +kernel) rfl rfl (Nat.le_of_ble_eq_true rfl) dX4_close_55 (fun H locs hP hD hS => ?_)
          have hP : va_P D vwCl (pg_wB cI cZ a ((upd (upd u.1 3 0) 4 f1), u.2)) H := hP
          have hD : va_D A (pg_wB cI cZ a ((upd (upd u.1 3 0) 4 f1), u.2)) := hD
          refine lv_aload_n hx hb dX4_close_58 rfl (lv_at hl 0 rfl) ?_
          refine lv_aload_n hx hb dX4_close_59 rfl (lv_at hl 0 rfl) ?_
          refine va_get (D := D) (ci := 4) (v := .ref (a 1)) (C := RX4) (T := TX4) (N := 14) hx hb hts hiX4 hown hK hP 0 rfl rfl 0 (by decide) hw11 (fun _ h9 => h9) rfl dX4_close_60 ?_
          refine pg_iE (pg_rV (As := []) (rest := [.ref (a 0)]) ⟨hx, hb, hml, hown, hts⟩ (cc_total l D cI cZ a H.size ((upd (upd u.1 3 0) 4 f1), u.2) ) (cwV 0 hts gX4_close_X2_total rfl rfl rfl (by decide +kernel) ⟨Nat.le_of_ble_eq_true rfl, Nat.le_of_ble_eq_true rfl⟩) hK hP hD 1 (ci := 2) rfl rfl rfl rfl hl.1 rfl (Nat.le_of_ble_eq_true rfl) dX4_close_63 ⟨Nat.le_of_ble_eq_true rfl, Nat.le_of_ble_eq_true rfl⟩) hD hS hA (fun H locs hP hD hS => ?_)
          refine lv_aload_n hx hb dX4_close_66 rfl (lv_at hl 0 rfl) ?_
          refine va_get (D := D) (ci := 4) (v := .int f1) (C := RX4) (T := TX4) (N := 14) hx hb hts hiX4 hown hK hP 0 rfl rfl 8 (by decide) hw10 (fun _ h9 => h9) rfl dX4_close_67 ?_
          refine va_mmin hx hb (by rw [hml]; exact hl.1.symm) hown hw12 hw13 hw8 hw14 (Nat.le_of_ble_eq_true rfl) (Nat.le_of_ble_eq_true rfl) (Nat.le_of_ble_eq_true rfl) (Nat.le_of_ble_eq_true rfl) dX4_close_70 ?_
          refine W.eq (g2 := F0 m 73 ls [.int (pg_min (pg_sm (u.2 0) 4) f1), .ref (a 0)]) rfl ?_
          refine lv_topi (fun f2 ef2 => ?_)
          refine va_put (D := D) (ci := 4) (v := .int f2) (ty := .int) (C := RX4) (T := TX4) (N := 14) hx hb hts hiX4 tyX4 tyX4_ok nmX4 hown hK hP hD hS 0 rfl rfl 9 (by decide) hw15 (fun _ h9 => h9) rfl (by decide +kernel) rfl rfl (Nat.le_of_ble_eq_true rfl) dX4_close_73 (fun H locs hP hD hS => ?_)
          have hP : va_P D vwCl (pg_wB cI cZ a ((upd (upd (upd u.1 3 0) 4 f1) 5 f2), u.2)) H := hP
          have hD : va_D A (pg_wB cI cZ a ((upd (upd (upd u.1 3 0) 4 f1) 5 f2), u.2)) := hD
          refine lv_aload_n hx hb dX4_close_76 rfl (lv_at hl 0 rfl) ?_
          refine lv_aload_n hx hb dX4_close_77 rfl (lv_at hl 0 rfl) ?_
          refine va_get (D := D) (ci := 4) (v := .int f1) (C := RX4) (T := TX4) (N := 14) hx hb hts hiX4 hown hK hP 0 rfl rfl 8 (by decide) hw10 (fun _ h9 => h9) rfl dX4_close_78 ?_
          refine lv_aload_n hx hb dX4_close_81 rfl (lv_at hl 0 rfl) ?_
          refine va_get (D := D) (ci := 4) (v := .int f2) (C := RX4) (T := TX4) (N := 14) hx hb hts hiX4 hown hK hP 0 rfl rfl 9 (by decide) hw15 (fun _ h9 => h9) rfl dX4_close_82 ?_
          refine lv_isub hx hb dX4_close_85 ?_
          refine va_put (D := D) (ci := 4) (v := .int (f1 - f2)) (ty := .int) (C := RX4) (T := TX4) (N := 14) hx hb hts hiX4 tyX4 tyX4_ok nmX4 hown hK hP hD hS 0 rfl rfl 10 (by decide) hw16 (fun _ h9 => h9) rfl (by decide +kernel) rfl rfl (Nat.le_of_ble_eq_true rfl) dX4_close_86 (fun H locs hP hD hS => ?_)
          have hP : va_P D vwCl (pg_wB cI cZ a ((upd (upd (upd (upd u.1 3 0) 4 f1) 5 f2) 6 (f1 - f2)), u.2)) H := hP
          have hD : va_D A (pg_wB cI cZ a ((upd (upd (upd (upd u.1 3 0) 4 f1) 5 f2) 6 (f1 - f2)), u.2)) := hD
          refine lv_aload_n hx hb dX4_close_89 rfl (lv_at hl 0 rfl) ?_
          refine va_get (D := D) (ci := 4) (v := .int f1) (C := RX4) (T := TX4) (N := 14) hx hb hts hiX4 hown hK hP 0 rfl rfl 8 (by decide) hw10 (fun _ h9 => h9) rfl dX4_close_90 ?_
          have e1 : f1 = pg_fin u x y1 z := by rw [ef1, ef0]; rfl
          have e2 : f2 = pg_hold u x y1 z := by rw [ef2, e1]; rfl
          exact W.iret (v := f1) hx hb hr (fun t9 ht9 hW9 => ⟨⟨f1, ((upd (upd (upd (upd u.1 3 0) 4 f1) 5 f2) 6 (f1 - f2)), u.2), rfl, ⟨e1, by rw [pg_close, ← e1, ← e2]⟩, by rw [ht9]; exact hP, va_K.moved hW9.alike hK, hD⟩, hS.F ht9⟩) hS.2.2 dX4_close_93
        · exact absurd hthr (by first | (simp only [pg_t_close, c_4, c_11, c_19, c_23, cond_true, cond_false, Bool.not_true, Bool.not_false]; done) | (simp only [pg_t_close, c_4, c_11, c_19, c_23, cond_true, cond_false, Bool.not_true, Bool.not_false]; decide))
      · exact absurd hthr (by first | (simp only [pg_t_close, c_4, c_11, c_19, cond_true, cond_false, Bool.not_true, Bool.not_false]; done) | (simp only [pg_t_close, c_4, c_11, c_19, cond_true, cond_false, Bool.not_true, Bool.not_false]; decide))
    · exact absurd hthr (by first | (simp only [pg_t_close, c_4, c_11, cond_true, cond_false, Bool.not_true, Bool.not_false]; done) | (simp only [pg_t_close, c_4, c_11, cond_true, cond_false, Bool.not_true, Bool.not_false]; decide))
  · exact absurd hthr (by first | (simp only [pg_t_close, c_4, cond_true, cond_false, Bool.not_true, Bool.not_false]; done) | (simp only [pg_t_close, c_4, cond_true, cond_false, Bool.not_true, Bool.not_false]; decide))
end
section
theorem pg_toI_lt (a b : Int32) : a < b ↔ a.toInt < b.toInt := Int32.lt_iff_toInt_lt
theorem pg_toI_le (a b : Int32) : a ≤ b ↔ a.toInt ≤ b.toInt := Int32.le_iff_toInt_le
theorem pg_in_iff (x lo hi : Int32) : pg_in x lo hi = true ↔ lo.toInt ≤ x.toInt ∧ x.toInt ≤ hi.toInt := by
  simp only [pg_in, Bool.and_eq_true, Bool.not_eq_true', decide_eq_false_iff_not, decide_eq_true_eq, pg_toI_lt, pg_toI_le]
  omega
theorem pg_nb_iff (x n : Int32) : pg_nb x n = true ↔ 0 ≤ x.toInt ∧ x.toInt < n.toInt := by
  simp only [pg_nb, Bool.and_eq_true, Bool.not_eq_true', decide_eq_false_iff_not, decide_eq_true_eq, pg_toI_lt]
  have h0 : (0 : Int32).toInt = 0 := by decide
  omega
theorem pg_bool {a b : Bool} (h : a = true ↔ b = true) : a = b := by cases a <;> cases b <;> simp_all
theorem pg_nb4 (x : Int32) : pg_nb x 4 = pg_in x 0 3 := pg_bool (by
  rw [pg_nb_iff, pg_in_iff, show (4 : Int32).toInt = 4 by decide, show (3 : Int32).toInt = 3 by decide, show (0 : Int32).toInt = 0 by decide]; omega)
theorem pg_nb3 (x : Int32) : pg_nb x 3 = pg_in x 0 2 := pg_bool (by
  rw [pg_nb_iff, pg_in_iff, show (3 : Int32).toInt = 3 by decide, show (2 : Int32).toInt = 2 by decide, show (0 : Int32).toInt = 0 by decide]; omega)
theorem pg_clm (x : Int32) {n : Nat} (h : n ≤ 20) : pg_nb x (nI n) = pg_in x 0 (nI n - 1) := pg_bool (by
  have e1 : (nI n).toInt = (n : Int) := nI_toInt (by omega)
  have e2 : (nI n - 1).toInt = (n : Int) - 1 := by
    have := pk_sub_toInt (a := n) (b := 1) (by omega) (by omega)
    rw [show (1 : Int32) = nI 1 from rfl, this]; rfl
  rw [pg_nb_iff, pg_in_iff, e1, e2, show (0 : Int32).toInt = 0 by decide]; omega)
theorem pg_eq20 {n : Nat} (h : n ≤ 20) : pg_le 20 (nI n) = pg_eq (nI n) 20 := pg_bool (by
  simp only [pg_le, pg_eq, decide_eq_true_eq]
  rw [show (20 : Int32) = nI 20 from rfl, nI_leI (by decide) (by omega), nI_eq (by omega) (by decide)]; omega)
theorem pg_eq4 {n : Nat} (h : n ≤ 4) : pg_le 4 (nI n) = pg_eq (nI n) 4 := pg_bool (by
  simp only [pg_le, pg_eq, decide_eq_true_eq]
  rw [show (4 : Int32) = nI 4 from rfl, nI_leI (by decide) (by omega), nI_eq (by omega) (by decide)]; omega)
theorem pg_antisymm {x y : Int32} (h1 : x ≤ y) (h2 : y ≤ x) : x = y := Int32.le_antisymm h1 h2
/-- the smaller, by the other comparison -/
theorem pg_min_m (x y : Int32) : (if y ≤ x then y else x) = pg_min x y := by
  unfold pg_min
  by_cases h : y < x
  · rw [if_pos h, if_pos (Int32.le_of_lt h)]
  · rw [if_neg h]
    by_cases g : y ≤ x
    · rw [if_pos g]; exact pg_antisymm g (Int32.not_lt.mp h)
    · rw [if_neg g]
theorem pg_max_m (x : Int32) : (if 0 ≤ x then x else 0) = pg_max 0 x := by
  unfold pg_max
  by_cases h : 0 < x
  · rw [if_pos h, if_pos (Int32.le_of_lt h)]
  · rw [if_neg h]
    by_cases g : 0 ≤ x
    · rw [if_pos g]; exact pg_antisymm (Int32.not_lt.mp h) g
    · rw [if_neg g]
theorem pg_0a (x : Int32) : 0 + x = x := Int32.zero_add x
theorem pg_all_m (r : Nat → Nat → Int32) (n : Nat) : pg_due r n 0 + pg_due r n 1 + pg_due r n 2 = pg_all r n := by
  show _ = 0 + pg_due r n 0 + pg_due r n 1 + pg_due r n 2
  rw [pg_0a]
theorem pg_kept_s (u : pg_St) (d : Int32) (i : Nat) : pg_after u.2 d + pg_open u.2 i + (if u.2 10 i = -1 then u.2 8 i else 0) = pg_after u.2 d + pg_open u.2 (i + 1) := Int32.add_assoc _ _ _
theorem pg_owe_m (u : pg_St) (n : Nat) (x : Int32) : (upd (upd (upd u.1 8 (u.1 8 + pg_min x (pg_out u n))) 6 (u.1 6 + (x - pg_min x (pg_out u n)))) 9 (u.1 9 + x), u.2) = pg_owe u n x := by
  unfold pg_owe
  congr 1
  funext k
  simp only [upd]
  by_cases h6 : k = 6
  · subst h6; rfl
  · by_cases h8 : k = 8
    · subst h8; rfl
    · rw [if_neg h6, if_neg h8, if_neg h6, if_neg h8]
/-- days that pass, one by one -/
def pg_adv (u : pg_St) (n : Nat) : Nat → pg_St
  | 0 => u
  | i + 1 => pg_free (upd u.1 3 (u.1 3 + nI (i + 1)), u.2) n (u.1 3 + nI (i + 1))
theorem pg_free_r (u : pg_St) (n : Nat) (d : Int32) : (pg_free u n d).2 = u.2 := by
  by_cases h : u.1 5 ≤ pg_kept u n d
  · rw [pg_free, if_pos h]
  · rw [pg_free, if_neg h]
theorem pg_free_o (u : pg_St) (n : Nat) (d : Int32) {k : Nat} (h5 : k ≠ 5) (h6 : k ≠ 6) : (pg_free u n d).1 k = u.1 k := by
  by_cases h : u.1 5 ≤ pg_kept u n d
  · rw [pg_free, if_pos h]
  · rw [pg_free, if_neg h]; simp only [upd]; rw [if_neg h5, if_neg h6]
theorem pg_adv_r (u : pg_St) (n i : Nat) : (pg_adv u n i).2 = u.2 := by
  cases i with
  | zero => rfl
  | succ i => exact pg_free_r _ _ _
theorem pg_adv_3 (u : pg_St) (n i : Nat) : (pg_adv u n i).1 3 = u.1 3 + nI i := by
  cases i with
  | zero => rw [nI_0, pg_a0]; rfl
  | succ i => rw [pg_adv, pg_free_o _ _ _ (by decide) (by decide)]; rfl
theorem pg_adv_10 (u : pg_St) (n i : Nat) : (pg_adv u n i).1 10 = u.1 10 := by
  cases i with
  | zero => rfl
  | succ i => rw [pg_adv, pg_free_o _ _ _ (by decide) (by decide)]; rfl
theorem pg_upd_upd (f : Nat → Int32) (k : Nat) (x y : Int32) : upd (upd f k x) k y = upd f k y := by
  funext j
  by_cases h : j = k <;> simp [upd, h]
theorem pg_upd_swap (f : Nat → Int32) {k j : Nat} (h : k ≠ j) (x y : Int32) : upd (upd f k x) j y = upd (upd f j y) k x := by
  funext i
  simp only [upd]
  by_cases h1 : i = j
  · by_cases h2 : i = k
    · exact absurd (h2.symm.trans h1) h
    · rw [if_pos h1, if_neg h2, if_pos h1]
  · rw [if_neg h1, if_neg h1]
theorem pg_tele (p h a b : Int32) : p + (h - a) + (a - b) = p + (h - b) := by
  rw [Int32.add_assoc]
  congr 1
  rw [Int32.sub_eq_add_neg, Int32.sub_eq_add_neg, Int32.sub_eq_add_neg, Int32.add_assoc, ← Int32.add_assoc (-a) a, Int32.add_left_neg, Int32.zero_add]
/-- a day later frees the same as if it had come at once -/
theorem pg_free_2 {u : pg_St} {n : Nat} {d e : Int32} (hk : pg_kept u n e ≤ pg_kept u n d) : pg_free (upd (pg_free (upd u.1 3 d, u.2) n d).1 3 e, u.2) n e = pg_free (upd u.1 3 e, u.2) n e := by
  by_cases h : u.1 5 ≤ pg_kept u n d
  · rw [show pg_free (upd u.1 3 d, u.2) n d = (upd u.1 3 d, u.2) from if_pos h]
    show pg_free (upd (upd u.1 3 d) 3 e, u.2) n e = _
    rw [pg_upd_upd]
  · rw [show pg_free (upd u.1 3 d, u.2) n d = (upd (upd (upd u.1 3 d) 6 (u.1 6 + (u.1 5 - pg_kept u n d))) 5 (pg_kept u n d), u.2) from if_neg h]
    show pg_free (upd (upd (upd (upd u.1 3 d) 6 (u.1 6 + (u.1 5 - pg_kept u n d))) 5 (pg_kept u n d)) 3 e, u.2) n e = _
    have hne : ¬ u.1 5 ≤ pg_kept u n e := fun q => h (Int32.le_trans q hk)
    rw [show pg_free (upd u.1 3 e, u.2) n e = (upd (upd (upd u.1 3 e) 6 (u.1 6 + (u.1 5 - pg_kept u n e))) 5 (pg_kept u n e), u.2) from if_neg hne]
    by_cases g : pg_kept u n d ≤ pg_kept u n e
    · rw [show pg_free (upd (upd (upd (upd u.1 3 d) 6 (u.1 6 + (u.1 5 - pg_kept u n d))) 5 (pg_kept u n d)) 3 e, u.2) n e = (upd (upd (upd (upd u.1 3 d) 6 (u.1 6 + (u.1 5 - pg_kept u n d))) 5 (pg_kept u n d)) 3 e, u.2) from if_pos g]
      have e1 : pg_kept u n d = pg_kept u n e := pg_antisymm g hk
      rw [e1, pg_upd_swap _ (show 5 ≠ 3 by decide), pg_upd_swap _ (show 6 ≠ 3 by decide), pg_upd_upd]
    · rw [show pg_free (upd (upd (upd (upd u.1 3 d) 6 (u.1 6 + (u.1 5 - pg_kept u n d))) 5 (pg_kept u n d)) 3 e, u.2) n e = (upd (upd (upd (upd (upd (upd u.1 3 d) 6 (u.1 6 + (u.1 5 - pg_kept u n d))) 5 (pg_kept u n d)) 3 e) 6 (u.1 6 + (u.1 5 - pg_kept u n d) + (pg_kept u n d - pg_kept u n e))) 5 (pg_kept u n e), u.2) from if_neg g]
      rw [pg_tele]
      rw [pg_upd_swap _ (show 5 ≠ 3 by decide), pg_upd_swap _ (show 5 ≠ 6 by decide), pg_upd_upd, pg_upd_swap _ (show 6 ≠ 3 by decide), pg_upd_upd, pg_upd_upd]
theorem pg_adv_s {u : pg_St} {n i : Nat} (hk : pg_kept u n (u.1 3 + nI (i + 1)) ≤ pg_kept u n (u.1 3 + nI i)) : pg_free (upd (pg_adv u n i).1 3 (u.1 3 + nI (i + 1)), u.2) n (u.1 3 + nI (i + 1)) = pg_adv u n (i + 1) := by
  cases i with
  | zero => rfl
  | succ i => exact pg_free_2 hk
end
section
theorem pg_mem_r {big ws : List Cond} (ps : List Nat) (hp : ws = ps.filterMap (fun i => big[i]?)) : ∀ w ∈ ws, w ∈ big := by
  intro w hw
  rw [hp] at hw
  obtain ⟨i, -, hi⟩ := List.mem_filterMap.mp hw
  exact List.mem_of_getElem? hi
set_option maxRecDepth 100000 in
theorem wsL_law0_r1_in : ∀ w ∈ wsL_law0_r1, w ∈ lw_tbl := pg_mem_r [25, 26, 13, 427, 504, 416, 48, 410, 505, 27, 28, 29, 30, 31, 32, 33, 34, 14, 141, 49, 50, 15, 142, 77] rfl
set_option maxRecDepth 100000 in
theorem wsL_law0_r2_in : ∀ w ∈ wsL_law0_r2, w ∈ lw_tbl := pg_mem_r [78, 16, 143, 104, 105, 17, 144, 148, 149, 35, 36, 37, 38, 39, 41, 51, 52, 53, 54, 55, 57, 76, 59, 61] rfl
set_option maxRecDepth 100000 in
theorem wsL_law0_r3_in : ∀ w ∈ wsL_law0_r3, w ∈ lw_tbl := pg_mem_r [63, 79, 80, 81, 82, 83, 85, 87, 89, 106, 107, 108, 109, 110, 112, 114, 376, 377, 378, 379, 380, 381, 382, 383] rfl
set_option maxRecDepth 100000 in
theorem wsL_law0_r4_in : ∀ w ∈ wsL_law0_r4, w ∈ lw_tbl := pg_mem_r [405, 406, 12, 407, 408, 409, 411, 421, 426, 400, 401, 402, 403, 404, 412, 413, 414, 415, 188, 260, 145, 146, 147, 189] rfl
set_option maxRecDepth 100000 in
theorem wsL_law0_r5_in : ∀ w ∈ wsL_law0_r5, w ∈ lw_tbl := pg_mem_r [190, 191, 192, 21, 261, 263, 1, 264, 265, 22, 417, 418, 419, 420, 40, 42, 299, 300, 301, 302, 23, 422, 423, 424] rfl
set_option maxRecDepth 100000 in
theorem wsL_law0_r6_in : ∀ w ∈ wsL_law0_r6, w ∈ lw_tbl := pg_mem_r [425, 111, 113, 428, 429, 430, 431, 432, 56, 58, 60, 62, 64, 433, 434, 435, 436, 117, 184, 185, 186, 187, 285, 286] rfl
set_option maxRecDepth 100000 in
theorem wsL_law0_r7_in : ∀ w ∈ wsL_law0_r7, w ∈ lw_tbl := pg_mem_r [24, 287, 292, 293, 294, 150, 151, 281, 283, 2, 284, 288, 289, 290, 291, 489, 490, 491, 492, 493, 494, 495, 440, 441] rfl
set_option maxRecDepth 100000 in
theorem wsL_law0_r8_in : ∀ w ∈ wsL_law0_r8, w ∈ lw_tbl := pg_mem_r [442, 443, 444, 445, 446, 447, 152, 496, 497, 498, 499, 153, 384, 385, 386, 387, 154, 485, 486, 487, 488, 343, 345, 6] rfl
set_option maxRecDepth 100000 in
theorem wsL_law0_r9_in : ∀ w ∈ wsL_law0_r9, w ∈ lw_tbl := pg_mem_r [346, 347, 349, 7, 350, 351, 353, 8, 354, 355, 356, 357, 358, 91, 359, 360, 361, 362, 367, 363, 365, 9, 366, 473] rfl
set_option maxRecDepth 100000 in
theorem wsL_law0_r10_in : ∀ w ∈ wsL_law0_r10, w ∈ lw_tbl := pg_mem_r [474, 475, 476, 500, 501, 502, 503, 388, 389, 390, 391, 92, 295, 296, 297, 298, 84, 86, 88, 90, 318, 320, 3, 321] rfl
set_option maxRecDepth 100000 in
theorem wsL_law0_r11_in : ∀ w ∈ wsL_law0_r11, w ∈ lw_tbl := pg_mem_r [392, 393, 394, 395, 325, 326, 327, 328, 119, 121, 331, 332, 333, 334, 120, 122, 123, 116, 335, 337, 4, 338, 339, 341] rfl
set_option maxRecDepth 100000 in
theorem wsL_law0_r12_in : ∀ w ∈ wsL_law0_r12, w ∈ lw_tbl := pg_mem_r [5, 342, 368, 369, 370, 371, 372, 373, 374, 375, 118, 396, 397, 398, 399, 115, 437, 438, 439, 448, 449, 450, 451, 453] rfl
set_option maxRecDepth 100000 in
theorem wsL_law0_r13_in : ∀ w ∈ wsL_law0_r13, w ∈ lw_tbl := pg_mem_r [455, 10, 456, 457, 458, 459, 460, 461, 462, 463, 464, 465, 466, 467, 468, 469, 470, 471, 477, 478, 479, 480, 481, 483] rfl
set_option maxRecDepth 100000 in
theorem wsL_law0_r14_in : ∀ w ∈ wsL_law0_r14, w ∈ lw_tbl := pg_mem_r [11, 484] rfl
set_option maxRecDepth 100000 in
theorem wsL_law_x0 : ∀ w ∈ (vx_atS RX4 208 "java/lang/IllegalArgumentException" ["java/lang/RuntimeException", "java/lang/Exception"]).filter goodWord, w ∈ lw_tbl := pg_mem_r [18, 214, 223, 227, 230, 232, 215, 216, 31, 32, 217, 222, 228, 248, 204, 249, 206, 250, 208, 218, 220, 210, 244, 245, 247, 210, 235, 236, 237, 238, 238, 239, 240, 241, 241, 242, 243, 244, 234, 193, 201, 202, 203, 205, 207, 209, 213, 212, 211] (by decide +kernel)
set_option maxRecDepth 100000 in
theorem wsL_law_x1 : ∀ w ∈ (vx_atS RX4 128 "java/lang/IllegalStateException" ["java/lang/RuntimeException", "java/lang/Exception"]).filter goodWord, w ∈ lw_tbl := pg_mem_r [18, 214, 223, 227, 230, 232, 215, 216, 31, 32, 217, 222, 228, 248, 204, 249, 206, 250, 208, 218, 220, 210, 244, 245, 247, 210, 276, 277, 278, 238, 238, 239, 240, 241, 241, 242, 243, 244, 275, 266, 268, 225, 269, 270, 271, 272, 213, 212, 273] (by decide +kernel)
set_option maxRecDepth 100000 in
theorem wsL_law_x2 : ∀ w ∈ (vx_atS RX4 203 "java/lang/IndexOutOfBoundsException" ["java/lang/RuntimeException", "java/lang/Exception"]).filter goodWord, w ∈ lw_tbl := pg_mem_r [18, 214, 223, 227, 230, 232, 215, 216, 31, 32, 217, 222, 228, 248, 204, 249, 206, 250, 208, 218, 220, 210, 244, 245, 247, 210, 313, 314, 315, 238, 238, 239, 240, 241, 241, 242, 243, 244, 312, 303, 305, 226, 306, 307, 308, 309, 213, 212, 310] (by decide +kernel)
set_option maxRecDepth 100000 in
theorem wsX00_in : ∀ w ∈ wsX00, w ∈ lw_tbl := pg_mem_r [93, 95, 97, 99, 101] (by decide +kernel)
set_option maxRecDepth 100000 in
theorem wsX10_in : ∀ w ∈ wsX10, w ∈ lw_tbl := pg_mem_r [124, 126, 128, 130, 132, 134, 136, 138] (by decide +kernel)
set_option maxRecDepth 100000 in
theorem wsX20_in : ∀ w ∈ wsX20, w ∈ lw_tbl := pg_mem_r [43, 45] (by decide +kernel)
set_option maxRecDepth 100000 in
theorem wsX30_in : ∀ w ∈ wsX30, w ∈ lw_tbl := pg_mem_r [65, 67, 69, 71, 73] (by decide +kernel)
set_option maxRecDepth 100000 in
theorem wsX40_in : ∀ w ∈ wsX40, w ∈ lw_tbl := pg_mem_r [155, 157, 159, 161, 163, 165, 167, 169, 171, 173, 175, 177, 179, 181] (by decide +kernel)
theorem wsL_law_r_in : ∀ w ∈ wsL_law0_r1 ++ (wsL_law0_r2 ++ (wsL_law0_r3 ++ (wsL_law0_r4 ++ (wsL_law0_r5 ++ (wsL_law0_r6 ++ (wsL_law0_r7 ++ (wsL_law0_r8 ++ (wsL_law0_r9 ++ (wsL_law0_r10 ++ (wsL_law0_r11 ++ (wsL_law0_r12 ++ (wsL_law0_r13 ++ wsL_law0_r14)))))))))))), w ∈ lw_tbl := fun w h => (List.mem_append.mp h).elim (fun h => wsL_law0_r1_in w h) (fun h => (List.mem_append.mp h).elim (fun h => wsL_law0_r2_in w h) (fun h => (List.mem_append.mp h).elim (fun h => wsL_law0_r3_in w h) (fun h => (List.mem_append.mp h).elim (fun h => wsL_law0_r4_in w h) (fun h => (List.mem_append.mp h).elim (fun h => wsL_law0_r5_in w h) (fun h => (List.mem_append.mp h).elim (fun h => wsL_law0_r6_in w h) (fun h => (List.mem_append.mp h).elim (fun h => wsL_law0_r7_in w h) (fun h => (List.mem_append.mp h).elim (fun h => wsL_law0_r8_in w h) (fun h => (List.mem_append.mp h).elim (fun h => wsL_law0_r9_in w h) (fun h => (List.mem_append.mp h).elim (fun h => wsL_law0_r10_in w h) (fun h => (List.mem_append.mp h).elim (fun h => wsL_law0_r11_in w h) (fun h => (List.mem_append.mp h).elim (fun h => wsL_law0_r12_in w h) (fun h => (List.mem_append.mp h).elim (fun h => wsL_law0_r13_in w h) (fun h => wsL_law0_r14_in w h)))))))))))))
theorem wsL_law_in0 : ∀ w ∈ wsL_law0, w ∈ lw_tbl := fun w h => (List.mem_append.mp h).elim (fun h => (List.mem_append.mp h).elim (fun h => (List.mem_append.mp h).elim (fun h => (List.mem_append.mp h).elim (fun h => (List.mem_append.mp h).elim (fun h => (List.mem_append.mp h).elim (fun h => wsL_law_r_in w h) (fun h => wsX40_in w h)) (fun h => wsX20_in w h)) (fun h => wsX30_in w h)) (fun h => wsX00_in w h)) (fun h => wsX10_in w h)) (fun h => absurd h List.not_mem_nil)
theorem wsL_law_in : ∀ w ∈ wsL_law, w ∈ lw_tbl := fun w h => (List.mem_append.mp h).elim (fun h => (List.mem_append.mp h).elim (fun h => (List.mem_append.mp h).elim (fun h => wsL_law_in0 w h) (fun h => wsL_law_x0 w h)) (fun h => wsL_law_x1 w h)) (fun h => wsL_law_x2 w h)
theorem inlX0 : ∀ w ∈ wsX00, w ∈ wsL_law := fun _ h => List.mem_append_left _ (List.mem_append_left _ (List.mem_append_left _ (List.mem_append_left _ (List.mem_append_left _ (List.mem_append_right _ h)))))
theorem inX0 : ∀ w ∈ wsX00, w ∈ lw_tbl := fun w h => wsL_law_in w (inlX0 w h)
theorem inlX1 : ∀ w ∈ wsX10, w ∈ wsL_law := fun _ h => List.mem_append_left _ (List.mem_append_left _ (List.mem_append_left _ (List.mem_append_left _ (List.mem_append_right _ h))))
theorem inX1 : ∀ w ∈ wsX10, w ∈ lw_tbl := fun w h => wsL_law_in w (inlX1 w h)
theorem inlX2 : ∀ w ∈ wsX20, w ∈ wsL_law := fun _ h => List.mem_append_left _ (List.mem_append_left _ (List.mem_append_left _ (List.mem_append_left _ (List.mem_append_left _ (List.mem_append_left _ (List.mem_append_left _ (List.mem_append_right _ h)))))))
theorem inX2 : ∀ w ∈ wsX20, w ∈ lw_tbl := fun w h => wsL_law_in w (inlX2 w h)
theorem inlX3 : ∀ w ∈ wsX30, w ∈ wsL_law := fun _ h => List.mem_append_left _ (List.mem_append_left _ (List.mem_append_left _ (List.mem_append_left _ (List.mem_append_left _ (List.mem_append_left _ (List.mem_append_right _ h))))))
theorem inX3 : ∀ w ∈ wsX30, w ∈ lw_tbl := fun w h => wsL_law_in w (inlX3 w h)
theorem inlX4 : ∀ w ∈ wsX40, w ∈ wsL_law := fun _ h => List.mem_append_left _ (List.mem_append_left _ (List.mem_append_left _ (List.mem_append_left _ (List.mem_append_left _ (List.mem_append_left _ (List.mem_append_left _ (List.mem_append_left _ (List.mem_append_right _ h))))))))
theorem inX4 : ∀ w ∈ wsX40, w ∈ lw_tbl := fun w h => wsL_law_in w (inlX4 w h)
theorem inJ9 : ∀ w ∈ wsJ90, w ∈ lw_tbl := by decide +kernel
theorem inJ0 : ∀ w ∈ wsJ00, w ∈ lw_tbl := by decide +kernel
end
section
theorem dL_told_0 : decode cL_told 0 = .ok (.iload_n 1, 1) := by decide +kernel
theorem dL_told_1 : decode cL_told 1 = .ok (.aload_n 0, 1) := by decide +kernel
theorem dL_told_2 : decode cL_told 2 = .ok (.arraylength, 1) := by decide +kernel
theorem dL_told_3 : decode cL_told 3 = .ok (.if_icmp .ge 9, 3) := by decide +kernel
theorem dL_told_6 : decode cL_told 6 = .ok (.aload_n 0, 1) := by decide +kernel
theorem dL_told_7 : decode cL_told 7 = .ok (.iload_n 1, 1) := by decide +kernel
theorem dL_told_8 : decode cL_told 8 = .ok (.iaload, 1) := by decide +kernel
theorem dL_told_9 : decode cL_told 9 = .ok (.goto 14, 3) := by decide +kernel
theorem dL_told_12 : decode cL_told 12 = .ok (.ldc 7, 2) := by decide +kernel
theorem dL_told_14 : decode cL_told 14 = .ok (.iload_n 1, 1) := by decide +kernel
theorem dL_told_15 : decode cL_told 15 = .ok (.iconst 5, 1) := by decide +kernel
theorem dL_told_16 : decode cL_told 16 = .ok (.iadd, 1) := by decide +kernel
theorem dL_told_17 : decode cL_told 17 = .ok (.imul, 1) := by decide +kernel
theorem dL_told_18 : decode cL_told 18 = .ok (.iload_n 1, 1) := by decide +kernel
theorem dL_told_19 : decode cL_told 19 = .ok (.bipush 6, 2) := by decide +kernel
theorem dL_told_21 : decode cL_told 21 = .ok (.iadd, 1) := by decide +kernel
theorem dL_told_22 : decode cL_told 22 = .ok (.imul, 1) := by decide +kernel
theorem dL_told_23 : decode cL_told 23 = .ok (.ldc 8, 2) := by decide +kernel
theorem dL_told_25 : decode cL_told 25 = .ok (.iand, 1) := by decide +kernel
theorem dL_told_26 : decode cL_told 26 = .ok (.ireturn, 1) := by decide +kernel
set_option maxRecDepth 20000 in
theorem ggL_terms_L_told : GoodIn wsL_terms wsL_told := goodIn_r _ [12, 13, 14] (by decide +kernel) (by decide +kernel)
set_option maxRecDepth 20000 in
theorem gL_terms_L_told : GoodIn wsL_terms (va_wsS RL 9 yL_told wsL_told) := goodIn_app (goodIn_of _ (by decide +kernel)) ggL_terms_L_told
set_option maxRecDepth 20000 in
theorem ggL_terms_X4_setPrice : GoodIn wsL_terms wsX4_setPrice := goodIn_ca (goodIn_ca (goodIn_r _ [19, 20, 21, 22, 23, 24, 25, 26, 18, 27, 28, 29, 30, 31, 32, 33, 34, 35, 36, 72, 73, 74, 75, 76, 77, 78, 79, 80, 81, 82, 83, 84, 85] (by decide +kernel) (by decide +kernel)) (goodIn_sub (fun _ h => List.mem_cons_of_mem _ (List.mem_append_left _ (List.mem_append_left _ (List.mem_append_right _ h)))) (by decide +kernel))) (goodIn_sub (fun _ h => List.mem_cons_of_mem _ (List.mem_append_left _ (List.mem_append_right _ h))) (by decide +kernel))
set_option maxRecDepth 20000 in
theorem gL_terms_X4_setPrice : GoodIn wsL_terms (wsV RL 19 RX4 yX4_setPrice wsX4_setPrice) := goodIn_app (goodIn_of _ (by decide +kernel)) ggL_terms_X4_setPrice
set_option maxRecDepth 20000 in
theorem ggL_terms_X4_setPart : GoodIn wsL_terms wsX4_setPart := goodIn_ca (goodIn_ca (goodIn_ca (goodIn_r _ [40, 20, 41, 42, 43, 44, 45, 18, 46, 47, 48, 25, 26, 27, 28, 29, 30, 31, 32, 33, 34, 35, 36, 72, 73, 74, 75, 76, 77, 78, 79, 80, 81, 82, 83, 84, 85, 86, 87] (by decide +kernel) (by decide +kernel)) (goodIn_sub (fun _ h => List.mem_cons_of_mem _ (List.mem_append_right _ h)) (by decide +kernel))) (goodIn_sub (fun _ h => List.mem_cons_of_mem _ (List.mem_append_left _ (List.mem_append_left _ (List.mem_append_right _ h)))) (by decide +kernel))) (goodIn_sub (fun _ h => List.mem_cons_of_mem _ (List.mem_append_left _ (List.mem_append_right _ h))) (by decide +kernel))
set_option maxRecDepth 20000 in
theorem gL_terms_X4_setPart : GoodIn wsL_terms (wsV RL 26 RX4 yX4_setPart wsX4_setPart) := goodIn_app (goodIn_of _ (by decide +kernel)) ggL_terms_X4_setPart
set_option maxRecDepth 20000 in
theorem ggL_terms_X4_setYear : GoodIn wsL_terms wsX4_setYear := goodIn_ca (goodIn_ca (goodIn_ca (goodIn_r _ [52, 20, 53, 54, 55, 44, 45, 18, 46, 47, 48, 25, 26, 27, 28, 29, 30, 31, 32, 33, 34, 35, 36, 72, 73, 74, 75, 76, 77, 78, 79, 80, 81, 82, 83, 84, 85, 88, 89, 90, 91, 92, 93, 94, 95] (by decide +kernel) (by decide +kernel)) (goodIn_sub (fun _ h => List.mem_cons_of_mem _ (List.mem_append_right _ h)) (by decide +kernel))) (goodIn_sub (fun _ h => List.mem_cons_of_mem _ (List.mem_append_left _ (List.mem_append_left _ (List.mem_append_right _ h)))) (by decide +kernel))) (goodIn_sub (fun _ h => List.mem_cons_of_mem _ (List.mem_append_left _ (List.mem_append_right _ h))) (by decide +kernel))
set_option maxRecDepth 20000 in
theorem gL_terms_X4_setYear : GoodIn wsL_terms (wsV RL 30 RX4 yX4_setYear wsX4_setYear) := goodIn_app (goodIn_of _ (by decide +kernel)) ggL_terms_X4_setYear
set_option maxRecDepth 20000 in
theorem ggL_terms_X4_setKind : GoodIn wsL_terms wsX4_setKind := goodIn_ca (goodIn_ca (goodIn_ca (goodIn_r _ [59, 20, 60, 61, 62, 63, 64, 65, 66, 44, 45, 18, 46, 47, 48, 25, 26, 27, 28, 29, 30, 31, 32, 33, 34, 35, 36, 72, 73, 74, 75, 76, 77, 78, 79, 80, 81, 82, 83, 84, 85, 96, 97, 98, 99, 100] (by decide +kernel) (by decide +kernel)) (goodIn_sub (fun _ h => List.mem_cons_of_mem _ (List.mem_append_right _ h)) (by decide +kernel))) (goodIn_sub (fun _ h => List.mem_cons_of_mem _ (List.mem_append_left _ (List.mem_append_left _ (List.mem_append_right _ h)))) (by decide +kernel))) (goodIn_sub (fun _ h => List.mem_cons_of_mem _ (List.mem_append_left _ (List.mem_append_right _ h))) (by decide +kernel))
set_option maxRecDepth 20000 in
theorem gL_terms_X4_setKind : GoodIn wsL_terms (wsV RL 35 RX4 yX4_setKind wsX4_setKind) := goodIn_app (goodIn_of _ (by decide +kernel)) ggL_terms_X4_setKind
set_option maxRecDepth 20000 in
theorem ggL_terms_X4_setCarry : GoodIn wsL_terms wsX4_setCarry := goodIn_ca (goodIn_r _ [70, 53, 71, 30, 31, 32, 18, 33, 34, 35, 36, 72, 73, 74, 75, 76, 77, 78, 79, 80, 81, 82, 83, 84, 85, 88, 89, 90, 91, 92, 93, 94, 95] (by decide +kernel) (by decide +kernel)) (goodIn_sub (fun _ h => List.mem_cons_of_mem _ (List.mem_append_left _ (List.mem_append_right _ h))) (by decide +kernel))
set_option maxRecDepth 20000 in
theorem gL_terms_X4_setCarry : GoodIn wsL_terms (wsV RL 39 RX4 yX4_setCarry wsX4_setCarry) := goodIn_app (goodIn_of _ (by decide +kernel)) ggL_terms_X4_setCarry
theorem dL_terms_0 : decode cL_terms 0 = .ok (.aload_n 0, 1) := by decide +kernel
theorem dL_terms_1 : decode cL_terms 1 = .ok (.aload_n 1, 1) := by decide +kernel
theorem dL_terms_2 : decode cL_terms 2 = .ok (.iconst 0, 1) := by decide +kernel
theorem dL_terms_3 : decode cL_terms 3 = .ok (.invokestatic 9, 3) := by decide +kernel
theorem dL_terms_6 : decode cL_terms 6 = .ok (.ldc 15, 2) := by decide +kernel
theorem dL_terms_8 : decode cL_terms 8 = .ok (.irem, 1) := by decide +kernel
theorem dL_terms_9 : decode cL_terms 9 = .ok (.aload_n 1, 1) := by decide +kernel
theorem dL_terms_10 : decode cL_terms 10 = .ok (.iconst 1, 1) := by decide +kernel
theorem dL_terms_11 : decode cL_terms 11 = .ok (.invokestatic 9, 3) := by decide +kernel
theorem dL_terms_14 : decode cL_terms 14 = .ok (.ldc 16, 2) := by decide +kernel
theorem dL_terms_16 : decode cL_terms 16 = .ok (.irem, 1) := by decide +kernel
theorem dL_terms_17 : decode cL_terms 17 = .ok (.ldc 17, 2) := by decide +kernel
theorem dL_terms_19 : decode cL_terms 19 = .ok (.isub, 1) := by decide +kernel
theorem dL_terms_20 : decode cL_terms 20 = .ok (.aload_n 1, 1) := by decide +kernel
theorem dL_terms_21 : decode cL_terms 21 = .ok (.iconst 2, 1) := by decide +kernel
theorem dL_terms_22 : decode cL_terms 22 = .ok (.invokestatic 9, 3) := by decide +kernel
theorem dL_terms_25 : decode cL_terms 25 = .ok (.ldc 18, 2) := by decide +kernel
theorem dL_terms_27 : decode cL_terms 27 = .ok (.irem, 1) := by decide +kernel
theorem dL_terms_28 : decode cL_terms 28 = .ok (.invokevirtual 19, 3) := by decide +kernel
theorem dL_terms_31 : decode cL_terms 31 = .ok (.iconst 0, 1) := by decide +kernel
theorem dL_terms_32 : decode cL_terms 32 = .ok (.istore_n 2, 1) := by decide +kernel
theorem dL_terms_33 : decode cL_terms 33 = .ok (.iload_n 2, 1) := by decide +kernel
theorem dL_terms_34 : decode cL_terms 34 = .ok (.iconst 4, 1) := by decide +kernel
theorem dL_terms_35 : decode cL_terms 35 = .ok (.if_icmp .ge 74, 3) := by decide +kernel
theorem dL_terms_38 : decode cL_terms 38 = .ok (.aload_n 0, 1) := by decide +kernel
theorem dL_terms_39 : decode cL_terms 39 = .ok (.iload_n 2, 1) := by decide +kernel
theorem dL_terms_40 : decode cL_terms 40 = .ok (.aload_n 1, 1) := by decide +kernel
theorem dL_terms_41 : decode cL_terms 41 = .ok (.iload_n 2, 1) := by decide +kernel
theorem dL_terms_42 : decode cL_terms 42 = .ok (.iconst 3, 1) := by decide +kernel
theorem dL_terms_43 : decode cL_terms 43 = .ok (.iadd, 1) := by decide +kernel
theorem dL_terms_44 : decode cL_terms 44 = .ok (.invokestatic 9, 3) := by decide +kernel
theorem dL_terms_47 : decode cL_terms 47 = .ok (.ldc 25, 2) := by decide +kernel
theorem dL_terms_49 : decode cL_terms 49 = .ok (.irem, 1) := by decide +kernel
theorem dL_terms_50 : decode cL_terms 50 = .ok (.iconst 1, 1) := by decide +kernel
theorem dL_terms_51 : decode cL_terms 51 = .ok (.aload_n 1, 1) := by decide +kernel
theorem dL_terms_52 : decode cL_terms 52 = .ok (.iload_n 2, 1) := by decide +kernel
theorem dL_terms_53 : decode cL_terms 53 = .ok (.iconst 3, 1) := by decide +kernel
theorem dL_terms_54 : decode cL_terms 54 = .ok (.iadd, 1) := by decide +kernel
theorem dL_terms_55 : decode cL_terms 55 = .ok (.invokestatic 9, 3) := by decide +kernel
theorem dL_terms_58 : decode cL_terms 58 = .ok (.ldc 25, 2) := by decide +kernel
theorem dL_terms_60 : decode cL_terms 60 = .ok (.idiv, 1) := by decide +kernel
theorem dL_terms_61 : decode cL_terms 61 = .ok (.sipush 900, 3) := by decide +kernel
theorem dL_terms_64 : decode cL_terms 64 = .ok (.irem, 1) := by decide +kernel
theorem dL_terms_65 : decode cL_terms 65 = .ok (.iadd, 1) := by decide +kernel
theorem dL_terms_66 : decode cL_terms 66 = .ok (.invokevirtual 26, 3) := by decide +kernel
theorem dL_terms_69 : decode cL_terms 69 = .ok (.aload_n 0, 1) := by decide +kernel
theorem dL_terms_70 : decode cL_terms 70 = .ok (.iload_n 2, 1) := by decide +kernel
theorem dL_terms_71 : decode cL_terms 71 = .ok (.aload_n 1, 1) := by decide +kernel
theorem dL_terms_72 : decode cL_terms 72 = .ok (.iload_n 2, 1) := by decide +kernel
theorem dL_terms_73 : decode cL_terms 73 = .ok (.bipush 7, 2) := by decide +kernel
theorem dL_terms_75 : decode cL_terms 75 = .ok (.iadd, 1) := by decide +kernel
theorem dL_terms_76 : decode cL_terms 76 = .ok (.invokestatic 9, 3) := by decide +kernel
theorem dL_terms_79 : decode cL_terms 79 = .ok (.ldc 29, 2) := by decide +kernel
theorem dL_terms_81 : decode cL_terms 81 = .ok (.irem, 1) := by decide +kernel
theorem dL_terms_82 : decode cL_terms 82 = .ok (.aload_n 1, 1) := by decide +kernel
theorem dL_terms_83 : decode cL_terms 83 = .ok (.iload_n 2, 1) := by decide +kernel
theorem dL_terms_84 : decode cL_terms 84 = .ok (.bipush 7, 2) := by decide +kernel
theorem dL_terms_86 : decode cL_terms 86 = .ok (.iadd, 1) := by decide +kernel
theorem dL_terms_87 : decode cL_terms 87 = .ok (.invokestatic 9, 3) := by decide +kernel
theorem dL_terms_90 : decode cL_terms 90 = .ok (.ldc 29, 2) := by decide +kernel
theorem dL_terms_92 : decode cL_terms 92 = .ok (.idiv, 1) := by decide +kernel
theorem dL_terms_93 : decode cL_terms 93 = .ok (.sipush 20000, 3) := by decide +kernel
theorem dL_terms_96 : decode cL_terms 96 = .ok (.irem, 1) := by decide +kernel
theorem dL_terms_97 : decode cL_terms 97 = .ok (.bipush 10, 2) := by decide +kernel
theorem dL_terms_99 : decode cL_terms 99 = .ok (.imul, 1) := by decide +kernel
theorem dL_terms_100 : decode cL_terms 100 = .ok (.invokevirtual 30, 3) := by decide +kernel
theorem dL_terms_103 : decode cL_terms 103 = .ok (.iinc 2 1, 3) := by decide +kernel
theorem dL_terms_106 : decode cL_terms 106 = .ok (.goto (-73), 3) := by decide +kernel
theorem dL_terms_109 : decode cL_terms 109 = .ok (.iconst 0, 1) := by decide +kernel
theorem dL_terms_110 : decode cL_terms 110 = .ok (.istore_n 2, 1) := by decide +kernel
theorem dL_terms_111 : decode cL_terms 111 = .ok (.iload_n 2, 1) := by decide +kernel
theorem dL_terms_112 : decode cL_terms 112 = .ok (.iconst 3, 1) := by decide +kernel
theorem dL_terms_113 : decode cL_terms 113 = .ok (.if_icmp .ge 62, 3) := by decide +kernel
theorem dL_terms_116 : decode cL_terms 116 = .ok (.aload_n 1, 1) := by decide +kernel
theorem dL_terms_117 : decode cL_terms 117 = .ok (.iload_n 2, 1) := by decide +kernel
theorem dL_terms_118 : decode cL_terms 118 = .ok (.bipush 11, 2) := by decide +kernel
theorem dL_terms_120 : decode cL_terms 120 = .ok (.iadd, 1) := by decide +kernel
theorem dL_terms_121 : decode cL_terms 121 = .ok (.invokestatic 9, 3) := by decide +kernel
theorem dL_terms_124 : decode cL_terms 124 = .ok (.istore_n 3, 1) := by decide +kernel
theorem dL_terms_125 : decode cL_terms 125 = .ok (.aload_n 0, 1) := by decide +kernel
theorem dL_terms_126 : decode cL_terms 126 = .ok (.iload_n 2, 1) := by decide +kernel
theorem dL_terms_127 : decode cL_terms 127 = .ok (.iload_n 3, 1) := by decide +kernel
theorem dL_terms_128 : decode cL_terms 128 = .ok (.sipush 3000, 3) := by decide +kernel
theorem dL_terms_131 : decode cL_terms 131 = .ok (.irem, 1) := by decide +kernel
theorem dL_terms_132 : decode cL_terms 132 = .ok (.iload_n 3, 1) := by decide +kernel
theorem dL_terms_133 : decode cL_terms 133 = .ok (.sipush 3000, 3) := by decide +kernel
theorem dL_terms_136 : decode cL_terms 136 = .ok (.idiv, 1) := by decide +kernel
theorem dL_terms_137 : decode cL_terms 137 = .ok (.ldc 33, 2) := by decide +kernel
theorem dL_terms_139 : decode cL_terms 139 = .ok (.irem, 1) := by decide +kernel
theorem dL_terms_140 : decode cL_terms 140 = .ok (.iload_n 3, 1) := by decide +kernel
theorem dL_terms_141 : decode cL_terms 141 = .ok (.iconst 2, 1) := by decide +kernel
theorem dL_terms_142 : decode cL_terms 142 = .ok (.irem, 1) := by decide +kernel
theorem dL_terms_143 : decode cL_terms 143 = .ok (.ifCond .ne 7, 3) := by decide +kernel
theorem dL_terms_146 : decode cL_terms 146 = .ok (.iconst 1, 1) := by decide +kernel
theorem dL_terms_147 : decode cL_terms 147 = .ok (.goto 4, 3) := by decide +kernel
theorem dL_terms_150 : decode cL_terms 150 = .ok (.iconst 0, 1) := by decide +kernel
theorem dL_terms_151 : decode cL_terms 151 = .ok (.iload_n 3, 1) := by decide +kernel
theorem dL_terms_152 : decode cL_terms 152 = .ok (.bipush 11, 2) := by decide +kernel
theorem dL_terms_154 : decode cL_terms 154 = .ok (.idiv, 1) := by decide +kernel
theorem dL_terms_155 : decode cL_terms 155 = .ok (.ldc 34, 2) := by decide +kernel
theorem dL_terms_157 : decode cL_terms 157 = .ok (.irem, 1) := by decide +kernel
theorem dL_terms_158 : decode cL_terms 158 = .ok (.iload_n 3, 1) := by decide +kernel
theorem dL_terms_159 : decode cL_terms 159 = .ok (.bipush 77, 2) := by decide +kernel
theorem dL_terms_161 : decode cL_terms 161 = .ok (.idiv, 1) := by decide +kernel
theorem dL_terms_162 : decode cL_terms 162 = .ok (.sipush 1500, 3) := by decide +kernel
theorem dL_terms_165 : decode cL_terms 165 = .ok (.irem, 1) := by decide +kernel
theorem dL_terms_166 : decode cL_terms 166 = .ok (.invokevirtual 35, 3) := by decide +kernel
theorem dL_terms_169 : decode cL_terms 169 = .ok (.iinc 2 1, 3) := by decide +kernel
theorem dL_terms_172 : decode cL_terms 172 = .ok (.goto (-61), 3) := by decide +kernel
theorem dL_terms_175 : decode cL_terms 175 = .ok (.aload_n 0, 1) := by decide +kernel
theorem dL_terms_176 : decode cL_terms 176 = .ok (.aload_n 1, 1) := by decide +kernel
theorem dL_terms_177 : decode cL_terms 177 = .ok (.bipush 14, 2) := by decide +kernel
theorem dL_terms_179 : decode cL_terms 179 = .ok (.invokestatic 9, 3) := by decide +kernel
theorem dL_terms_182 : decode cL_terms 182 = .ok (.iconst 3, 1) := by decide +kernel
theorem dL_terms_183 : decode cL_terms 183 = .ok (.irem, 1) := by decide +kernel
theorem dL_terms_184 : decode cL_terms 184 = .ok (.ifCond .le 7, 3) := by decide +kernel
theorem dL_terms_187 : decode cL_terms 187 = .ok (.iconst 1, 1) := by decide +kernel
theorem dL_terms_188 : decode cL_terms 188 = .ok (.goto 4, 3) := by decide +kernel
theorem dL_terms_191 : decode cL_terms 191 = .ok (.iconst 0, 1) := by decide +kernel
theorem dL_terms_192 : decode cL_terms 192 = .ok (.invokevirtual 39, 3) := by decide +kernel
theorem dL_terms_195 : decode cL_terms 195 = .ok (.return_, 1) := by decide +kernel
set_option maxRecDepth 20000 in
theorem ggL_does_X4_claims : GoodIn wsL_does wsX4_claims := goodIn_r _ [5, 6, 7, 131, 132, 133, 134, 135, 136, 137, 138, 139, 140, 141, 142, 143, 144, 145, 146, 147, 148, 149] (by decide +kernel) (by decide +kernel)
set_option maxRecDepth 20000 in
theorem gL_does_X4_claims : GoodIn wsL_does (wsV RL 43 RX4 yX4_claims wsX4_claims) := goodIn_app (goodIn_of _ (by decide +kernel)) ggL_does_X4_claims
set_option maxRecDepth 20000 in
theorem ggL_does_X4_settledAt : GoodIn wsL_does wsX4_settledAt := goodIn_ca (goodIn_r _ [11, 6, 7, 12, 13, 14, 4, 15, 16, 17, 131, 132, 133, 134, 135, 136, 137, 138, 139, 140, 141, 142, 143, 144, 145, 146, 147, 148, 149] (by decide +kernel) (by decide +kernel)) (goodIn_sub (fun _ h => List.mem_cons_of_mem _ (List.mem_append_left _ (List.mem_append_left _ (List.mem_append_right _ h)))) (by decide +kernel))
set_option maxRecDepth 20000 in
theorem gL_does_X4_settledAt : GoodIn wsL_does (wsV RL 47 RX4 yX4_settledAt wsX4_settledAt) := goodIn_app (goodIn_of _ (by decide +kernel)) ggL_does_X4_settledAt
set_option maxRecDepth 20000 in
theorem ggL_does_X4_held : GoodIn wsL_does wsX4_held := goodIn_r _ [21, 22, 131, 132, 133, 134, 135, 136, 137, 138, 139, 140, 141, 142, 143, 144] (by decide +kernel) (by decide +kernel)
set_option maxRecDepth 20000 in
theorem gL_does_X4_held : GoodIn wsL_does (wsV RL 51 RX4 yX4_held wsX4_held) := goodIn_app (goodIn_of _ (by decide +kernel)) ggL_does_X4_held
set_option maxRecDepth 20000 in
theorem ggL_does_X4_returned : GoodIn wsL_does wsX4_returned := goodIn_r _ [26, 27, 131, 132, 133, 134, 135, 136, 137, 138, 139, 140, 141, 142, 143, 144] (by decide +kernel) (by decide +kernel)
set_option maxRecDepth 20000 in
theorem gL_does_X4_returned : GoodIn wsL_does (wsV RL 54 RX4 yX4_returned wsX4_returned) := goodIn_app (goodIn_of _ (by decide +kernel)) ggL_does_X4_returned
set_option maxRecDepth 20000 in
theorem ggL_does_X4_day : GoodIn wsL_does wsX4_day := goodIn_r _ [31, 32, 131, 132, 133, 134, 135, 136, 137, 138, 139, 140, 141, 142, 143, 144] (by decide +kernel) (by decide +kernel)
set_option maxRecDepth 20000 in
theorem gL_does_X4_day : GoodIn wsL_does (wsV RL 57 RX4 yX4_day wsX4_day) := goodIn_app (goodIn_of _ (by decide +kernel)) ggL_does_X4_day
set_option maxRecDepth 20000 in
theorem ggL_does_X4_advance : GoodIn wsL_does wsX4_advance := goodIn_ca (goodIn_ca (goodIn_r _ [36, 37, 38, 32, 39, 40, 4, 41, 42, 43, 44, 45, 46, 47, 48, 49, 50, 51, 52, 6, 22, 53, 54, 55, 56, 57, 58, 59, 60, 61, 62, 63, 64, 65, 66, 67, 68, 131, 132, 133, 134, 135, 136, 137, 138, 139, 140, 141, 142, 143, 144, 150, 151, 145, 146, 147, 148, 149] (by decide +kernel) (by decide +kernel)) (goodIn_sub (fun _ h => List.mem_cons_of_mem _ (List.mem_append_left _ (List.mem_append_right _ h))) (by decide +kernel))) (goodIn_sub (fun _ h => List.mem_cons_of_mem _ (List.mem_append_right _ h)) (by decide +kernel))
set_option maxRecDepth 20000 in
theorem gL_does_X4_advance : GoodIn wsL_does (wsV RL 60 RX4 yX4_advance wsX4_advance) := goodIn_app (goodIn_of _ (by decide +kernel)) ggL_does_X4_advance
set_option maxRecDepth 20000 in
theorem ggL_does_X4_offer : GoodIn wsL_does wsX4_offer := goodIn_ca (goodIn_ca (goodIn_ca (goodIn_r _ [72, 6, 7, 12, 73, 74, 13, 14, 4, 15, 16, 17, 75, 76, 77, 37, 38, 39, 40, 41, 42, 43, 131, 132, 133, 134, 135, 136, 137, 138, 139, 140, 141, 142, 143, 144, 145, 146, 147, 148, 149] (by decide +kernel) (by decide +kernel)) (goodIn_sub (fun _ h => List.mem_cons_of_mem _ (List.mem_append_left _ (List.mem_append_left _ (List.mem_append_right _ h)))) (by decide +kernel))) (goodIn_sub (fun _ h => List.mem_cons_of_mem _ (List.mem_append_left _ (List.mem_append_right _ h))) (by decide +kernel))) (goodIn_sub (fun _ h => List.mem_cons_of_mem _ (List.mem_append_right _ h)) (by decide +kernel))
set_option maxRecDepth 20000 in
theorem gL_does_X4_offer : GoodIn wsL_does (wsV RL 63 RX4 yX4_offer wsX4_offer) := goodIn_app (goodIn_of _ (by decide +kernel)) ggL_does_X4_offer
set_option maxRecDepth 20000 in
theorem ggL_does_X4_due : GoodIn wsL_does wsX4_due := goodIn_r _ [81, 82, 83, 84, 4, 85, 86, 87, 88, 89, 90, 6, 91, 92, 93, 94, 64, 95, 66, 96, 67, 97, 98, 99, 100, 101, 102, 103, 104, 105, 106, 107, 108, 109, 110, 111, 112, 131, 132, 133, 134, 135, 136, 137, 138, 139, 140, 141, 142, 143, 144, 152, 153, 154, 155, 156, 145, 146, 147, 148, 149] (by decide +kernel) (by decide +kernel)
set_option maxRecDepth 20000 in
theorem gL_does_X4_due : GoodIn wsL_does (wsV RL 67 RX4 yX4_due wsX4_due) := goodIn_app (goodIn_of _ (by decide +kernel)) ggL_does_X4_due
set_option maxRecDepth 20000 in
theorem ggL_does_X4_decide : GoodIn wsL_does wsX4_decide := goodIn_ca (goodIn_ca (goodIn_ca (goodIn_r _ [116, 6, 7, 12, 74, 73, 13, 14, 4, 15, 16, 17, 75, 76, 77, 37, 38, 39, 40, 41, 42, 43, 117, 118, 119, 120, 22, 121, 104, 105, 106, 27, 122, 123, 124, 125, 126, 82, 83, 84, 85, 86, 87, 88, 89, 90, 91, 92, 93, 94, 64, 95, 66, 96, 67, 97, 98, 99, 100, 101, 102, 103, 107, 108, 109, 110, 111, 112, 48, 49, 50, 51, 52, 32, 53, 54, 55, 56, 57, 58, 59, 60, 61, 62, 63, 65, 68, 131, 132, 133, 134, 135, 136, 137, 138, 139, 140, 141, 142, 143, 144, 145, 146, 147, 148, 149, 152, 153, 154, 155, 156, 150, 151] (by decide +kernel) (by decide +kernel)) (goodIn_sub (fun _ h => List.mem_cons_of_mem _ (List.mem_append_left _ (List.mem_append_left _ (List.mem_append_right _ h)))) (by decide +kernel))) (goodIn_sub (fun _ h => List.mem_cons_of_mem _ (List.mem_append_left _ (List.mem_append_right _ h))) (by decide +kernel))) (goodIn_sub (fun _ h => List.mem_cons_of_mem _ (List.mem_append_right _ h)) (by decide +kernel))
set_option maxRecDepth 20000 in
theorem gL_does_X4_decide : GoodIn wsL_does (wsV RL 70 RX4 yX4_decide wsX4_decide) := goodIn_app (goodIn_of _ (by decide +kernel)) ggL_does_X4_decide
set_option maxRecDepth 20000 in
theorem ggL_does_X4_outstanding : GoodIn wsL_does wsX4_outstanding := goodIn_r _ [130, 122, 123, 124, 4, 125, 27, 126, 82, 83, 84, 85, 86, 87, 88, 89, 90, 6, 91, 92, 93, 94, 64, 95, 66, 96, 67, 97, 98, 99, 100, 101, 102, 103, 104, 105, 106, 107, 108, 109, 110, 111, 112, 131, 132, 133, 134, 135, 136, 137, 138, 139, 140, 141, 142, 143, 144, 152, 153, 154, 155, 156, 145, 146, 147, 148, 149] (by decide +kernel) (by decide +kernel)
set_option maxRecDepth 20000 in
theorem gL_does_X4_outstanding : GoodIn wsL_does (wsV RL 73 RX4 yX4_outstanding wsX4_outstanding) := goodIn_app (goodIn_of _ (by decide +kernel)) ggL_does_X4_outstanding
theorem dL_does_0 : decode cL_does 0 = .ok (.aload_n 0, 1) := by decide +kernel
theorem dL_does_1 : decode cL_does 1 = .ok (.invokevirtual 43, 3) := by decide +kernel
theorem dL_does_4 : decode cL_does 4 = .ok (.istore 4, 2) := by decide +kernel
theorem dL_does_6 : decode cL_does 6 = .ok (.iload 4, 2) := by decide +kernel
theorem dL_does_8 : decode cL_does 8 = .ok (.ifCond .ne 7, 3) := by decide +kernel
theorem dL_does_11 : decode cL_does 11 = .ok (.iconst (-1), 1) := by decide +kernel
theorem dL_does_12 : decode cL_does 12 = .ok (.goto 7, 3) := by decide +kernel
theorem dL_does_15 : decode cL_does 15 = .ok (.iload_n 2, 1) := by decide +kernel
theorem dL_does_16 : decode cL_does 16 = .ok (.iload 4, 2) := by decide +kernel
theorem dL_does_18 : decode cL_does 18 = .ok (.irem, 1) := by decide +kernel
theorem dL_does_19 : decode cL_does 19 = .ok (.istore 5, 2) := by decide +kernel
theorem dL_does_21 : decode cL_does 21 = .ok (.iload 5, 2) := by decide +kernel
theorem dL_does_23 : decode cL_does 23 = .ok (.ifCond .lt 17, 3) := by decide +kernel
theorem dL_does_26 : decode cL_does 26 = .ok (.aload_n 0, 1) := by decide +kernel
theorem dL_does_27 : decode cL_does 27 = .ok (.iload 5, 2) := by decide +kernel
theorem dL_does_29 : decode cL_does 29 = .ok (.invokevirtual 47, 3) := by decide +kernel
theorem dL_does_32 : decode cL_does 32 = .ok (.iconst (-1), 1) := by decide +kernel
theorem dL_does_33 : decode cL_does 33 = .ok (.if_icmp .ne 7, 3) := by decide +kernel
theorem dL_does_36 : decode cL_does 36 = .ok (.iconst 1, 1) := by decide +kernel
theorem dL_does_37 : decode cL_does 37 = .ok (.goto 4, 3) := by decide +kernel
theorem dL_does_40 : decode cL_does 40 = .ok (.iconst 0, 1) := by decide +kernel
theorem dL_does_41 : decode cL_does 41 = .ok (.istore 6, 2) := by decide +kernel
theorem dL_does_43 : decode cL_does 43 = .ok (.aload_n 0, 1) := by decide +kernel
theorem dL_does_44 : decode cL_does 44 = .ok (.invokevirtual 51, 3) := by decide +kernel
theorem dL_does_47 : decode cL_does 47 = .ok (.istore 7, 2) := by decide +kernel
theorem dL_does_49 : decode cL_does 49 = .ok (.aload_n 0, 1) := by decide +kernel
theorem dL_does_50 : decode cL_does 50 = .ok (.invokevirtual 54, 3) := by decide +kernel
theorem dL_does_53 : decode cL_does 53 = .ok (.istore 8, 2) := by decide +kernel
theorem dL_does_55 : decode cL_does 55 = .ok (.iload_n 1, 1) := by decide +kernel
theorem dL_does_56 : decode cL_does 56 = .ok (.bipush 8, 2) := by decide +kernel
theorem dL_does_58 : decode cL_does 58 = .ok (.irem, 1) := by decide +kernel
theorem dL_does_59 : decode cL_does 59 = .ok (.tableswitch 196 0 4 #[33, 87, 87, 123, 123], 33) := by decide +kernel
theorem dL_does_92 : decode cL_does 92 = .ok (.aload_n 0, 1) := by decide +kernel
theorem dL_does_93 : decode cL_does 93 = .ok (.invokevirtual 57, 3) := by decide +kernel
theorem dL_does_96 : decode cL_does 96 = .ok (.sipush 3500, 3) := by decide +kernel
theorem dL_does_99 : decode cL_does 99 = .ok (.if_icmp .ge 45, 3) := by decide +kernel
theorem dL_does_102 : decode cL_does 102 = .ok (.aload_n 0, 1) := by decide +kernel
theorem dL_does_103 : decode cL_does 103 = .ok (.iconst 1, 1) := by decide +kernel
theorem dL_does_104 : decode cL_does 104 = .ok (.iload_n 2, 1) := by decide +kernel
theorem dL_does_105 : decode cL_does 105 = .ok (.sipush 200, 3) := by decide +kernel
theorem dL_does_108 : decode cL_does 108 = .ok (.irem, 1) := by decide +kernel
theorem dL_does_109 : decode cL_does 109 = .ok (.iadd, 1) := by decide +kernel
theorem dL_does_110 : decode cL_does 110 = .ok (.invokevirtual 60, 3) := by decide +kernel
theorem dL_does_113 : decode cL_does 113 = .ok (.aload_n 0, 1) := by decide +kernel
theorem dL_does_114 : decode cL_does 114 = .ok (.invokevirtual 57, 3) := by decide +kernel
theorem dL_does_117 : decode cL_does 117 = .ok (.if_icmp .ne 25, 3) := by decide +kernel
theorem dL_does_120 : decode cL_does 120 = .ok (.aload_n 0, 1) := by decide +kernel
theorem dL_does_121 : decode cL_does 121 = .ok (.invokevirtual 54, 3) := by decide +kernel
theorem dL_does_124 : decode cL_does 124 = .ok (.iload 8, 2) := by decide +kernel
theorem dL_does_126 : decode cL_does 126 = .ok (.if_icmp .ne 16, 3) := by decide +kernel
theorem dL_does_129 : decode cL_does 129 = .ok (.aload_n 0, 1) := by decide +kernel
theorem dL_does_130 : decode cL_does 130 = .ok (.invokevirtual 51, 3) := by decide +kernel
theorem dL_does_133 : decode cL_does 133 = .ok (.iload 7, 2) := by decide +kernel
theorem dL_does_135 : decode cL_does 135 = .ok (.if_icmp .gt 7, 3) := by decide +kernel
theorem dL_does_138 : decode cL_does 138 = .ok (.iconst 1, 1) := by decide +kernel
theorem dL_does_139 : decode cL_does 139 = .ok (.goto 4, 3) := by decide +kernel
theorem dL_does_142 : decode cL_does 142 = .ok (.iconst 0, 1) := by decide +kernel
theorem dL_does_143 : decode cL_does 143 = .ok (.ireturn, 1) := by decide +kernel
theorem dL_does_144 : decode cL_does 144 = .ok (.iconst 1, 1) := by decide +kernel
theorem dL_does_145 : decode cL_does 145 = .ok (.ireturn, 1) := by decide +kernel
theorem dL_does_146 : decode cL_does 146 = .ok (.iload 6, 2) := by decide +kernel
theorem dL_does_148 : decode cL_does 148 = .ok (.ifCond .eq 32, 3) := by decide +kernel
theorem dL_does_151 : decode cL_does 151 = .ok (.aload_n 0, 1) := by decide +kernel
theorem dL_does_152 : decode cL_does 152 = .ok (.iload 5, 2) := by decide +kernel
theorem dL_does_154 : decode cL_does 154 = .ok (.iconst 0, 1) := by decide +kernel
theorem dL_does_155 : decode cL_does 155 = .ok (.invokevirtual 63, 3) := by decide +kernel
theorem dL_does_158 : decode cL_does 158 = .ok (.iconst (-1), 1) := by decide +kernel
theorem dL_does_159 : decode cL_does 159 = .ok (.if_icmp .lt 17, 3) := by decide +kernel
theorem dL_does_162 : decode cL_does 162 = .ok (.aload_n 0, 1) := by decide +kernel
theorem dL_does_163 : decode cL_does 163 = .ok (.iload 5, 2) := by decide +kernel
theorem dL_does_165 : decode cL_does 165 = .ok (.iconst 0, 1) := by decide +kernel
theorem dL_does_166 : decode cL_does 166 = .ok (.invokevirtual 63, 3) := by decide +kernel
theorem dL_does_169 : decode cL_does 169 = .ok (.ifCond .ne 7, 3) := by decide +kernel
theorem dL_does_172 : decode cL_does 172 = .ok (.iconst 1, 1) := by decide +kernel
theorem dL_does_173 : decode cL_does 173 = .ok (.goto 8, 3) := by decide +kernel
theorem dL_does_176 : decode cL_does 176 = .ok (.iconst 0, 1) := by decide +kernel
theorem dL_does_177 : decode cL_does 177 = .ok (.goto 4, 3) := by decide +kernel
theorem dL_does_180 : decode cL_does 180 = .ok (.iconst 1, 1) := by decide +kernel
theorem dL_does_181 : decode cL_does 181 = .ok (.ireturn, 1) := by decide +kernel
theorem dL_does_182 : decode cL_does 182 = .ok (.iload 6, 2) := by decide +kernel
theorem dL_does_184 : decode cL_does 184 = .ok (.ifCond .eq 69, 3) := by decide +kernel
theorem dL_does_187 : decode cL_does 187 = .ok (.aload_n 0, 1) := by decide +kernel
theorem dL_does_188 : decode cL_does 188 = .ok (.invokevirtual 67, 3) := by decide +kernel
theorem dL_does_191 : decode cL_does 191 = .ok (.istore 9, 2) := by decide +kernel
theorem dL_does_193 : decode cL_does 193 = .ok (.aload_n 0, 1) := by decide +kernel
theorem dL_does_194 : decode cL_does 194 = .ok (.iload 5, 2) := by decide +kernel
theorem dL_does_196 : decode cL_does 196 = .ok (.iload_n 3, 1) := by decide +kernel
theorem dL_does_197 : decode cL_does 197 = .ok (.invokevirtual 70, 3) := by decide +kernel
theorem dL_does_200 : decode cL_does 200 = .ok (.istore 10, 2) := by decide +kernel
theorem dL_does_202 : decode cL_does 202 = .ok (.aload_n 0, 1) := by decide +kernel
theorem dL_does_203 : decode cL_does 203 = .ok (.iload 5, 2) := by decide +kernel
theorem dL_does_205 : decode cL_does 205 = .ok (.invokevirtual 47, 3) := by decide +kernel
theorem dL_does_208 : decode cL_does 208 = .ok (.iload_n 3, 1) := by decide +kernel
theorem dL_does_209 : decode cL_does 209 = .ok (.if_icmp .ne 42, 3) := by decide +kernel
theorem dL_does_212 : decode cL_does 212 = .ok (.iload 10, 2) := by decide +kernel
theorem dL_does_214 : decode cL_does 214 = .ok (.aload_n 0, 1) := by decide +kernel
theorem dL_does_215 : decode cL_does 215 = .ok (.invokevirtual 54, 3) := by decide +kernel
theorem dL_does_218 : decode cL_does 218 = .ok (.iload 8, 2) := by decide +kernel
theorem dL_does_220 : decode cL_does 220 = .ok (.isub, 1) := by decide +kernel
theorem dL_does_221 : decode cL_does 221 = .ok (.if_icmp .ne 30, 3) := by decide +kernel
theorem dL_does_224 : decode cL_does 224 = .ok (.aload_n 0, 1) := by decide +kernel
theorem dL_does_225 : decode cL_does 225 = .ok (.invokevirtual 67, 3) := by decide +kernel
theorem dL_does_228 : decode cL_does 228 = .ok (.iload 9, 2) := by decide +kernel
theorem dL_does_230 : decode cL_does 230 = .ok (.if_icmp .lt 21, 3) := by decide +kernel
theorem dL_does_233 : decode cL_does 233 = .ok (.aload_n 0, 1) := by decide +kernel
theorem dL_does_234 : decode cL_does 234 = .ok (.invokevirtual 73, 3) := by decide +kernel
theorem dL_does_237 : decode cL_does 237 = .ok (.ifCond .eq 10, 3) := by decide +kernel
theorem dL_does_240 : decode cL_does 240 = .ok (.aload_n 0, 1) := by decide +kernel
theorem dL_does_241 : decode cL_does 241 = .ok (.invokevirtual 51, 3) := by decide +kernel
theorem dL_does_244 : decode cL_does 244 = .ok (.ifCond .ne 7, 3) := by decide +kernel
theorem dL_does_247 : decode cL_does 247 = .ok (.iconst 1, 1) := by decide +kernel
theorem dL_does_248 : decode cL_does 248 = .ok (.goto 4, 3) := by decide +kernel
theorem dL_does_251 : decode cL_does 251 = .ok (.iconst 0, 1) := by decide +kernel
theorem dL_does_252 : decode cL_does 252 = .ok (.ireturn, 1) := by decide +kernel
theorem dL_does_253 : decode cL_does 253 = .ok (.iconst 1, 1) := by decide +kernel
theorem dL_does_254 : decode cL_does 254 = .ok (.ireturn, 1) := by decide +kernel
theorem dL_does_255 : decode cL_does 255 = .ok (.iconst 1, 1) := by decide +kernel
theorem dL_does_256 : decode cL_does 256 = .ok (.ireturn, 1) := by decide +kernel
set_option maxRecDepth 20000 in
theorem ggL_isWhole_X4_paid : GoodIn wsL_isWhole wsX4_paid := goodIn_r _ [5, 6, 88, 89, 90, 91, 92, 93, 94, 95, 96, 97, 98, 99, 100, 101] (by decide +kernel) (by decide +kernel)
set_option maxRecDepth 20000 in
theorem gL_isWhole_X4_paid : GoodIn wsL_isWhole (wsV RL 76 RX4 yX4_paid wsX4_paid) := goodIn_app (goodIn_of _ (by decide +kernel)) ggL_isWhole_X4_paid
set_option maxRecDepth 20000 in
theorem ggL_isWhole_X4_held : GoodIn wsL_isWhole wsX4_held := goodIn_r _ [10, 11, 88, 89, 90, 91, 92, 93, 94, 95, 96, 97, 98, 99, 100, 101] (by decide +kernel) (by decide +kernel)
set_option maxRecDepth 20000 in
theorem gL_isWhole_X4_held : GoodIn wsL_isWhole (wsV RL 51 RX4 yX4_held wsX4_held) := goodIn_app (goodIn_of _ (by decide +kernel)) ggL_isWhole_X4_held
set_option maxRecDepth 20000 in
theorem ggL_isWhole_X4_returned : GoodIn wsL_isWhole wsX4_returned := goodIn_r _ [15, 16, 88, 89, 90, 91, 92, 93, 94, 95, 96, 97, 98, 99, 100, 101] (by decide +kernel) (by decide +kernel)
set_option maxRecDepth 20000 in
theorem gL_isWhole_X4_returned : GoodIn wsL_isWhole (wsV RL 54 RX4 yX4_returned wsX4_returned) := goodIn_app (goodIn_of _ (by decide +kernel)) ggL_isWhole_X4_returned
set_option maxRecDepth 20000 in
theorem ggL_isWhole_X4_setOff : GoodIn wsL_isWhole wsX4_setOff := goodIn_r _ [20, 21, 88, 89, 90, 91, 92, 93, 94, 95, 96, 97, 98, 99, 100, 101] (by decide +kernel) (by decide +kernel)
set_option maxRecDepth 20000 in
theorem gL_isWhole_X4_setOff : GoodIn wsL_isWhole (wsV RL 79 RX4 yX4_setOff wsX4_setOff) := goodIn_app (goodIn_of _ (by decide +kernel)) ggL_isWhole_X4_setOff
set_option maxRecDepth 20000 in
theorem ggL_isWhole_X4_finalPrice : GoodIn wsL_isWhole wsX4_finalPrice := goodIn_r _ [25, 26, 88, 89, 90, 91, 92, 93, 94, 95, 96, 97, 98, 99, 100, 101] (by decide +kernel) (by decide +kernel)
set_option maxRecDepth 20000 in
theorem gL_isWhole_X4_finalPrice : GoodIn wsL_isWhole (wsV RL 82 RX4 yX4_finalPrice wsX4_finalPrice) := goodIn_app (goodIn_of _ (by decide +kernel)) ggL_isWhole_X4_finalPrice
set_option maxRecDepth 20000 in
theorem ggL_isWhole_X4_owed : GoodIn wsL_isWhole wsX4_owed := goodIn_r _ [30, 31, 88, 89, 90, 91, 92, 93, 94, 95, 96, 97, 98, 99, 100, 101] (by decide +kernel) (by decide +kernel)
set_option maxRecDepth 20000 in
theorem gL_isWhole_X4_owed : GoodIn wsL_isWhole (wsV RL 85 RX4 yX4_owed wsX4_owed) := goodIn_app (goodIn_of _ (by decide +kernel)) ggL_isWhole_X4_owed
set_option maxRecDepth 20000 in
theorem ggL_isWhole_X4_outstanding : GoodIn wsL_isWhole wsX4_outstanding := goodIn_r _ [35, 36, 37, 38, 4, 39, 16, 21, 40, 41, 42, 43, 44, 45, 46, 47, 48, 49, 50, 51, 52, 53, 54, 55, 56, 57, 58, 59, 60, 61, 62, 63, 64, 65, 66, 67, 68, 69, 70, 71, 72, 73, 74, 88, 89, 90, 91, 92, 93, 94, 95, 96, 97, 98, 99, 100, 101, 102, 103, 104, 105, 106, 107, 108, 109, 110, 111] (by decide +kernel) (by decide +kernel)
set_option maxRecDepth 20000 in
theorem gL_isWhole_X4_outstanding : GoodIn wsL_isWhole (wsV RL 73 RX4 yX4_outstanding wsX4_outstanding) := goodIn_app (goodIn_of _ (by decide +kernel)) ggL_isWhole_X4_outstanding
set_option maxRecDepth 20000 in
theorem ggL_isWhole_X4_due : GoodIn wsL_isWhole wsX4_due := goodIn_r _ [78, 40, 41, 42, 4, 43, 44, 45, 46, 47, 48, 49, 50, 51, 52, 53, 54, 55, 56, 57, 58, 59, 60, 61, 62, 63, 64, 65, 66, 67, 68, 69, 70, 71, 72, 73, 74, 88, 89, 90, 91, 92, 93, 94, 95, 96, 97, 98, 99, 100, 101, 102, 103, 104, 105, 106, 107, 108, 109, 110, 111] (by decide +kernel) (by decide +kernel)
set_option maxRecDepth 20000 in
theorem gL_isWhole_X4_due : GoodIn wsL_isWhole (wsV RL 67 RX4 yX4_due wsX4_due) := goodIn_app (goodIn_of _ (by decide +kernel)) ggL_isWhole_X4_due
set_option maxRecDepth 20000 in
theorem ggL_isWhole_X4_dueOf : GoodIn wsL_isWhole wsX4_dueOf := goodIn_ca (goodIn_r _ [82, 83, 84, 4, 85, 86, 87, 44, 45, 46, 47, 48, 49, 50, 51, 52, 53, 54, 55, 56, 57, 58, 59, 60, 61, 62, 63, 64, 65, 66, 67, 68, 69, 70, 71, 72, 73, 74, 88, 89, 90, 91, 92, 93, 94, 95, 96, 97, 98, 99, 100, 101, 102, 103, 104, 105, 106, 107, 108, 109, 110, 111] (by decide +kernel) (by decide +kernel)) (goodIn_sub (fun _ h => List.mem_cons_of_mem _ (List.mem_append_right _ h)) (by decide +kernel))
set_option maxRecDepth 20000 in
theorem gL_isWhole_X4_dueOf : GoodIn wsL_isWhole (wsV RL 88 RX4 yX4_dueOf wsX4_dueOf) := goodIn_app (goodIn_of _ (by decide +kernel)) ggL_isWhole_X4_dueOf
theorem dL_isWhole_0 : decode cL_isWhole 0 = .ok (.aload_n 0, 1) := by decide +kernel
theorem dL_isWhole_1 : decode cL_isWhole 1 = .ok (.invokevirtual 76, 3) := by decide +kernel
theorem dL_isWhole_4 : decode cL_isWhole 4 = .ok (.aload_n 0, 1) := by decide +kernel
theorem dL_isWhole_5 : decode cL_isWhole 5 = .ok (.invokevirtual 51, 3) := by decide +kernel
theorem dL_isWhole_8 : decode cL_isWhole 8 = .ok (.iadd, 1) := by decide +kernel
theorem dL_isWhole_9 : decode cL_isWhole 9 = .ok (.aload_n 0, 1) := by decide +kernel
theorem dL_isWhole_10 : decode cL_isWhole 10 = .ok (.invokevirtual 54, 3) := by decide +kernel
theorem dL_isWhole_13 : decode cL_isWhole 13 = .ok (.iadd, 1) := by decide +kernel
theorem dL_isWhole_14 : decode cL_isWhole 14 = .ok (.aload_n 0, 1) := by decide +kernel
theorem dL_isWhole_15 : decode cL_isWhole 15 = .ok (.invokevirtual 79, 3) := by decide +kernel
theorem dL_isWhole_18 : decode cL_isWhole 18 = .ok (.iadd, 1) := by decide +kernel
theorem dL_isWhole_19 : decode cL_isWhole 19 = .ok (.aload_n 0, 1) := by decide +kernel
theorem dL_isWhole_20 : decode cL_isWhole 20 = .ok (.invokevirtual 82, 3) := by decide +kernel
theorem dL_isWhole_23 : decode cL_isWhole 23 = .ok (.aload_n 0, 1) := by decide +kernel
theorem dL_isWhole_24 : decode cL_isWhole 24 = .ok (.invokevirtual 85, 3) := by decide +kernel
theorem dL_isWhole_27 : decode cL_isWhole 27 = .ok (.iadd, 1) := by decide +kernel
theorem dL_isWhole_28 : decode cL_isWhole 28 = .ok (.if_icmp .ne 7, 3) := by decide +kernel
theorem dL_isWhole_31 : decode cL_isWhole 31 = .ok (.iconst 1, 1) := by decide +kernel
theorem dL_isWhole_32 : decode cL_isWhole 32 = .ok (.goto 4, 3) := by decide +kernel
theorem dL_isWhole_35 : decode cL_isWhole 35 = .ok (.iconst 0, 1) := by decide +kernel
theorem dL_isWhole_36 : decode cL_isWhole 36 = .ok (.istore_n 1, 1) := by decide +kernel
theorem dL_isWhole_37 : decode cL_isWhole 37 = .ok (.iload_n 1, 1) := by decide +kernel
theorem dL_isWhole_38 : decode cL_isWhole 38 = .ok (.ifCond .eq 49, 3) := by decide +kernel
theorem dL_isWhole_41 : decode cL_isWhole 41 = .ok (.aload_n 0, 1) := by decide +kernel
theorem dL_isWhole_42 : decode cL_isWhole 42 = .ok (.invokevirtual 73, 3) := by decide +kernel
theorem dL_isWhole_45 : decode cL_isWhole 45 = .ok (.aload_n 0, 1) := by decide +kernel
theorem dL_isWhole_46 : decode cL_isWhole 46 = .ok (.invokevirtual 67, 3) := by decide +kernel
theorem dL_isWhole_49 : decode cL_isWhole 49 = .ok (.aload_n 0, 1) := by decide +kernel
theorem dL_isWhole_50 : decode cL_isWhole 50 = .ok (.invokevirtual 54, 3) := by decide +kernel
theorem dL_isWhole_53 : decode cL_isWhole 53 = .ok (.isub, 1) := by decide +kernel
theorem dL_isWhole_54 : decode cL_isWhole 54 = .ok (.aload_n 0, 1) := by decide +kernel
theorem dL_isWhole_55 : decode cL_isWhole 55 = .ok (.invokevirtual 79, 3) := by decide +kernel
theorem dL_isWhole_58 : decode cL_isWhole 58 = .ok (.isub, 1) := by decide +kernel
theorem dL_isWhole_59 : decode cL_isWhole 59 = .ok (.if_icmp .ne 28, 3) := by decide +kernel
theorem dL_isWhole_62 : decode cL_isWhole 62 = .ok (.aload_n 0, 1) := by decide +kernel
theorem dL_isWhole_63 : decode cL_isWhole 63 = .ok (.invokevirtual 73, 3) := by decide +kernel
theorem dL_isWhole_66 : decode cL_isWhole 66 = .ok (.ifCond .lt 21, 3) := by decide +kernel
theorem dL_isWhole_69 : decode cL_isWhole 69 = .ok (.aload_n 0, 1) := by decide +kernel
theorem dL_isWhole_70 : decode cL_isWhole 70 = .ok (.invokevirtual 51, 3) := by decide +kernel
theorem dL_isWhole_73 : decode cL_isWhole 73 = .ok (.ifCond .lt 14, 3) := by decide +kernel
theorem dL_isWhole_76 : decode cL_isWhole 76 = .ok (.aload_n 0, 1) := by decide +kernel
theorem dL_isWhole_77 : decode cL_isWhole 77 = .ok (.invokevirtual 76, 3) := by decide +kernel
theorem dL_isWhole_80 : decode cL_isWhole 80 = .ok (.ifCond .lt 7, 3) := by decide +kernel
theorem dL_isWhole_83 : decode cL_isWhole 83 = .ok (.iconst 1, 1) := by decide +kernel
theorem dL_isWhole_84 : decode cL_isWhole 84 = .ok (.goto 4, 3) := by decide +kernel
theorem dL_isWhole_87 : decode cL_isWhole 87 = .ok (.iconst 0, 1) := by decide +kernel
theorem dL_isWhole_88 : decode cL_isWhole 88 = .ok (.istore_n 1, 1) := by decide +kernel
theorem dL_isWhole_89 : decode cL_isWhole 89 = .ok (.iload_n 1, 1) := by decide +kernel
theorem dL_isWhole_90 : decode cL_isWhole 90 = .ok (.ifCond .eq 53, 3) := by decide +kernel
theorem dL_isWhole_93 : decode cL_isWhole 93 = .ok (.aload_n 0, 1) := by decide +kernel
theorem dL_isWhole_94 : decode cL_isWhole 94 = .ok (.invokevirtual 67, 3) := by decide +kernel
theorem dL_isWhole_97 : decode cL_isWhole 97 = .ok (.aload_n 0, 1) := by decide +kernel
theorem dL_isWhole_98 : decode cL_isWhole 98 = .ok (.iconst 0, 1) := by decide +kernel
theorem dL_isWhole_99 : decode cL_isWhole 99 = .ok (.invokevirtual 88, 3) := by decide +kernel
theorem dL_isWhole_102 : decode cL_isWhole 102 = .ok (.aload_n 0, 1) := by decide +kernel
theorem dL_isWhole_103 : decode cL_isWhole 103 = .ok (.iconst 1, 1) := by decide +kernel
theorem dL_isWhole_104 : decode cL_isWhole 104 = .ok (.invokevirtual 88, 3) := by decide +kernel
theorem dL_isWhole_107 : decode cL_isWhole 107 = .ok (.iadd, 1) := by decide +kernel
theorem dL_isWhole_108 : decode cL_isWhole 108 = .ok (.aload_n 0, 1) := by decide +kernel
theorem dL_isWhole_109 : decode cL_isWhole 109 = .ok (.iconst 2, 1) := by decide +kernel
theorem dL_isWhole_110 : decode cL_isWhole 110 = .ok (.invokevirtual 88, 3) := by decide +kernel
theorem dL_isWhole_113 : decode cL_isWhole 113 = .ok (.iadd, 1) := by decide +kernel
theorem dL_isWhole_114 : decode cL_isWhole 114 = .ok (.if_icmp .ne 29, 3) := by decide +kernel
theorem dL_isWhole_117 : decode cL_isWhole 117 = .ok (.aload_n 0, 1) := by decide +kernel
theorem dL_isWhole_118 : decode cL_isWhole 118 = .ok (.invokevirtual 79, 3) := by decide +kernel
theorem dL_isWhole_121 : decode cL_isWhole 121 = .ok (.aload_n 0, 1) := by decide +kernel
theorem dL_isWhole_122 : decode cL_isWhole 122 = .ok (.invokevirtual 85, 3) := by decide +kernel
theorem dL_isWhole_125 : decode cL_isWhole 125 = .ok (.if_icmp .gt 18, 3) := by decide +kernel
theorem dL_isWhole_128 : decode cL_isWhole 128 = .ok (.aload_n 0, 1) := by decide +kernel
theorem dL_isWhole_129 : decode cL_isWhole 129 = .ok (.invokevirtual 54, 3) := by decide +kernel
theorem dL_isWhole_132 : decode cL_isWhole 132 = .ok (.aload_n 0, 1) := by decide +kernel
theorem dL_isWhole_133 : decode cL_isWhole 133 = .ok (.invokevirtual 82, 3) := by decide +kernel
theorem dL_isWhole_136 : decode cL_isWhole 136 = .ok (.if_icmp .gt 7, 3) := by decide +kernel
theorem dL_isWhole_139 : decode cL_isWhole 139 = .ok (.iconst 1, 1) := by decide +kernel
theorem dL_isWhole_140 : decode cL_isWhole 140 = .ok (.goto 4, 3) := by decide +kernel
theorem dL_isWhole_143 : decode cL_isWhole 143 = .ok (.iconst 0, 1) := by decide +kernel
theorem dL_isWhole_144 : decode cL_isWhole 144 = .ok (.ireturn, 1) := by decide +kernel
set_option maxRecDepth 20000 in
theorem ggL_law_X4_init : GoodIn wsL_law wsX4_init := goodIn_r _ [11, 12, 13, 14, 15, 16, 17, 18, 19, 20, 21, 22, 23, 24, 25, 26, 27, 28, 29, 30, 31, 32, 33, 34, 35, 36, 6, 37, 38, 39, 40, 41, 42, 43, 44, 45, 46, 47, 48, 49, 50, 51, 52, 53, 54, 55, 56, 57, 58, 59, 60, 61, 62, 63, 328, 329, 314, 315, 316, 317, 318, 319, 320, 321, 322, 323, 324, 325, 326, 327, 330, 331, 332, 333, 334, 335, 336, 337, 338, 339, 340, 341, 342, 343, 344, 345, 346, 347] (by decide +kernel) (by decide +kernel)
set_option maxRecDepth 20000 in
theorem gL_law_X4_init : GoodIn wsL_law (wsX4_init) := ggL_law_X4_init
set_option maxRecDepth 20000 in
theorem ggL_law_X4_day : GoodIn wsL_law wsX4_day := goodIn_r _ [67, 31, 314, 315, 316, 317, 318, 319, 320, 321, 322, 323, 324, 325, 326, 327] (by decide +kernel) (by decide +kernel)
set_option maxRecDepth 20000 in
theorem gL_law_X4_day : GoodIn wsL_law (wsV RL 57 RX4 yX4_day wsX4_day) := goodIn_app (goodIn_of _ (by decide +kernel)) ggL_law_X4_day
set_option maxRecDepth 20000 in
theorem ggL_law_X4_finalPrice : GoodIn wsL_law wsX4_finalPrice := goodIn_r _ [71, 32, 314, 315, 316, 317, 318, 319, 320, 321, 322, 323, 324, 325, 326, 327] (by decide +kernel) (by decide +kernel)
set_option maxRecDepth 20000 in
theorem gL_law_X4_finalPrice : GoodIn wsL_law (wsV RL 82 RX4 yX4_finalPrice wsX4_finalPrice) := goodIn_app (goodIn_of _ (by decide +kernel)) ggL_law_X4_finalPrice
set_option maxRecDepth 20000 in
theorem ggL_law_L_terms : GoodIn wsL_law wsL_terms := goodIn_ca (goodIn_ca (goodIn_ca (goodIn_r _ [75, 76, 77, 7, 78, 5, 79, 80, 3, 81, 82, 74, 83, 84, 85, 86, 87, 88, 2, 89, 90, 91, 92, 93, 94, 95, 96, 97, 98, 99, 100, 101, 102, 103, 104, 105, 31, 106, 107, 108, 109, 18, 110, 111, 112, 113, 114, 115, 116, 117, 118, 119, 120, 30, 121, 122, 123, 124, 125, 126, 127, 22, 128, 129, 130, 131, 132, 133, 134, 135, 136, 137, 314, 315, 316, 317, 318, 319, 320, 321, 322, 323, 324, 325, 326, 327, 328, 329, 340, 341, 342, 343, 344, 345, 346, 347, 330, 331, 332, 333, 334] (by decide +kernel) (by decide +kernel)) (goodIn_sub (fun _ h => List.mem_append_left _ (List.mem_append_left _ (List.mem_append_right _ h))) (by decide +kernel))) (goodIn_sub (fun _ h => List.mem_append_left _ (List.mem_append_right _ h)) (by decide +kernel))) (goodIn_sub (fun _ h => List.mem_append_right _ h) (by decide +kernel))
set_option maxRecDepth 20000 in
theorem gL_law_L_terms : GoodIn wsL_law (va_wsS RL 92 yL_terms wsL_terms) := goodIn_app (goodIn_of _ (by decide +kernel)) ggL_law_L_terms
set_option maxRecDepth 20000 in
theorem ggL_law_L_told : GoodIn wsL_law wsL_told := goodIn_r _ [83, 84, 85] (by decide +kernel) (by decide +kernel)
set_option maxRecDepth 20000 in
theorem gL_law_L_told : GoodIn wsL_law (va_wsS RL 9 yL_told wsL_told) := goodIn_app (goodIn_of _ (by decide +kernel)) ggL_law_L_told
set_option maxRecDepth 20000 in
theorem ggL_law_X4_close : GoodIn wsL_law wsX4_close := goodIn_ca (goodIn_ca (goodIn_r _ [141, 90, 91, 31, 92, 93, 142, 143, 144, 145, 32, 18, 146, 147, 148, 149, 150, 95, 96, 2, 97, 98, 99, 100, 101, 102, 103, 104, 105, 151, 152, 153, 154, 94, 155, 156, 157, 17, 158, 37, 314, 315, 316, 317, 318, 319, 320, 321, 322, 323, 324, 325, 326, 327, 328, 329] (by decide +kernel) (by decide +kernel)) (goodIn_sub (fun _ h => List.mem_append_left _ (List.mem_append_left _ (List.mem_append_right _ h))) (by decide +kernel))) (goodIn_sub (fun _ h => List.mem_append_left _ (List.mem_append_right _ h)) (by decide +kernel))
set_option maxRecDepth 20000 in
theorem gL_law_X4_close : GoodIn wsL_law (wsV RL 97 RX4 yX4_close wsX4_close) := goodIn_app (goodIn_of _ (by decide +kernel)) ggL_law_X4_close
set_option maxRecDepth 20000 in
theorem ggL_law_L_isWhole : GoodIn wsL_law wsL_isWhole := goodIn_ca (goodIn_r _ [161, 162, 163, 164, 2, 165, 150, 166, 167, 168, 169, 149, 170, 171, 172, 173, 174, 175, 176, 177, 178, 179, 68, 69, 70, 71, 32, 180, 181, 182, 183, 184, 185, 186, 187, 188, 189, 190, 191, 192, 193, 194, 195, 196, 197, 198, 199, 200, 22, 26, 128, 201, 202, 203, 25, 204, 205, 53, 56, 206, 207, 208, 21, 209, 47, 210, 147, 144, 148, 211, 212, 213, 214, 44, 46, 215, 216, 217, 218, 219, 220, 221, 222, 112, 113, 114, 115, 116, 314, 315, 316, 317, 318, 319, 320, 321, 322, 323, 324, 325, 326, 327, 330, 331, 332, 333, 334, 335, 336, 337, 338, 339] (by decide +kernel) (by decide +kernel)) (goodIn_sub (fun _ h => List.mem_append_right _ h) (by decide +kernel))
set_option maxRecDepth 20000 in
theorem gL_law_L_isWhole : GoodIn wsL_law (va_wsS RL 101 yL_isWhole wsL_isWhole) := goodIn_app (goodIn_of _ (by decide +kernel)) ggL_law_L_isWhole
set_option maxRecDepth 20000 in
theorem ggL_law_X4_claims : GoodIn wsL_law wsX4_claims := goodIn_r _ [226, 26, 227, 314, 315, 316, 317, 318, 319, 320, 321, 322, 323, 324, 325, 326, 327, 335, 336, 337, 338, 339] (by decide +kernel) (by decide +kernel)
set_option maxRecDepth 20000 in
theorem gL_law_X4_claims : GoodIn wsL_law (wsV RL 43 RX4 yX4_claims wsX4_claims) := goodIn_app (goodIn_of _ (by decide +kernel)) ggL_law_X4_claims
set_option maxRecDepth 20000 in
theorem ggL_law_X4_claim : GoodIn wsL_law wsX4_claim := goodIn_ca (goodIn_ca (goodIn_ca (goodIn_r _ [231, 104, 105, 90, 31, 22, 132, 26, 227, 232, 233, 234, 235, 112, 113, 2, 114, 115, 116, 95, 96, 97, 98, 99, 236, 237, 238, 239, 314, 315, 316, 317, 318, 319, 320, 321, 322, 323, 324, 325, 326, 327, 330, 331, 332, 333, 334, 335, 336, 337, 338, 339] (by decide +kernel) (by decide +kernel)) (goodIn_sub (fun _ h => List.mem_append_left _ (List.mem_append_right _ h)) (by decide +kernel))) (goodIn_sub (fun _ h => List.mem_append_right _ h) (by decide +kernel))) (goodIn_sub (fun _ h => List.mem_append_left _ (List.mem_append_left _ (List.mem_append_right _ h))) (by decide +kernel))
set_option maxRecDepth 20000 in
theorem gL_law_X4_claim : GoodIn wsL_law (wsV RL 105 RX4 yX4_claim wsX4_claim) := goodIn_app (goodIn_of _ (by decide +kernel)) ggL_law_X4_claim
set_option maxRecDepth 20000 in
theorem ggL_law_X4_settledAt : GoodIn wsL_law wsX4_settledAt := goodIn_ca (goodIn_r _ [243, 26, 227, 235, 112, 113, 2, 114, 115, 116, 314, 315, 316, 317, 318, 319, 320, 321, 322, 323, 324, 325, 326, 327, 335, 336, 337, 338, 339] (by decide +kernel) (by decide +kernel)) (goodIn_sub (fun _ h => List.mem_append_right _ h) (by decide +kernel))
set_option maxRecDepth 20000 in
theorem gL_law_X4_settledAt : GoodIn wsL_law (wsV RL 47 RX4 yX4_settledAt wsX4_settledAt) := goodIn_app (goodIn_of _ (by decide +kernel)) ggL_law_X4_settledAt
set_option maxRecDepth 20000 in
theorem ggL_law_X4_owed : GoodIn wsL_law wsX4_owed := goodIn_r _ [183, 184, 314, 315, 316, 317, 318, 319, 320, 321, 322, 323, 324, 325, 326, 327] (by decide +kernel) (by decide +kernel)
set_option maxRecDepth 20000 in
theorem gL_law_X4_owed : GoodIn wsL_law (wsV RL 85 RX4 yX4_owed wsX4_owed) := goodIn_app (goodIn_of _ (by decide +kernel)) ggL_law_X4_owed
set_option maxRecDepth 20000 in
theorem ggL_law_X4_report : GoodIn wsL_law wsX4_report := goodIn_ca (goodIn_ca (goodIn_r _ [247, 104, 105, 91, 90, 30, 248, 249, 95, 96, 2, 97, 98, 99, 236, 237, 238, 239, 31, 250, 251, 252, 29, 253, 254, 255, 256, 61, 257, 258, 259, 260, 261, 63, 62, 262, 263, 264, 265, 146, 147, 144, 148, 184, 179, 150, 189, 190, 191, 192, 174, 193, 194, 195, 196, 197, 198, 199, 200, 22, 26, 128, 201, 202, 203, 25, 204, 205, 53, 56, 206, 207, 208, 21, 209, 47, 210, 211, 212, 213, 214, 44, 46, 314, 315, 316, 317, 318, 319, 320, 321, 322, 323, 324, 325, 326, 327, 340, 341, 342, 343, 344, 345, 346, 347, 330, 331, 332, 333, 334, 335, 336, 337, 338, 339] (by decide +kernel) (by decide +kernel)) (goodIn_sub (fun _ h => List.mem_append_left _ (List.mem_append_right _ h)) (by decide +kernel))) (goodIn_sub (fun _ h => List.mem_append_left _ (List.mem_append_left _ (List.mem_append_right _ h))) (by decide +kernel))
set_option maxRecDepth 20000 in
theorem gL_law_X4_report : GoodIn wsL_law (wsV RL 109 RX4 yX4_report wsX4_report) := goodIn_app (goodIn_of _ (by decide +kernel)) ggL_law_X4_report
set_option maxRecDepth 20000 in
theorem ggL_law_X4_speedUp : GoodIn wsL_law wsX4_speedUp := goodIn_ca (goodIn_r _ [269, 104, 105, 30, 248, 236, 237, 238, 2, 239, 31, 270, 271, 272, 29, 273, 274, 254, 258, 259, 260, 261, 63, 62, 262, 263, 264, 265, 146, 147, 144, 148, 184, 179, 150, 189, 190, 191, 192, 174, 193, 194, 195, 196, 197, 198, 199, 200, 22, 26, 128, 201, 202, 203, 25, 204, 205, 53, 56, 206, 207, 208, 21, 209, 47, 210, 211, 212, 213, 214, 44, 46, 314, 315, 316, 317, 318, 319, 320, 321, 322, 323, 324, 325, 326, 327, 340, 341, 342, 343, 344, 345, 346, 347, 330, 331, 332, 333, 334, 335, 336, 337, 338, 339] (by decide +kernel) (by decide +kernel)) (goodIn_sub (fun _ h => List.mem_append_left _ (List.mem_append_right _ h)) (by decide +kernel))
set_option maxRecDepth 20000 in
theorem gL_law_X4_speedUp : GoodIn wsL_law (wsV RL 112 RX4 yX4_speedUp wsX4_speedUp) := goodIn_app (goodIn_of _ (by decide +kernel)) ggL_law_X4_speedUp
set_option maxRecDepth 20000 in
theorem ggL_law_X4_isMet : GoodIn wsL_law wsX4_isMet := goodIn_ca (goodIn_r _ [278, 30, 279, 112, 113, 2, 114, 115, 116, 314, 315, 316, 317, 318, 319, 320, 321, 322, 323, 324, 325, 326, 327, 340, 341, 342, 343, 344, 345, 346, 347] (by decide +kernel) (by decide +kernel)) (goodIn_sub (fun _ h => List.mem_append_right _ h) (by decide +kernel))
set_option maxRecDepth 20000 in
theorem gL_law_X4_isMet : GoodIn wsL_law (wsV RL 115 RX4 yX4_isMet wsX4_isMet) := goodIn_app (goodIn_of _ (by decide +kernel)) ggL_law_X4_isMet
set_option maxRecDepth 20000 in
theorem ggL_law_L_does : GoodIn wsL_law wsL_does := goodIn_ca (goodIn_ca (goodIn_ca (goodIn_r _ [282, 223, 224, 225, 2, 226, 26, 227, 240, 241, 242, 243, 235, 112, 113, 114, 115, 116, 166, 167, 168, 169, 149, 170, 171, 172, 173, 174, 64, 65, 66, 67, 31, 283, 284, 285, 286, 104, 105, 95, 96, 97, 98, 99, 236, 237, 238, 239, 287, 288, 289, 290, 18, 150, 291, 292, 293, 17, 294, 38, 37, 295, 296, 297, 25, 298, 205, 56, 54, 299, 300, 301, 302, 233, 234, 303, 304, 305, 215, 216, 217, 218, 193, 194, 195, 196, 197, 198, 199, 200, 22, 128, 201, 202, 203, 204, 53, 206, 207, 208, 21, 209, 47, 210, 147, 144, 148, 211, 212, 213, 214, 44, 46, 306, 307, 308, 309, 310, 311, 312, 313, 146, 189, 190, 191, 192, 179, 185, 186, 187, 188, 314, 315, 316, 317, 318, 319, 320, 321, 322, 323, 324, 325, 326, 327, 335, 336, 337, 338, 339, 328, 329, 330, 331, 332, 333, 334] (by decide +kernel) (by decide +kernel)) (goodIn_sub (fun _ h => List.mem_append_right _ h) (by decide +kernel))) (goodIn_sub (fun _ h => List.mem_append_left _ (List.mem_append_right _ h)) (by decide +kernel))) (goodIn_sub (fun _ h => List.mem_append_left _ (List.mem_append_left _ (List.mem_append_right _ h))) (by decide +kernel))
set_option maxRecDepth 20000 in
theorem gL_law_L_does : GoodIn wsL_law (va_wsS RL 119 yL_does wsL_does) := goodIn_app (goodIn_of _ (by decide +kernel)) ggL_law_L_does
theorem dL_law_0 : decode cL_law 0 = .ok (.new 20, 3) := by decide +kernel
theorem dL_law_3 : decode cL_law 3 = .ok (.dup, 1) := by decide +kernel
theorem dL_law_4 : decode cL_law 4 = .ok (.invokespecial 91, 3) := by decide +kernel
theorem dL_law_7 : decode cL_law 7 = .ok (.astore_n 1, 1) := by decide +kernel
theorem dL_law_8 : decode cL_law 8 = .ok (.aload_n 1, 1) := by decide +kernel
theorem dL_law_9 : decode cL_law 9 = .ok (.invokevirtual 57, 3) := by decide +kernel
theorem dL_law_12 : decode cL_law 12 = .ok (.iconst (-1), 1) := by decide +kernel
theorem dL_law_13 : decode cL_law 13 = .ok (.if_icmp .ne 15, 3) := by decide +kernel
theorem dL_law_16 : decode cL_law 16 = .ok (.aload_n 1, 1) := by decide +kernel
theorem dL_law_17 : decode cL_law 17 = .ok (.invokevirtual 82, 3) := by decide +kernel
theorem dL_law_20 : decode cL_law 20 = .ok (.iconst (-1), 1) := by decide +kernel
theorem dL_law_21 : decode cL_law 21 = .ok (.if_icmp .ne 7, 3) := by decide +kernel
theorem dL_law_24 : decode cL_law 24 = .ok (.iconst 1, 1) := by decide +kernel
theorem dL_law_25 : decode cL_law 25 = .ok (.goto 4, 3) := by decide +kernel
theorem dL_law_28 : decode cL_law 28 = .ok (.iconst 0, 1) := by decide +kernel
theorem dL_law_29 : decode cL_law 29 = .ok (.istore_n 2, 1) := by decide +kernel
theorem dL_law_30 : decode cL_law 30 = .ok (.aload_n 1, 1) := by decide +kernel
theorem dL_law_31 : decode cL_law 31 = .ok (.aload_n 0, 1) := by decide +kernel
theorem dL_law_32 : decode cL_law 32 = .ok (.invokestatic 92, 3) := by decide +kernel
theorem dL_law_35 : decode cL_law 35 = .ok (.aload_n 1, 1) := by decide +kernel
theorem dL_law_36 : decode cL_law 36 = .ok (.aload_n 0, 1) := by decide +kernel
theorem dL_law_37 : decode cL_law 37 = .ok (.bipush 15, 2) := by decide +kernel
theorem dL_law_39 : decode cL_law 39 = .ok (.invokestatic 9, 3) := by decide +kernel
theorem dL_law_42 : decode cL_law 42 = .ok (.ldc 34, 2) := by decide +kernel
theorem dL_law_44 : decode cL_law 44 = .ok (.irem, 1) := by decide +kernel
theorem dL_law_45 : decode cL_law 45 = .ok (.aload_n 0, 1) := by decide +kernel
theorem dL_law_46 : decode cL_law 46 = .ok (.bipush 16, 2) := by decide +kernel
theorem dL_law_48 : decode cL_law 48 = .ok (.invokestatic 9, 3) := by decide +kernel
theorem dL_law_51 : decode cL_law 51 = .ok (.ldc 34, 2) := by decide +kernel
theorem dL_law_53 : decode cL_law 53 = .ok (.irem, 1) := by decide +kernel
theorem dL_law_54 : decode cL_law 54 = .ok (.aload_n 0, 1) := by decide +kernel
theorem dL_law_55 : decode cL_law 55 = .ok (.bipush 17, 2) := by decide +kernel
theorem dL_law_57 : decode cL_law 57 = .ok (.invokestatic 9, 3) := by decide +kernel
theorem dL_law_60 : decode cL_law 60 = .ok (.ldc 96, 2) := by decide +kernel
theorem dL_law_62 : decode cL_law 62 = .ok (.irem, 1) := by decide +kernel
theorem dL_law_63 : decode cL_law 63 = .ok (.ldc 25, 2) := by decide +kernel
theorem dL_law_65 : decode cL_law 65 = .ok (.isub, 1) := by decide +kernel
theorem dL_law_66 : decode cL_law 66 = .ok (.invokevirtual 97, 3) := by decide +kernel
theorem dL_law_69 : decode cL_law 69 = .ok (.istore_n 3, 1) := by decide +kernel
theorem dL_law_70 : decode cL_law 70 = .ok (.iload_n 2, 1) := by decide +kernel
theorem dL_law_71 : decode cL_law 71 = .ok (.ifCond .eq 29, 3) := by decide +kernel
theorem dL_law_74 : decode cL_law 74 = .ok (.iload_n 3, 1) := by decide +kernel
theorem dL_law_75 : decode cL_law 75 = .ok (.aload_n 1, 1) := by decide +kernel
theorem dL_law_76 : decode cL_law 76 = .ok (.invokevirtual 82, 3) := by decide +kernel
theorem dL_law_79 : decode cL_law 79 = .ok (.if_icmp .ne 21, 3) := by decide +kernel
theorem dL_law_82 : decode cL_law 82 = .ok (.aload_n 1, 1) := by decide +kernel
theorem dL_law_83 : decode cL_law 83 = .ok (.invokevirtual 57, 3) := by decide +kernel
theorem dL_law_86 : decode cL_law 86 = .ok (.ifCond .ne 14, 3) := by decide +kernel
theorem dL_law_89 : decode cL_law 89 = .ok (.aload_n 1, 1) := by decide +kernel
theorem dL_law_90 : decode cL_law 90 = .ok (.invokestatic 101, 3) := by decide +kernel
theorem dL_law_93 : decode cL_law 93 = .ok (.ifCond .eq 7, 3) := by decide +kernel
theorem dL_law_96 : decode cL_law 96 = .ok (.iconst 1, 1) := by decide +kernel
theorem dL_law_97 : decode cL_law 97 = .ok (.goto 4, 3) := by decide +kernel
theorem dL_law_100 : decode cL_law 100 = .ok (.iconst 0, 1) := by decide +kernel
theorem dL_law_101 : decode cL_law 101 = .ok (.istore_n 2, 1) := by decide +kernel
theorem dL_law_102 : decode cL_law 102 = .ok (.iconst 0, 1) := by decide +kernel
theorem dL_law_103 : decode cL_law 103 = .ok (.istore 4, 2) := by decide +kernel
theorem dL_law_105 : decode cL_law 105 = .ok (.iconst 0, 1) := by decide +kernel
theorem dL_law_106 : decode cL_law 106 = .ok (.istore 5, 2) := by decide +kernel
theorem dL_law_108 : decode cL_law 108 = .ok (.iconst 3, 1) := by decide +kernel
theorem dL_law_109 : decode cL_law 109 = .ok (.newarray .int, 2) := by decide +kernel
theorem dL_law_111 : decode cL_law 111 = .ok (.astore 6, 2) := by decide +kernel
theorem dL_law_113 : decode cL_law 113 = .ok (.bipush 20, 2) := by decide +kernel
theorem dL_law_115 : decode cL_law 115 = .ok (.newarray .int, 2) := by decide +kernel
theorem dL_law_117 : decode cL_law 117 = .ok (.astore 7, 2) := by decide +kernel
theorem dL_law_119 : decode cL_law 119 = .ok (.iconst 0, 1) := by decide +kernel
theorem dL_law_120 : decode cL_law 120 = .ok (.istore 8, 2) := by decide +kernel
theorem dL_law_122 : decode cL_law 122 = .ok (.iload 8, 2) := by decide +kernel
theorem dL_law_124 : decode cL_law 124 = .ok (.iconst 3, 1) := by decide +kernel
theorem dL_law_125 : decode cL_law 125 = .ok (.if_icmp .ge 30, 3) := by decide +kernel
theorem dL_law_128 : decode cL_law 128 = .ok (.aload 6, 2) := by decide +kernel
theorem dL_law_130 : decode cL_law 130 = .ok (.iload 8, 2) := by decide +kernel
theorem dL_law_132 : decode cL_law 132 = .ok (.aload_n 0, 1) := by decide +kernel
theorem dL_law_133 : decode cL_law 133 = .ok (.iload 8, 2) := by decide +kernel
theorem dL_law_135 : decode cL_law 135 = .ok (.bipush 11, 2) := by decide +kernel
theorem dL_law_137 : decode cL_law 137 = .ok (.iadd, 1) := by decide +kernel
theorem dL_law_138 : decode cL_law 138 = .ok (.invokestatic 9, 3) := by decide +kernel
theorem dL_law_141 : decode cL_law 141 = .ok (.bipush 77, 2) := by decide +kernel
theorem dL_law_143 : decode cL_law 143 = .ok (.idiv, 1) := by decide +kernel
theorem dL_law_144 : decode cL_law 144 = .ok (.sipush 1500, 3) := by decide +kernel
theorem dL_law_147 : decode cL_law 147 = .ok (.irem, 1) := by decide +kernel
theorem dL_law_148 : decode cL_law 148 = .ok (.iastore, 1) := by decide +kernel
theorem dL_law_149 : decode cL_law 149 = .ok (.iinc 8 1, 3) := by decide +kernel
theorem dL_law_152 : decode cL_law 152 = .ok (.goto (-30), 3) := by decide +kernel
theorem dL_law_155 : decode cL_law 155 = .ok (.bipush 18, 2) := by decide +kernel
theorem dL_law_157 : decode cL_law 157 = .ok (.istore 8, 2) := by decide +kernel
theorem dL_law_159 : decode cL_law 159 = .ok (.iload 8, 2) := by decide +kernel
theorem dL_law_161 : decode cL_law 161 = .ok (.bipush 70, 2) := by decide +kernel
theorem dL_law_163 : decode cL_law 163 = .ok (.if_icmp .ge 341, 3) := by decide +kernel
theorem dL_law_166 : decode cL_law 166 = .ok (.iload_n 2, 1) := by decide +kernel
theorem dL_law_167 : decode cL_law 167 = .ok (.ifCond .eq 337, 3) := by decide +kernel
theorem dL_law_170 : decode cL_law 170 = .ok (.aload_n 0, 1) := by decide +kernel
theorem dL_law_171 : decode cL_law 171 = .ok (.iload 8, 2) := by decide +kernel
theorem dL_law_173 : decode cL_law 173 = .ok (.invokestatic 9, 3) := by decide +kernel
theorem dL_law_176 : decode cL_law 176 = .ok (.istore 9, 2) := by decide +kernel
theorem dL_law_178 : decode cL_law 178 = .ok (.aload_n 0, 1) := by decide +kernel
theorem dL_law_179 : decode cL_law 179 = .ok (.iload 8, 2) := by decide +kernel
theorem dL_law_181 : decode cL_law 181 = .ok (.iconst 3, 1) := by decide +kernel
theorem dL_law_182 : decode cL_law 182 = .ok (.iadd, 1) := by decide +kernel
theorem dL_law_183 : decode cL_law 183 = .ok (.invokestatic 9, 3) := by decide +kernel
theorem dL_law_186 : decode cL_law 186 = .ok (.istore 10, 2) := by decide +kernel
theorem dL_law_188 : decode cL_law 188 = .ok (.iload 10, 2) := by decide +kernel
theorem dL_law_190 : decode cL_law 190 = .ok (.iconst 3, 1) := by decide +kernel
theorem dL_law_191 : decode cL_law 191 = .ok (.irem, 1) := by decide +kernel
theorem dL_law_192 : decode cL_law 192 = .ok (.istore 11, 2) := by decide +kernel
theorem dL_law_194 : decode cL_law 194 = .ok (.iload 9, 2) := by decide +kernel
theorem dL_law_196 : decode cL_law 196 = .ok (.bipush 8, 2) := by decide +kernel
theorem dL_law_198 : decode cL_law 198 = .ok (.irem, 1) := by decide +kernel
theorem dL_law_199 : decode cL_law 199 = .ok (.iconst 5, 1) := by decide +kernel
theorem dL_law_200 : decode cL_law 200 = .ok (.if_icmp .lt 97, 3) := by decide +kernel
theorem dL_law_203 : decode cL_law 203 = .ok (.iload 9, 2) := by decide +kernel
theorem dL_law_205 : decode cL_law 205 = .ok (.bipush 8, 2) := by decide +kernel
theorem dL_law_207 : decode cL_law 207 = .ok (.irem, 1) := by decide +kernel
theorem dL_law_208 : decode cL_law 208 = .ok (.bipush 6, 2) := by decide +kernel
theorem dL_law_210 : decode cL_law 210 = .ok (.if_icmp .gt 87, 3) := by decide +kernel
theorem dL_law_213 : decode cL_law 213 = .ok (.aload_n 1, 1) := by decide +kernel
theorem dL_law_214 : decode cL_law 214 = .ok (.invokevirtual 43, 3) := by decide +kernel
theorem dL_law_217 : decode cL_law 217 = .ok (.bipush 20, 2) := by decide +kernel
theorem dL_law_219 : decode cL_law 219 = .ok (.if_icmp .ge 78, 3) := by decide +kernel
theorem dL_law_222 : decode cL_law 222 = .ok (.aload_n 1, 1) := by decide +kernel
theorem dL_law_223 : decode cL_law 223 = .ok (.invokevirtual 57, 3) := by decide +kernel
theorem dL_law_226 : decode cL_law 226 = .ok (.aload 6, 2) := by decide +kernel
theorem dL_law_228 : decode cL_law 228 = .ok (.iload 11, 2) := by decide +kernel
theorem dL_law_230 : decode cL_law 230 = .ok (.iaload, 1) := by decide +kernel
theorem dL_law_231 : decode cL_law 231 = .ok (.if_icmp .gt 66, 3) := by decide +kernel
theorem dL_law_234 : decode cL_law 234 = .ok (.aload 7, 2) := by decide +kernel
theorem dL_law_236 : decode cL_law 236 = .ok (.aload_n 1, 1) := by decide +kernel
theorem dL_law_237 : decode cL_law 237 = .ok (.invokevirtual 43, 3) := by decide +kernel
theorem dL_law_240 : decode cL_law 240 = .ok (.iconst 1, 1) := by decide +kernel
theorem dL_law_241 : decode cL_law 241 = .ok (.iload 10, 2) := by decide +kernel
theorem dL_law_243 : decode cL_law 243 = .ok (.iconst 3, 1) := by decide +kernel
theorem dL_law_244 : decode cL_law 244 = .ok (.idiv, 1) := by decide +kernel
theorem dL_law_245 : decode cL_law 245 = .ok (.ldc 25, 2) := by decide +kernel
theorem dL_law_247 : decode cL_law 247 = .ok (.irem, 1) := by decide +kernel
theorem dL_law_248 : decode cL_law 248 = .ok (.iadd, 1) := by decide +kernel
theorem dL_law_249 : decode cL_law 249 = .ok (.iastore, 1) := by decide +kernel
theorem dL_law_250 : decode cL_law 250 = .ok (.aload_n 1, 1) := by decide +kernel
theorem dL_law_251 : decode cL_law 251 = .ok (.iload 11, 2) := by decide +kernel
theorem dL_law_253 : decode cL_law 253 = .ok (.iconst 1, 1) := by decide +kernel
theorem dL_law_254 : decode cL_law 254 = .ok (.iload 10, 2) := by decide +kernel
theorem dL_law_256 : decode cL_law 256 = .ok (.iconst 3, 1) := by decide +kernel
theorem dL_law_257 : decode cL_law 257 = .ok (.idiv, 1) := by decide +kernel
theorem dL_law_258 : decode cL_law 258 = .ok (.ldc 25, 2) := by decide +kernel
theorem dL_law_260 : decode cL_law 260 = .ok (.irem, 1) := by decide +kernel
theorem dL_law_261 : decode cL_law 261 = .ok (.iadd, 1) := by decide +kernel
theorem dL_law_262 : decode cL_law 262 = .ok (.invokevirtual 105, 3) := by decide +kernel
theorem dL_law_265 : decode cL_law 265 = .ok (.aload_n 1, 1) := by decide +kernel
theorem dL_law_266 : decode cL_law 266 = .ok (.invokevirtual 43, 3) := by decide +kernel
theorem dL_law_269 : decode cL_law 269 = .ok (.iconst 1, 1) := by decide +kernel
theorem dL_law_270 : decode cL_law 270 = .ok (.isub, 1) := by decide +kernel
theorem dL_law_271 : decode cL_law 271 = .ok (.if_icmp .ne 21, 3) := by decide +kernel
theorem dL_law_274 : decode cL_law 274 = .ok (.aload_n 1, 1) := by decide +kernel
theorem dL_law_275 : decode cL_law 275 = .ok (.aload_n 1, 1) := by decide +kernel
theorem dL_law_276 : decode cL_law 276 = .ok (.invokevirtual 43, 3) := by decide +kernel
theorem dL_law_279 : decode cL_law 279 = .ok (.iconst 1, 1) := by decide +kernel
theorem dL_law_280 : decode cL_law 280 = .ok (.isub, 1) := by decide +kernel
theorem dL_law_281 : decode cL_law 281 = .ok (.invokevirtual 47, 3) := by decide +kernel
theorem dL_law_284 : decode cL_law 284 = .ok (.iconst (-1), 1) := by decide +kernel
theorem dL_law_285 : decode cL_law 285 = .ok (.if_icmp .ne 7, 3) := by decide +kernel
theorem dL_law_288 : decode cL_law 288 = .ok (.iconst 1, 1) := by decide +kernel
theorem dL_law_289 : decode cL_law 289 = .ok (.goto 4, 3) := by decide +kernel
theorem dL_law_292 : decode cL_law 292 = .ok (.iconst 0, 1) := by decide +kernel
theorem dL_law_293 : decode cL_law 293 = .ok (.istore_n 2, 1) := by decide +kernel
theorem dL_law_294 : decode cL_law 294 = .ok (.goto 187, 3) := by decide +kernel
theorem dL_law_297 : decode cL_law 297 = .ok (.iload 9, 2) := by decide +kernel
theorem dL_law_299 : decode cL_law 299 = .ok (.bipush 8, 2) := by decide +kernel
theorem dL_law_301 : decode cL_law 301 = .ok (.irem, 1) := by decide +kernel
theorem dL_law_302 : decode cL_law 302 = .ok (.bipush 7, 2) := by decide +kernel
theorem dL_law_304 : decode cL_law 304 = .ok (.if_icmp .ne 123, 3) := by decide +kernel
theorem dL_law_307 : decode cL_law 307 = .ok (.aload_n 1, 1) := by decide +kernel
theorem dL_law_308 : decode cL_law 308 = .ok (.invokevirtual 85, 3) := by decide +kernel
theorem dL_law_311 : decode cL_law 311 = .ok (.istore 12, 2) := by decide +kernel
theorem dL_law_313 : decode cL_law 313 = .ok (.iconst 0, 1) := by decide +kernel
theorem dL_law_314 : decode cL_law 314 = .ok (.istore 13, 2) := by decide +kernel
theorem dL_law_316 : decode cL_law 316 = .ok (.iload 5, 2) := by decide +kernel
theorem dL_law_318 : decode cL_law 318 = .ok (.ifCond .ne 38, 3) := by decide +kernel
theorem dL_law_321 : decode cL_law 321 = .ok (.iload 4, 2) := by decide +kernel
theorem dL_law_323 : decode cL_law 323 = .ok (.iconst 4, 1) := by decide +kernel
theorem dL_law_324 : decode cL_law 324 = .ok (.if_icmp .ge 32, 3) := by decide +kernel
theorem dL_law_327 : decode cL_law 327 = .ok (.iload 10, 2) := by decide +kernel
theorem dL_law_329 : decode cL_law 329 = .ok (.iconst 5, 1) := by decide +kernel
theorem dL_law_330 : decode cL_law 330 = .ok (.irem, 1) := by decide +kernel
theorem dL_law_331 : decode cL_law 331 = .ok (.ifCond .le 25, 3) := by decide +kernel
theorem dL_law_334 : decode cL_law 334 = .ok (.iinc 4 1, 3) := by decide +kernel
theorem dL_law_337 : decode cL_law 337 = .ok (.aload_n 1, 1) := by decide +kernel
theorem dL_law_338 : decode cL_law 338 = .ok (.iload 10, 2) := by decide +kernel
theorem dL_law_340 : decode cL_law 340 = .ok (.iconst 5, 1) := by decide +kernel
theorem dL_law_341 : decode cL_law 341 = .ok (.idiv, 1) := by decide +kernel
theorem dL_law_342 : decode cL_law 342 = .ok (.ldc 17, 2) := by decide +kernel
theorem dL_law_344 : decode cL_law 344 = .ok (.irem, 1) := by decide +kernel
theorem dL_law_345 : decode cL_law 345 = .ok (.ldc 108, 2) := by decide +kernel
theorem dL_law_347 : decode cL_law 347 = .ok (.isub, 1) := by decide +kernel
theorem dL_law_348 : decode cL_law 348 = .ok (.invokevirtual 109, 3) := by decide +kernel
theorem dL_law_351 : decode cL_law 351 = .ok (.istore 13, 2) := by decide +kernel
theorem dL_law_353 : decode cL_law 353 = .ok (.goto 44, 3) := by decide +kernel
theorem dL_law_356 : decode cL_law 356 = .ok (.iload 5, 2) := by decide +kernel
theorem dL_law_358 : decode cL_law 358 = .ok (.ifCond .ne 39, 3) := by decide +kernel
theorem dL_law_361 : decode cL_law 361 = .ok (.iload 10, 2) := by decide +kernel
theorem dL_law_363 : decode cL_law 363 = .ok (.iconst 3, 1) := by decide +kernel
theorem dL_law_364 : decode cL_law 364 = .ok (.irem, 1) := by decide +kernel
theorem dL_law_365 : decode cL_law 365 = .ok (.ifCond .ne 32, 3) := by decide +kernel
theorem dL_law_368 : decode cL_law 368 = .ok (.iconst 1, 1) := by decide +kernel
theorem dL_law_369 : decode cL_law 369 = .ok (.istore 5, 2) := by decide +kernel
theorem dL_law_371 : decode cL_law 371 = .ok (.aload_n 1, 1) := by decide +kernel
theorem dL_law_372 : decode cL_law 372 = .ok (.invokevirtual 112, 3) := by decide +kernel
theorem dL_law_375 : decode cL_law 375 = .ok (.istore 13, 2) := by decide +kernel
theorem dL_law_377 : decode cL_law 377 = .ok (.aload_n 1, 1) := by decide +kernel
theorem dL_law_378 : decode cL_law 378 = .ok (.iconst 3, 1) := by decide +kernel
theorem dL_law_379 : decode cL_law 379 = .ok (.invokevirtual 115, 3) := by decide +kernel
theorem dL_law_382 : decode cL_law 382 = .ok (.ifCond .ne 9, 3) := by decide +kernel
theorem dL_law_385 : decode cL_law 385 = .ok (.iload 4, 2) := by decide +kernel
theorem dL_law_387 : decode cL_law 387 = .ok (.iconst 4, 1) := by decide +kernel
theorem dL_law_388 : decode cL_law 388 = .ok (.if_icmp .ne 7, 3) := by decide +kernel
theorem dL_law_391 : decode cL_law 391 = .ok (.iconst 1, 1) := by decide +kernel
theorem dL_law_392 : decode cL_law 392 = .ok (.goto 4, 3) := by decide +kernel
theorem dL_law_395 : decode cL_law 395 = .ok (.iconst 0, 1) := by decide +kernel
theorem dL_law_396 : decode cL_law 396 = .ok (.istore_n 2, 1) := by decide +kernel
theorem dL_law_397 : decode cL_law 397 = .ok (.iload_n 2, 1) := by decide +kernel
theorem dL_law_398 : decode cL_law 398 = .ok (.ifCond .eq 24, 3) := by decide +kernel
theorem dL_law_401 : decode cL_law 401 = .ok (.iload 13, 2) := by decide +kernel
theorem dL_law_403 : decode cL_law 403 = .ok (.ifCond .lt 19, 3) := by decide +kernel
theorem dL_law_406 : decode cL_law 406 = .ok (.aload_n 1, 1) := by decide +kernel
theorem dL_law_407 : decode cL_law 407 = .ok (.invokevirtual 85, 3) := by decide +kernel
theorem dL_law_410 : decode cL_law 410 = .ok (.iload 12, 2) := by decide +kernel
theorem dL_law_412 : decode cL_law 412 = .ok (.iload 13, 2) := by decide +kernel
theorem dL_law_414 : decode cL_law 414 = .ok (.iadd, 1) := by decide +kernel
theorem dL_law_415 : decode cL_law 415 = .ok (.if_icmp .ne 7, 3) := by decide +kernel
theorem dL_law_418 : decode cL_law 418 = .ok (.iconst 1, 1) := by decide +kernel
theorem dL_law_419 : decode cL_law 419 = .ok (.goto 4, 3) := by decide +kernel
theorem dL_law_422 : decode cL_law 422 = .ok (.iconst 0, 1) := by decide +kernel
theorem dL_law_423 : decode cL_law 423 = .ok (.istore_n 2, 1) := by decide +kernel
theorem dL_law_424 : decode cL_law 424 = .ok (.goto 57, 3) := by decide +kernel
theorem dL_law_427 : decode cL_law 427 = .ok (.iload 9, 2) := by decide +kernel
theorem dL_law_429 : decode cL_law 429 = .ok (.bipush 8, 2) := by decide +kernel
theorem dL_law_431 : decode cL_law 431 = .ok (.irem, 1) := by decide +kernel
theorem dL_law_432 : decode cL_law 432 = .ok (.iconst 5, 1) := by decide +kernel
theorem dL_law_433 : decode cL_law 433 = .ok (.if_icmp .ge 48, 3) := by decide +kernel
theorem dL_law_436 : decode cL_law 436 = .ok (.aload_n 1, 1) := by decide +kernel
theorem dL_law_437 : decode cL_law 437 = .ok (.invokevirtual 43, 3) := by decide +kernel
theorem dL_law_440 : decode cL_law 440 = .ok (.ifCond .ne 7, 3) := by decide +kernel
theorem dL_law_443 : decode cL_law 443 = .ok (.iconst 0, 1) := by decide +kernel
theorem dL_law_444 : decode cL_law 444 = .ok (.goto 10, 3) := by decide +kernel
theorem dL_law_447 : decode cL_law 447 = .ok (.iload 10, 2) := by decide +kernel
theorem dL_law_449 : decode cL_law 449 = .ok (.aload_n 1, 1) := by decide +kernel
theorem dL_law_450 : decode cL_law 450 = .ok (.invokevirtual 43, 3) := by decide +kernel
theorem dL_law_453 : decode cL_law 453 = .ok (.irem, 1) := by decide +kernel
theorem dL_law_454 : decode cL_law 454 = .ok (.istore 12, 2) := by decide +kernel
theorem dL_law_456 : decode cL_law 456 = .ok (.aload_n 1, 1) := by decide +kernel
theorem dL_law_457 : decode cL_law 457 = .ok (.iload 9, 2) := by decide +kernel
theorem dL_law_459 : decode cL_law 459 = .ok (.iload 10, 2) := by decide +kernel
theorem dL_law_461 : decode cL_law 461 = .ok (.aload_n 0, 1) := by decide +kernel
theorem dL_law_462 : decode cL_law 462 = .ok (.iload 8, 2) := by decide +kernel
theorem dL_law_464 : decode cL_law 464 = .ok (.iconst 5, 1) := by decide +kernel
theorem dL_law_465 : decode cL_law 465 = .ok (.iadd, 1) := by decide +kernel
theorem dL_law_466 : decode cL_law 466 = .ok (.invokestatic 9, 3) := by decide +kernel
theorem dL_law_469 : decode cL_law 469 = .ok (.aload 7, 2) := by decide +kernel
theorem dL_law_471 : decode cL_law 471 = .ok (.iload 12, 2) := by decide +kernel
theorem dL_law_473 : decode cL_law 473 = .ok (.iaload, 1) := by decide +kernel
theorem dL_law_474 : decode cL_law 474 = .ok (.iconst 1, 1) := by decide +kernel
theorem dL_law_475 : decode cL_law 475 = .ok (.iadd, 1) := by decide +kernel
theorem dL_law_476 : decode cL_law 476 = .ok (.irem, 1) := by decide +kernel
theorem dL_law_477 : decode cL_law 477 = .ok (.invokestatic 119, 3) := by decide +kernel
theorem dL_law_480 : decode cL_law 480 = .ok (.istore_n 2, 1) := by decide +kernel
theorem dL_law_481 : decode cL_law 481 = .ok (.iload_n 2, 1) := by decide +kernel
theorem dL_law_482 : decode cL_law 482 = .ok (.ifCond .eq 14, 3) := by decide +kernel
theorem dL_law_485 : decode cL_law 485 = .ok (.aload_n 1, 1) := by decide +kernel
theorem dL_law_486 : decode cL_law 486 = .ok (.invokestatic 101, 3) := by decide +kernel
theorem dL_law_489 : decode cL_law 489 = .ok (.ifCond .eq 7, 3) := by decide +kernel
theorem dL_law_492 : decode cL_law 492 = .ok (.iconst 1, 1) := by decide +kernel
theorem dL_law_493 : decode cL_law 493 = .ok (.goto 4, 3) := by decide +kernel
theorem dL_law_496 : decode cL_law 496 = .ok (.iconst 0, 1) := by decide +kernel
theorem dL_law_497 : decode cL_law 497 = .ok (.istore_n 2, 1) := by decide +kernel
theorem dL_law_498 : decode cL_law 498 = .ok (.iinc 8 1, 3) := by decide +kernel
theorem dL_law_501 : decode cL_law 501 = .ok (.goto (-342), 3) := by decide +kernel
theorem dL_law_504 : decode cL_law 504 = .ok (.iload_n 2, 1) := by decide +kernel
theorem dL_law_505 : decode cL_law 505 = .ok (.ireturn, 1) := by decide +kernel
end
section
/-! two worlds side by side -/
theorem pg_PL {D : va_G} {X Y : va_W} {H : Heap} (h : va_P D vwCl (X ++ Y) H) : va_P D vwCl X H := fun k q hk => h k q (by rw [List.getElem?_append_left (List.getElem?_eq_some_iff.mp hk).1]; exact hk)
theorem pg_PR {D : va_G} {X Y : va_W} {H : Heap} (h : va_P D vwCl (X ++ Y) H) : va_P D vwCl Y H := fun k q hk => h (X.length + k) q (by rw [List.getElem?_append_right (Nat.le_add_right _ _), Nat.add_sub_cancel_left]; exact hk)
theorem pg_DL {A : Nat → Prop} {X Y : va_W} (h : va_D A (X ++ Y)) : va_D A X := by
  have key : ∀ (k : Nat) (q : Nat × va_E), X[k]? = some q → (X ++ Y)[k]? = some q := fun k q hk => by rw [List.getElem?_append_left (List.getElem?_eq_some_iff.mp hk).1]; exact hk
  exact ⟨fun i j p q hi hj e => h.1 i j p q (key i p hi) (key j q hj) e, fun k q hk => h.2 k q (key k q hk)⟩
theorem pg_DR {A : Nat → Prop} {X Y : va_W} (h : va_D A (X ++ Y)) : va_D A Y := by
  have key : ∀ (k : Nat) (q : Nat × va_E), Y[k]? = some q → (X ++ Y)[X.length + k]? = some q := fun k q hk => by rw [List.getElem?_append_right (Nat.le_add_right _ _), Nat.add_sub_cancel_left]; exact hk
  exact ⟨fun i j p q hi hj e => by have := h.1 _ _ p q (key i p hi) (key j q hj) e; omega, fun k q hk => h.2 _ q (key k q hk)⟩
theorem pg_apart {A : Nat → Prop} {X Y : va_W} (h : va_D A (X ++ Y)) {i j : Nat} {p q : Nat × va_E} (hi : X[i]? = some p) (hj : Y[j]? = some q) : p.1 ≠ q.1 := fun e => by
  have hl := (List.getElem?_eq_some_iff.mp hi).1
  have := h.1 i (X.length + j) p q (by rw [List.getElem?_append_left hl]; exact hi) (by rw [List.getElem?_append_right (Nat.le_add_right _ _), Nat.add_sub_cancel_left]; exact hj) e
  omega
/-- behind a call over the first of two worlds -/
theorem pg_fL {A : Nat → Prop} {D : va_G} {X Y w1 : va_W} {H H1 : Heap} (hP : va_P D vwCl (X ++ Y) H) (hD : va_D A (X ++ Y)) (hk : ∀ q : Nat, q < H.size → ¬ va_A X H.size q → H1[q]? = H[q]?) (hF : ∀ q, va_A X H.size q → A q) (hP1 : va_P D vwCl w1 H1) (hD1 : va_D (va_A X H.size) w1) : va_P D vwCl (w1 ++ Y) H1 ∧ va_D A (w1 ++ Y) := by
  have hY := pg_PR hP
  have apart : ∀ (k : Nat) (q : Nat × va_E), Y[k]? = some q → q.1 < H.size ∧ ¬ va_A X H.size q.1 := by
    intro k q hq
    have hl := (hY k q hq).lt
    refine ⟨hl, fun h => ?_⟩
    rcases h with ⟨k2, e, h⟩ | h
    · exact pg_apart hD h hq rfl
    · exact absurd h (Nat.not_le.mpr hl)
  refine ⟨hP1.app (fun k q hq => ?_), va_D.app (hD1.weaken (fun k q _ h => hF q.1 h)) (pg_DR hD) (fun i j x y hx hy e => ?_)⟩
  · obtain ⟨g1, g2⟩ := apart k q hq
    exact (hY k q hq).kept (hk q.1 g1 g2)
  · exact (apart j y hy).2 (by rw [← e]; exact hD1.2 i x hx)
/-- .. over the second -/
theorem pg_fR {A : Nat → Prop} {D : va_G} {X Y w1 : va_W} {H H1 : Heap} (hP : va_P D vwCl (X ++ Y) H) (hD : va_D A (X ++ Y)) (hk : ∀ q : Nat, q < H.size → ¬ va_A Y H.size q → H1[q]? = H[q]?) (hF : ∀ q, va_A Y H.size q → A q) (hP1 : va_P D vwCl w1 H1) (hD1 : va_D (va_A Y H.size) w1) : va_P D vwCl (X ++ w1) H1 ∧ va_D A (X ++ w1) := by
  have hX := pg_PL hP
  have apart : ∀ (k : Nat) (q : Nat × va_E), X[k]? = some q → q.1 < H.size ∧ ¬ va_A Y H.size q.1 := by
    intro k q hq
    have hl := (hX k q hq).lt
    refine ⟨hl, fun h => ?_⟩
    rcases h with ⟨k2, e, h⟩ | h
    · exact pg_apart hD hq h rfl
    · exact absurd h (Nat.not_le.mpr hl)
  refine ⟨va_P.app (fun k q hq => ?_) hP1, va_D.app (pg_DL hD) (hD1.weaken (fun k q _ h => hF q.1 h)) (fun i j x y hx hy e => ?_)⟩
  · obtain ⟨g1, g2⟩ := apart k q hq
    exact (hX k q hq).kept (hk q.1 g1 g2)
  · exact (apart i x hx).2 (by rw [e]; exact hD1.2 j y hy)
/-- the body of a method with a table, that returns -/
theorem pg_ofWH {l : Launch} {y : MethodName} {ws ws' : List Cond} {rm : Room} {Pc : Array Value → State → Prop} {Qc : Array Value → State → Outcome → State → Prop} {mc ms : Nat} {free : Addr → Prop} {cc : ByteArray} {maxL : Nat} {ret : Option FieldType} {hh : List (Nat × Nat × Nat × Nat)}
    (hy : plainName y.cls = true) (hw : ws = Cond.codeWith y cc maxL ret hh :: ws')
    (body : ∀ p e s m args below meth c s₁, BodyLoose p l y (headSpec ws rm) cc maxL ret e s m args below meth c s₁ → c.maxLocals = maxL → Pc args s →
      W p l e (headSpec ws rm).room s m args below meth c s.heap [] 0 0 (MQ below Qc args s mc ms free) (entryFrame m args maxL)) : Met l y ws rm Pc Qc mc ms free := by
  refine MetFree.of_bodyS (code := cc) (maxLocals := maxL) (ret := ret) hy ?_ ?_
  · intro args s m h hn
    obtain ⟨m9, meth, c, hn9, h1, h2, h3, h4, -, h5, h6, -⟩ := Cond.codeWith_spec (atoms_spec (ws := ws) h _ (by rw [hw]; exact List.mem_cons_self))
    cases hn.symm.trans hn9
    exact ⟨meth, c, h1, h2, h3, h4, h5, h6⟩
  · intro p e s m args below meth c s₁ B hml hP _
    have hh0 : s₁.heap = s.heap := by rw [B.state]; rfl
    obtain ⟨t, a1, o, b1, b2, b3⟩ := body p e s m args below meth c s₁ B hml hP s₁ hh0 (Stand.of_body B)
    exact ⟨t, o, a1, b1, b2, b3⟩
section PGL
variable {p : Program} {l : Launch} {e : Env} {R : Room} {s : State} {m : MethodId} {args : Array Value} {below : List Frame} {meth : Method} {c : Code} {H : Heap} {locs : List Loc} {cells slots : Nat} {Q : State → Prop}
variable {D : va_G} {tys : List (ClassId × FieldType)} {X Y : va_W} {A : Nat → Prop} {H0 : Heap} {pc mc ms : Nat} {ls : Array Slot} {nm : String} {rest st0 : List Value}
/-- calls over the first of two worlds -/
theorem pg_iL {S : Type} {F : Int32} {G : S} {w : S → va_W} {a : Array Value} (hr : va_Run p l e R s m args below meth c H locs cells slots mc ms (F0 m pc ls st0) rest (va_Qi (fun r u => r = F ∧ u = G) (pg_E D tys (va_A X H.size) w) (va_A X H.size) a) (va_A X H.size)) (hP : va_P D vwCl (X ++ Y) H) (hD : va_D A (X ++ Y)) (hS : va_S A H0 H locs) (hA : ∀ q, H0.size ≤ q → A q)
    (kk : ∀ (H : Heap) (locs : List Loc), va_P D vwCl (w G ++ Y) H → va_D A (w G ++ Y) → va_S A H0 H locs → W p l e R s m args below meth c H locs (cells + mc) (slots + ms) Q (F0 m (pc + 3) ls (.int F :: rest))) : W p l e R s m args below meth c H locs cells slots Q (F0 m pc ls st0) := by
  have hu := pg_up (pg_DL hD) hS hA
  refine va_calli hr hS (fun q _ h => hu q h) hu (fun r u t H1 locs1 ht hvm hw hB hz1 hk1 hS1 => ?_)
  obtain ⟨hP1, hK1, hD1⟩ := hB
  rw [ht] at hP1
  obtain ⟨h1, h2⟩ := hw
  rw [h2] at hP1 hD1
  rw [h1]
  obtain ⟨hP2, hD2⟩ := pg_fL hP hD hk1 hu hP1 hD1
  exact kk H1 locs1 hP2 hD2 hS1
theorem pg_vL {S : Type} {G : S} {w : S → va_W} {a : Array Value} (hr : va_Run p l e R s m args below meth c H locs cells slots mc ms (F0 m pc ls st0) rest (va_Qv (fun u => u = G) (pg_E D tys (va_A X H.size) w) (va_A X H.size) a) (va_A X H.size)) (hP : va_P D vwCl (X ++ Y) H) (hD : va_D A (X ++ Y)) (hS : va_S A H0 H locs) (hA : ∀ q, H0.size ≤ q → A q)
    (kk : ∀ (H : Heap) (locs : List Loc), va_P D vwCl (w G ++ Y) H → va_D A (w G ++ Y) → va_S A H0 H locs → W p l e R s m args below meth c H locs (cells + mc) (slots + ms) Q (F0 m (pc + 3) ls rest)) : W p l e R s m args below meth c H locs cells slots Q (F0 m pc ls st0) := by
  have hu := pg_up (pg_DL hD) hS hA
  refine va_callv hr hS (fun q _ h => hu q h) hu (fun u t H1 locs1 ht hvm hw hB hz1 hk1 hS1 => ?_)
  obtain ⟨hP1, hK1, hD1⟩ := hB
  rw [ht] at hP1
  rw [show u = G from hw] at hP1 hD1
  obtain ⟨hP2, hD2⟩ := pg_fL hP hD hk1 hu hP1 hD1
  exact kk H1 locs1 hP2 hD2 hS1
/-- .. over the second -/
theorem pg_iR {S : Type} {F : Int32} {G : S} {w : S → va_W} {a : Array Value} (hr : va_Run p l e R s m args below meth c H locs cells slots mc ms (F0 m pc ls st0) rest (va_Qi (fun r u => r = F ∧ u = G) (pg_E D tys (va_A Y H.size) w) (va_A Y H.size) a) (va_A Y H.size)) (hP : va_P D vwCl (X ++ Y) H) (hD : va_D A (X ++ Y)) (hS : va_S A H0 H locs) (hA : ∀ q, H0.size ≤ q → A q)
    (kk : ∀ (H : Heap) (locs : List Loc), va_P D vwCl (X ++ w G) H → va_D A (X ++ w G) → va_S A H0 H locs → W p l e R s m args below meth c H locs (cells + mc) (slots + ms) Q (F0 m (pc + 3) ls (.int F :: rest))) : W p l e R s m args below meth c H locs cells slots Q (F0 m pc ls st0) := by
  have hu := pg_up (pg_DR hD) hS hA
  refine va_calli hr hS (fun q _ h => hu q h) hu (fun r u t H1 locs1 ht hvm hw hB hz1 hk1 hS1 => ?_)
  obtain ⟨hP1, hK1, hD1⟩ := hB
  rw [ht] at hP1
  obtain ⟨h1, h2⟩ := hw
  rw [h2] at hP1 hD1
  rw [h1]
  obtain ⟨hP2, hD2⟩ := pg_fR hP hD hk1 hu hP1 hD1
  exact kk H1 locs1 hP2 hD2 hS1
theorem pg_vR {S : Type} {G : S} {w : S → va_W} {a : Array Value} (hr : va_Run p l e R s m args below meth c H locs cells slots mc ms (F0 m pc ls st0) rest (va_Qv (fun u => u = G) (pg_E D tys (va_A Y H.size) w) (va_A Y H.size) a) (va_A Y H.size)) (hP : va_P D vwCl (X ++ Y) H) (hD : va_D A (X ++ Y)) (hS : va_S A H0 H locs) (hA : ∀ q, H0.size ≤ q → A q)
    (kk : ∀ (H : Heap) (locs : List Loc), va_P D vwCl (X ++ w G) H → va_D A (X ++ w G) → va_S A H0 H locs → W p l e R s m args below meth c H locs (cells + mc) (slots + ms) Q (F0 m (pc + 3) ls rest)) : W p l e R s m args below meth c H locs cells slots Q (F0 m pc ls st0) := by
  have hu := pg_up (pg_DR hD) hS hA
  refine va_callv hr hS (fun q _ h => hu q h) hu (fun u t H1 locs1 ht hvm hw hB hz1 hk1 hS1 => ?_)
  obtain ⟨hP1, hK1, hD1⟩ := hB
  rw [ht] at hP1
  rw [show u = G from hw] at hP1 hD1
  obtain ⟨hP2, hD2⟩ := pg_fR hP hD hk1 hu hP1 hD1
  exact kk H1 locs1 hP2 hD2 hS1
/-- a constructor's call over the second of two worlds: what it makes has names of its own -/
theorem pg_nR {S : Type} {post : S → Prop} {w : S → va_W} {a : Array Value} (hr : va_Run p l e R s m args below meth c H locs cells slots mc ms (F0 m pc ls st0) rest (va_Qv post (pg_E D tys (va_A Y H.size) w) (va_A Y H.size) a) (va_A Y H.size)) (hP : va_P D vwCl (X ++ Y) H) (hD : va_D A (X ++ Y)) (hS : va_S A H0 H locs) (hA : ∀ q, H0.size ≤ q → A q)
    (kk : ∀ (u : S) (H : Heap) (locs : List Loc), post u → va_P D vwCl (X ++ w u) H → va_D A (X ++ w u) → va_S A H0 H locs → W p l e R s m args below meth c H locs (cells + mc) (slots + ms) Q (F0 m (pc + 3) ls rest)) : W p l e R s m args below meth c H locs cells slots Q (F0 m pc ls st0) := by
  have hu := pg_up (pg_DR hD) hS hA
  refine va_callv hr hS (fun q _ h => hu q h) hu (fun u t H1 locs1 ht hvm hw hB hz1 hk1 hS1 => ?_)
  obtain ⟨hP1, hK1, hD1⟩ := hB
  rw [ht] at hP1
  obtain ⟨hP2, hD2⟩ := pg_fR hP hD hk1 hu hP1 hD1
  exact kk u H1 locs1 hw hP2 hD2 hS1
/-- a throw out of a call over the first of two worlds, caught here -/
theorem pg_catL {a : Array Value} (hr : vx_Run p l e R s m args below meth c H locs cells slots mc ms (F0 m pc ls st0) rest (pg_No a) (pg_X D X (va_A X H.size) nm) (va_A X H.size)) (hP : va_P D vwCl (X ++ Y) H) (hD : va_D A (X ++ Y)) (hS : va_S A H0 H locs) (hA : ∀ q, H0.size ≤ q → A q)
    (kx : ∀ (ce : Cell) (q9 : Addr) (H : Heap) (locs : List Loc), va_P D vwCl (X ++ Y) H → va_S A H0 H locs → H[q9]? = some ce → ce.vm = .none → s.vm.findClass nm = some ce.cls → vx_W p l e R s m args below meth c H locs (cells + mc) (slots + ms) Q (F0 m pc ls rest) q9) : W p l e R s m args below meth c H locs cells slots Q (F0 m pc ls st0) := by
  intro T hT Z
  have hu := pg_up (pg_DL hD) hS hA
  rcases hr T hT Z with ⟨v, st₀, t, T', L, h0, X', hL, e1, e2, hq, st⟩ | ⟨q, st₀, t, T', L, E, ce, h0, X', hL, e1, e2, ⟨hnm, hP1, hF⟩, hce, hcv, hcl, st⟩
  · exact hq.elim
  · subst hnm
    obtain ⟨k1, k2, k3⟩ := vx_keep (A1 := va_A X H.size) h0 e1 hS (fun q _ h => hu q h) hu hL hF
    have hP2 : va_P D vwCl (X ++ Y) T'.heap := by
      refine va_P.app (by rw [e1]; exact hP1) (fun k q hk => ?_)
      have hl := (pg_PR hP k q hk).lt
      refine (pg_PR hP k q hk).kept (k2 q.1 hl (fun h => ?_))
      rcases h with ⟨k3, e3, h⟩ | h
      · exact pg_apart hD h hk rfl
      · exact absurd h (Nat.not_le.mpr hl)
    obtain ⟨t2, a1, b1⟩ := kx ce q T'.heap (locs ++ L) hP2 k3 (by rw [e1]; exact hce) hcv hcl T' rfl X'
    exact ⟨t2, st.trans a1, b1⟩
end PGL
/-! new rows -/
theorem pg_oneI {D : va_G} {cl : List vw_C} {tys : List (ClassId × FieldType)} {U : State} {i j : Nat} {c1 c2 : ClassId} (hK : va_K D cl tys U) (h1 : tys[i]? = some (c1, .int)) (h2 : tys[j]? = some (c2, .int)) : c1 = c2 := by
  have e1 : U.vm.findClass _ = some c1 := (hK.2 i _ h1).2
  have e2 : U.vm.findClass _ = some c2 := (hK.2 j _ h2).2
  exact Option.some.inj (e1.symm.trans e2)
theorem pg_oneZ {D : va_G} {cl : List vw_C} {tys : List (ClassId × FieldType)} {U : State} {i j : Nat} {c1 c2 : ClassId} (hK : va_K D cl tys U) (h1 : tys[i]? = some (c1, .boolean)) (h2 : tys[j]? = some (c2, .boolean)) : c1 = c2 := by
  have e1 : U.vm.findClass _ = some c1 := (hK.2 i _ h1).2
  have e2 : U.vm.findClass _ = some c2 := (hK.2 j _ h2).2
  exact Option.some.inj (e1.symm.trans e2)
section PGN
variable {p : Program} {l : Launch} {e : Env} {R : Room} {s : State} {m : MethodId} {args : Array Value} {below : List Frame} {meth : Method} {c : Code} {H : Heap} {locs : List Loc} {cells slots : Nat} {Q : State → Prop}
variable {cc : ByteArray} {pc : Nat} {ls : Array Slot} {rest : List Value} {D : va_G} {A : Nat → Prop} {ws : va_W} {H0 : Heap} {cI cZ : ClassId}
theorem pg_newi (hexec : p.tables.exec = Jvm.exec) (hb : c.code = cc) (harr : (Cond.arrayClass .int).before args s = true) (hK : va_K D vwCl (pg_ty cI cZ) s) (hP : va_P D vwCl ws H) (hD : va_D A ws) (hS : va_S A H0 H locs) (hA : ∀ q, H0.size ≤ q → A q)
    {n : Int32} (N : Nat) (hn : ¬ n < 0) (hN : n.toNatClampNeg = N) (hbytes : N * componentBytes .int ≤ 536870912) (hcells : cells + 1 ≤ R.cells) (hslots : slots + N ≤ R.slots) (hdg : decode cc pc = .ok (.newarray .int, 2))
    (kk : ∀ (q : Nat) (H : Heap), va_P D vwCl (ws ++ [(q, .inl (cI, N, .inl (fun _ => 0)))]) H → va_D A (ws ++ [(q, .inl (cI, N, .inl (fun _ => 0)))]) → va_S A H0 H locs →
      W p l e R s m args below meth c H locs (cells + 1) (slots + N) Q (F0 m (pc + 2) ls (.ref q :: rest))) : W p l e R s m args below meth c H locs cells slots Q (F0 m pc ls (.int n :: rest)) := by
  refine va_newa (atype := .int) (ty := .int) (a0 := (N, .inl (fun _ => 0))) hexec hb harr rfl hK hP hD hS hA (fun _ => rfl) hn hN hbytes hcells hslots hdg (fun q cA H1 hK1 hP1 hD1 hS1 => ?_)
  have e := pg_oneI hK1 (i := 2) (j := 0) rfl rfl
  subst e
  exact kk q H1 hP1 hD1 hS1
theorem pg_newz (hexec : p.tables.exec = Jvm.exec) (hb : c.code = cc) (harr : (Cond.arrayClass .boolean).before args s = true) (hK : va_K D vwCl (pg_ty cI cZ) s) (hP : va_P D vwCl ws H) (hD : va_D A ws) (hS : va_S A H0 H locs) (hA : ∀ q, H0.size ≤ q → A q)
    {n : Int32} (N : Nat) (hn : ¬ n < 0) (hN : n.toNatClampNeg = N) (hbytes : N * componentBytes .boolean ≤ 536870912) (hcells : cells + 1 ≤ R.cells) (hslots : slots + N ≤ R.slots) (hdg : decode cc pc = .ok (.newarray .boolean, 2))
    (kk : ∀ (q : Nat) (H : Heap), va_P D vwCl (ws ++ [(q, .inl (cZ, N, .inl (fun _ => 0)))]) H → va_D A (ws ++ [(q, .inl (cZ, N, .inl (fun _ => 0)))]) → va_S A H0 H locs →
      W p l e R s m args below meth c H locs (cells + 1) (slots + N) Q (F0 m (pc + 2) ls (.ref q :: rest))) : W p l e R s m args below meth c H locs cells slots Q (F0 m pc ls (.int n :: rest)) := by
  refine va_newa (atype := .boolean) (ty := .boolean) (a0 := (N, .inl (fun _ => 0))) hexec hb harr rfl hK hP hD hS hA (fun _ => rfl) hn hN hbytes hcells hslots hdg (fun q cA H1 hK1 hP1 hD1 hS1 => ?_)
  have e := pg_oneZ hK1 (i := 2) (j := 1) rfl rfl
  subst e
  exact kk q H1 hP1 hD1 hS1
end PGN
end
section
set_option maxHeartbeats 4000000 in
set_option maxRecDepth 100000 in
theorem cn_X2 (l : Launch) (D : va_G) (cI cZ : ClassId) (h0 sz : Nat) : Met l yX2_init wsX2_init ({ frames := 1, cells := 2, slots := 8, locals := 12 }) (va_Pc [.ref h0] (pg_B D (pg_ty cI cZ) [(h0, .inr (2, [.null, .null]))] sz)) (va_Qv (fun _ : Nat → Nat => True) (pg_E D (pg_ty cI cZ) (va_A [(h0, .inr (2, [.null, .null]))] sz) (fun b => [(h0, .inr (2, [.ref (b 0), .ref (b 1)])), (b 0, .inl (cI, 4, .inl (fun _ => 0))), (b 1, .inl (cI, 4, .inl (fun _ => 0)))])) (va_A [(h0, .inr (2, [.null, .null]))] sz)) 2 8 (va_A [(h0, .inr (2, [.null, .null]))] sz) := by
  refine Met.ofW (cc := cX2_init) (maxL := 1) (ret := none) (by decide) rfl ?_
  intro p e s m args below meth c s₁ B hml hv
  obtain ⟨rfl, hsz, hP, hK, hD0⟩ := hv
  have hx := B.exec
  have hb := B.bytes
  have hr := B.returns
  have hts := atoms_spec (ws := wsX2_init) B.pre
  have hown : s.vm.findClass RX2 = some m.cls := findClass_of_methodNamed B.named
  have hlocks := B.notSynchronized
  have hin : meth.name = "<init>" := (name_of_methodNamed B.named B.method).1
  subst hsz
  have hD := hD0.self (sz := s.heap.size)
  generalize hAe : va_A [(h0, .inr (2, [.null, .null]))] s.heap.size = A at hD ⊢
  have hA : ∀ q : Nat, s.heap.size ≤ q → A q := fun q h => by rw [← hAe]; exact Or.inr h
  have hS : va_S A s.heap s.heap [] := va_S.rf
  have hl := lv_entry ([.ref h0]) (n := 1) (Nat.le_of_ble_eq_true rfl)
  rw [lg_entry_eq]
  generalize (lg_sl ([.ref h0]) ++ List.replicate (1 - (lg_sl ([.ref h0])).length) Slot.unset).toArray = ls at hl ⊢
  have hl : lv_has ls 1 [(0, .ref h0)] := hl
  have hiX2 : ∀ w ∈ wsX20, w ∈ wsX2_init := fun _ h => List.mem_cons_of_mem _ (List.mem_append_right _ (h))
  have hw1 := hts (.methodLink RX2 3 objectInit) (List.mem_of_getElem? (i := 1) rfl)
  have hw2 := hts (.instanceMethod objectInit) (List.mem_of_getElem? (i := 2) rfl)
  have hw3 := hts (.code objectInit ⟨#[0xb1]⟩ 1 none) (List.mem_of_getElem? (i := 3) rfl)
  have hw4 := hts (.arrayClass .int) (List.mem_of_getElem? (i := 4) rfl)
  have hw5 := hts (.fieldLink RX2 9 "PegBox$Escrow" "amounts" "[I") (List.mem_of_getElem? (i := 5) rfl)
  have hw6 := hts (.fieldLink RX2 15 "PegBox$Escrow" "days" "[I") (List.mem_of_getElem? (i := 6) rfl)
  refine lv_aload_n hx hb dX2_init_0 rfl (lv_at hl 0 rfl) ?_
  refine W.objInit hx hb hown hw1 hw2 hw3 rfl (by rw [hml]; exact hl.1) rfl dX2_init_1 (Nat.le_of_ble_eq_true rfl) (Nat.le_of_ble_eq_true rfl) ?_
  refine W.eq (g2 := F0 m 4 ls []) rfl ?_
  refine lv_aload_n hx hb dX2_init_4 rfl (lv_at hl 0 rfl) ?_
  refine lv_iconst (v := 4) hx hb dX2_init_5 (by decide) ?_
  refine pg_newi hx hb hw4 hK hP hD hS hA 4 (by decide) (by decide) (Nat.le_of_ble_eq_true rfl) (Nat.le_of_ble_eq_true rfl) (Nat.le_of_ble_eq_true rfl) dX2_init_6 (fun q6 H hP hD hS => ?_)
  refine W.widen (k := 1) (n := 4) (Nat.le_of_ble_eq_true rfl) (Nat.le_of_ble_eq_true rfl) ?_
  have hP : va_P D vwCl [(h0, .inr (2, [.null, .null])), (q6, .inl (cI, 4, .inl (fun _ => 0)))] H := hP
  have hD : va_D A [(h0, .inr (2, [.null, .null])), (q6, .inl (cI, 4, .inl (fun _ => 0)))] := hD
  refine va_putF (D := D) (ci := 2) (v := .ref q6) (ty := .array .int) (C := RX2) (T := TX2) (N := 2) hx hb hts hiX2 tyX2 tyX2_ok nmX2 hown hK hP hD hS 0 rfl rfl 0 (by decide) hw5 (fun _ h9 => h9) rfl hin rfl (by decide +kernel) rfl rfl (Nat.le_of_ble_eq_true rfl) dX2_init_8 (fun H locs hP hD hS => ?_)
  have hP : va_P D vwCl [(h0, .inr (2, [.ref q6, .null])), (q6, .inl (cI, 4, .inl (fun _ => 0)))] H := hP
  have hD : va_D A [(h0, .inr (2, [.ref q6, .null])), (q6, .inl (cI, 4, .inl (fun _ => 0)))] := hD
  refine lv_aload_n hx hb dX2_init_11 rfl (lv_at hl 0 rfl) ?_
  refine lv_iconst (v := 4) hx hb dX2_init_12 (by decide) ?_
  refine pg_newi hx hb hw4 hK hP hD hS hA 4 (by decide) (by decide) (Nat.le_of_ble_eq_true rfl) (Nat.le_of_ble_eq_true rfl) (Nat.le_of_ble_eq_true rfl) dX2_init_13 (fun q13 H hP hD hS => ?_)
  refine W.widen (k := 2) (n := 8) (Nat.le_of_ble_eq_true rfl) (Nat.le_of_ble_eq_true rfl) ?_
  have hP : va_P D vwCl [(h0, .inr (2, [.ref q6, .null])), (q6, .inl (cI, 4, .inl (fun _ => 0))), (q13, .inl (cI, 4, .inl (fun _ => 0)))] H := hP
  have hD : va_D A [(h0, .inr (2, [.ref q6, .null])), (q6, .inl (cI, 4, .inl (fun _ => 0))), (q13, .inl (cI, 4, .inl (fun _ => 0)))] := hD
  refine va_putF (D := D) (ci := 2) (v := .ref q13) (ty := .array .int) (C := RX2) (T := TX2) (N := 2) hx hb hts hiX2 tyX2 tyX2_ok nmX2 hown hK hP hD hS 0 rfl rfl 1 (by decide) hw6 (fun _ h9 => h9) rfl hin rfl (by decide +kernel) rfl rfl (Nat.le_of_ble_eq_true rfl) dX2_init_15 (fun H locs hP hD hS => ?_)
  have hP : va_P D vwCl [(h0, .inr (2, [.ref q6, .ref q13])), (q6, .inl (cI, 4, .inl (fun _ => 0))), (q13, .inl (cI, 4, .inl (fun _ => 0)))] H := hP
  have hD : va_D A [(h0, .inr (2, [.ref q6, .ref q13])), (q6, .inl (cI, 4, .inl (fun _ => 0))), (q13, .inl (cI, 4, .inl (fun _ => 0)))] := hD
  exact W.vret hx hb hr (fun t9 ht9 hW9 => ⟨⟨(fun k => ([q6, q13] : List Nat).getD k 0), rfl, trivial, by rw [ht9]; exact hP, va_K.moved hW9.alike hK, hD⟩, hS.F ht9⟩) hS.2.2 dX2_init_18
set_option maxHeartbeats 4000000 in
set_option maxRecDepth 100000 in
theorem cn_X3 (l : Launch) (D : va_G) (cI cZ : ClassId) (h0 sz : Nat) : Met l yX3_init wsX3_init ({ frames := 1, cells := 5, slots := 15, locals := 12 }) (va_Pc [.ref h0] (pg_B D (pg_ty cI cZ) [(h0, .inr (3, [.null, .null, .null, .null, .null]))] sz)) (va_Qv (fun _ : Nat → Nat => True) (pg_E D (pg_ty cI cZ) (va_A [(h0, .inr (3, [.null, .null, .null, .null, .null]))] sz) (fun b => [(h0, .inr (3, [.ref (b 0), .ref (b 1), .ref (b 2), .ref (b 3), .ref (b 4)])), (b 0, .inl (cI, 3, .inl (fun _ => 0))), (b 1, .inl (cI, 3, .inl (fun _ => 0))), (b 2, .inl (cZ, 3, .inl (fun _ => 0))), (b 3, .inl (cI, 3, .inl (fun _ => 0))), (b 4, .inl (cI, 3, .inl (fun _ => 0)))])) (va_A [(h0, .inr (3, [.null, .null, .null, .null, .null]))] sz)) 5 15 (va_A [(h0, .inr (3, [.null, .null, .null, .null, .null]))] sz) := by
  refine Met.ofW (cc := cX3_init) (maxL := 1) (ret := none) (by decide) rfl ?_
  intro p e s m args below meth c s₁ B hml hv
  obtain ⟨rfl, hsz, hP, hK, hD0⟩ := hv
  have hx := B.exec
  have hb := B.bytes
  have hr := B.returns
  have hts := atoms_spec (ws := wsX3_init) B.pre
  have hown : s.vm.findClass RX3 = some m.cls := findClass_of_methodNamed B.named
  have hlocks := B.notSynchronized
  have hin : meth.name = "<init>" := (name_of_methodNamed B.named B.method).1
  subst hsz
  have hD := hD0.self (sz := s.heap.size)
  generalize hAe : va_A [(h0, .inr (3, [.null, .null, .null, .null, .null]))] s.heap.size = A at hD ⊢
  have hA : ∀ q : Nat, s.heap.size ≤ q → A q := fun q h => by rw [← hAe]; exact Or.inr h
  have hS : va_S A s.heap s.heap [] := va_S.rf
  have hl := lv_entry ([.ref h0]) (n := 1) (Nat.le_of_ble_eq_true rfl)
  rw [lg_entry_eq]
  generalize (lg_sl ([.ref h0]) ++ List.replicate (1 - (lg_sl ([.ref h0])).length) Slot.unset).toArray = ls at hl ⊢
  have hl : lv_has ls 1 [(0, .ref h0)] := hl
  have hiX3 : ∀ w ∈ wsX30, w ∈ wsX3_init := fun _ h => List.mem_cons_of_mem _ (List.mem_append_right _ (h))
  have hw1 := hts (.methodLink RX3 3 objectInit) (List.mem_of_getElem? (i := 1) rfl)
  have hw2 := hts (.instanceMethod objectInit) (List.mem_of_getElem? (i := 2) rfl)
  have hw3 := hts (.code objectInit ⟨#[0xb1]⟩ 1 none) (List.mem_of_getElem? (i := 3) rfl)
  have hw4 := hts (.arrayClass .int) (List.mem_of_getElem? (i := 4) rfl)
  have hw5 := hts (.fieldLink RX3 9 "PegBox$Kinds" "leasts" "[I") (List.mem_of_getElem? (i := 5) rfl)
  have hw6 := hts (.fieldLink RX3 15 "PegBox$Kinds" "baskets" "[I") (List.mem_of_getElem? (i := 6) rfl)
  have hw7 := hts (.arrayClass .boolean) (List.mem_of_getElem? (i := 7) rfl)
  have hw8 := hts (.fieldLink RX3 18 "PegBox$Kinds" "wholes" "[Z") (List.mem_of_getElem? (i := 8) rfl)
  have hw9 := hts (.fieldLink RX3 22 "PegBox$Kinds" "caps" "[I") (List.mem_of_getElem? (i := 9) rfl)
  have hw10 := hts (.fieldLink RX3 25 "PegBox$Kinds" "lastDays" "[I") (List.mem_of_getElem? (i := 10) rfl)
  refine lv_aload_n hx hb dX3_init_0 rfl (lv_at hl 0 rfl) ?_
  refine W.objInit hx hb hown hw1 hw2 hw3 rfl (by rw [hml]; exact hl.1) rfl dX3_init_1 (Nat.le_of_ble_eq_true rfl) (Nat.le_of_ble_eq_true rfl) ?_
  refine W.eq (g2 := F0 m 4 ls []) rfl ?_
  refine lv_aload_n hx hb dX3_init_4 rfl (lv_at hl 0 rfl) ?_
  refine lv_iconst (v := 3) hx hb dX3_init_5 (by decide) ?_
  refine pg_newi hx hb hw4 hK hP hD hS hA 3 (by decide) (by decide) (Nat.le_of_ble_eq_true rfl) (Nat.le_of_ble_eq_true rfl) (Nat.le_of_ble_eq_true rfl) dX3_init_6 (fun q6 H hP hD hS => ?_)
  refine W.widen (k := 1) (n := 3) (Nat.le_of_ble_eq_true rfl) (Nat.le_of_ble_eq_true rfl) ?_
  have hP : va_P D vwCl [(h0, .inr (3, [.null, .null, .null, .null, .null])), (q6, .inl (cI, 3, .inl (fun _ => 0)))] H := hP
  have hD : va_D A [(h0, .inr (3, [.null, .null, .null, .null, .null])), (q6, .inl (cI, 3, .inl (fun _ => 0)))] := hD
  refine va_putF (D := D) (ci := 3) (v := .ref q6) (ty := .array .int) (C := RX3) (T := TX3) (N := 5) hx hb hts hiX3 tyX3 tyX3_ok nmX3 hown hK hP hD hS 0 rfl rfl 0 (by decide) hw5 (fun _ h9 => h9) rfl hin rfl (by decide +kernel) rfl rfl (Nat.le_of_ble_eq_true rfl) dX3_init_8 (fun H locs hP hD hS => ?_)
  have hP : va_P D vwCl [(h0, .inr (3, [.ref q6, .null, .null, .null, .null])), (q6, .inl (cI, 3, .inl (fun _ => 0)))] H := hP
  have hD : va_D A [(h0, .inr (3, [.ref q6, .null, .null, .null, .null])), (q6, .inl (cI, 3, .inl (fun _ => 0)))] := hD
  refine lv_aload_n hx hb dX3_init_11 rfl (lv_at hl 0 rfl) ?_
  refine lv_iconst (v := 3) hx hb dX3_init_12 (by decide) ?_
  refine pg_newi hx hb hw4 hK hP hD hS hA 3 (by decide) (by decide) (Nat.le_of_ble_eq_true rfl) (Nat.le_of_ble_eq_true rfl) (Nat.le_of_ble_eq_true rfl) dX3_init_13 (fun q13 H hP hD hS => ?_)
  refine W.widen (k := 2) (n := 6) (Nat.le_of_ble_eq_true rfl) (Nat.le_of_ble_eq_true rfl) ?_
  have hP : va_P D vwCl [(h0, .inr (3, [.ref q6, .null, .null, .null, .null])), (q6, .inl (cI, 3, .inl (fun _ => 0))), (q13, .inl (cI, 3, .inl (fun _ => 0)))] H := hP
  have hD : va_D A [(h0, .inr (3, [.ref q6, .null, .null, .null, .null])), (q6, .inl (cI, 3, .inl (fun _ => 0))), (q13, .inl (cI, 3, .inl (fun _ => 0)))] := hD
  refine va_putF (D := D) (ci := 3) (v := .ref q13) (ty := .array .int) (C := RX3) (T := TX3) (N := 5) hx hb hts hiX3 tyX3 tyX3_ok nmX3 hown hK hP hD hS 0 rfl rfl 1 (by decide) hw6 (fun _ h9 => h9) rfl hin rfl (by decide +kernel) rfl rfl (Nat.le_of_ble_eq_true rfl) dX3_init_15 (fun H locs hP hD hS => ?_)
  have hP : va_P D vwCl [(h0, .inr (3, [.ref q6, .ref q13, .null, .null, .null])), (q6, .inl (cI, 3, .inl (fun _ => 0))), (q13, .inl (cI, 3, .inl (fun _ => 0)))] H := hP
  have hD : va_D A [(h0, .inr (3, [.ref q6, .ref q13, .null, .null, .null])), (q6, .inl (cI, 3, .inl (fun _ => 0))), (q13, .inl (cI, 3, .inl (fun _ => 0)))] := hD
  refine lv_aload_n hx hb dX3_init_18 rfl (lv_at hl 0 rfl) ?_
  refine lv_iconst (v := 3) hx hb dX3_init_19 (by decide) ?_
  refine pg_newz hx hb hw7 hK hP hD hS hA 3 (by decide) (by decide) (Nat.le_of_ble_eq_true rfl) (Nat.le_of_ble_eq_true rfl) (Nat.le_of_ble_eq_true rfl) dX3_init_20 (fun q20 H hP hD hS => ?_)
  refine W.widen (k := 3) (n := 9) (Nat.le_of_ble_eq_true rfl) (Nat.le_of_ble_eq_true rfl) ?_
  have hP : va_P D vwCl [(h0, .inr (3, [.ref q6, .ref q13, .null, .null, .null])), (q6, .inl (cI, 3, .inl (fun _ => 0))), (q13, .inl (cI, 3, .inl (fun _ => 0))), (q20, .inl (cZ, 3, .inl (fun _ => 0)))] H := hP
  have hD : va_D A [(h0, .inr (3, [.ref q6, .ref q13, .null, .null, .null])), (q6, .inl (cI, 3, .inl (fun _ => 0))), (q13, .inl (cI, 3, .inl (fun _ => 0))), (q20, .inl (cZ, 3, .inl (fun _ => 0)))] := hD
  refine va_putF (D := D) (ci := 3) (v := .ref q20) (ty := .array .boolean) (C := RX3) (T := TX3) (N := 5) hx hb hts hiX3 tyX3 tyX3_ok nmX3 hown hK hP hD hS 0 rfl rfl 2 (by decide) hw8 (fun _ h9 => h9) rfl hin rfl (by decide +kernel) rfl rfl (Nat.le_of_ble_eq_true rfl) dX3_init_22 (fun H locs hP hD hS => ?_)
  have hP : va_P D vwCl [(h0, .inr (3, [.ref q6, .ref q13, .ref q20, .null, .null])), (q6, .inl (cI, 3, .inl (fun _ => 0))), (q13, .inl (cI, 3, .inl (fun _ => 0))), (q20, .inl (cZ, 3, .inl (fun _ => 0)))] H := hP
  have hD : va_D A [(h0, .inr (3, [.ref q6, .ref q13, .ref q20, .null, .null])), (q6, .inl (cI, 3, .inl (fun _ => 0))), (q13, .inl (cI, 3, .inl (fun _ => 0))), (q20, .inl (cZ, 3, .inl (fun _ => 0)))] := hD
  refine lv_aload_n hx hb dX3_init_25 rfl (lv_at hl 0 rfl) ?_
  refine lv_iconst (v := 3) hx hb dX3_init_26 (by decide) ?_
  refine pg_newi hx hb hw4 hK hP hD hS hA 3 (by decide) (by decide) (Nat.le_of_ble_eq_true rfl) (Nat.le_of_ble_eq_true rfl) (Nat.le_of_ble_eq_true rfl) dX3_init_27 (fun q27 H hP hD hS => ?_)
  refine W.widen (k := 4) (n := 12) (Nat.le_of_ble_eq_true rfl) (Nat.le_of_ble_eq_true rfl) ?_
  have hP : va_P D vwCl [(h0, .inr (3, [.ref q6, .ref q13, .ref q20, .null, .null])), (q6, .inl (cI, 3, .inl (fun _ => 0))), (q13, .inl (cI, 3, .inl (fun _ => 0))), (q20, .inl (cZ, 3, .inl (fun _ => 0))), (q27, .inl (cI, 3, .inl (fun _ => 0)))] H := hP
  have hD : va_D A [(h0, .inr (3, [.ref q6, .ref q13, .ref q20, .null, .null])), (q6, .inl (cI, 3, .inl (fun _ => 0))), (q13, .inl (cI, 3, .inl (fun _ => 0))), (q20, .inl (cZ, 3, .inl (fun _ => 0))), (q27, .inl (cI, 3, .inl (fun _ => 0)))] := hD
  refine va_putF (D := D) (ci := 3) (v := .ref q27) (ty := .array .int) (C := RX3) (T := TX3) (N := 5) hx hb hts hiX3 tyX3 tyX3_ok nmX3 hown hK hP hD hS 0 rfl rfl 3 (by decide) hw9 (fun _ h9 => h9) rfl hin rfl (by decide +kernel) rfl rfl (Nat.le_of_ble_eq_true rfl) dX3_init_29 (fun H locs hP hD hS => ?_)
  have hP : va_P D vwCl [(h0, .inr (3, [.ref q6, .ref q13, .ref q20, .ref q27, .null])), (q6, .inl (cI, 3, .inl (fun _ => 0))), (q13, .inl (cI, 3, .inl (fun _ => 0))), (q20, .inl (cZ, 3, .inl (fun _ => 0))), (q27, .inl (cI, 3, .inl (fun _ => 0)))] H := hP
  have hD : va_D A [(h0, .inr (3, [.ref q6, .ref q13, .ref q20, .ref q27, .null])), (q6, .inl (cI, 3, .inl (fun _ => 0))), (q13, .inl (cI, 3, .inl (fun _ => 0))), (q20, .inl (cZ, 3, .inl (fun _ => 0))), (q27, .inl (cI, 3, .inl (fun _ => 0)))] := hD
  refine lv_aload_n hx hb dX3_init_32 rfl (lv_at hl 0 rfl) ?_
  refine lv_iconst (v := 3) hx hb dX3_init_33 (by decide) ?_
  refine pg_newi hx hb hw4 hK hP hD hS hA 3 (by decide) (by decide) (Nat.le_of_ble_eq_true rfl) (Nat.le_of_ble_eq_true rfl) (Nat.le_of_ble_eq_true rfl) dX3_init_34 (fun q34 H hP hD hS => ?_)
  refine W.widen (k := 5) (n := 15) (Nat.le_of_ble_eq_true rfl) (Nat.le_of_ble_eq_true rfl) ?_
  have hP : va_P D vwCl [(h0, .inr (3, [.ref q6, .ref q13, .ref q20, .ref q27, .null])), (q6, .inl (cI, 3, .inl (fun _ => 0))), (q13, .inl (cI, 3, .inl (fun _ => 0))), (q20, .inl (cZ, 3, .inl (fun _ => 0))), (q27, .inl (cI, 3, .inl (fun _ => 0))), (q34, .inl (cI, 3, .inl (fun _ => 0)))] H := hP
  have hD : va_D A [(h0, .inr (3, [.ref q6, .ref q13, .ref q20, .ref q27, .null])), (q6, .inl (cI, 3, .inl (fun _ => 0))), (q13, .inl (cI, 3, .inl (fun _ => 0))), (q20, .inl (cZ, 3, .inl (fun _ => 0))), (q27, .inl (cI, 3, .inl (fun _ => 0))), (q34, .inl (cI, 3, .inl (fun _ => 0)))] := hD
  refine va_putF (D := D) (ci := 3) (v := .ref q34) (ty := .array .int) (C := RX3) (T := TX3) (N := 5) hx hb hts hiX3 tyX3 tyX3_ok nmX3 hown hK hP hD hS 0 rfl rfl 4 (by decide) hw10 (fun _ h9 => h9) rfl hin rfl (by decide +kernel) rfl rfl (Nat.le_of_ble_eq_true rfl) dX3_init_36 (fun H locs hP hD hS => ?_)
  have hP : va_P D vwCl [(h0, .inr (3, [.ref q6, .ref q13, .ref q20, .ref q27, .ref q34])), (q6, .inl (cI, 3, .inl (fun _ => 0))), (q13, .inl (cI, 3, .inl (fun _ => 0))), (q20, .inl (cZ, 3, .inl (fun _ => 0))), (q27, .inl (cI, 3, .inl (fun _ => 0))), (q34, .inl (cI, 3, .inl (fun _ => 0)))] H := hP
  have hD : va_D A [(h0, .inr (3, [.ref q6, .ref q13, .ref q20, .ref q27, .ref q34])), (q6, .inl (cI, 3, .inl (fun _ => 0))), (q13, .inl (cI, 3, .inl (fun _ => 0))), (q20, .inl (cZ, 3, .inl (fun _ => 0))), (q27, .inl (cI, 3, .inl (fun _ => 0))), (q34, .inl (cI, 3, .inl (fun _ => 0)))] := hD
  exact W.vret hx hb hr (fun t9 ht9 hW9 => ⟨⟨(fun k => ([q6, q13, q20, q27, q34] : List Nat).getD k 0), rfl, trivial, by rw [ht9]; exact hP, va_K.moved hW9.alike hK, hD⟩, hS.F ht9⟩) hS.2.2 dX3_init_39
set_option maxHeartbeats 4000000 in
set_option maxRecDepth 100000 in
theorem cn_X0 (l : Launch) (D : va_G) (cI cZ : ClassId) (h0 sz : Nat) : Met l yX0_init wsX0_init ({ frames := 1, cells := 4, slots := 80, locals := 12 }) (va_Pc [.ref h0] (pg_B D (pg_ty cI cZ) [(h0, .inr (0, [.null, .null, .null, .null, .int 0]))] sz)) (va_Qv (fun _ : Nat → Nat => True) (pg_E D (pg_ty cI cZ) (va_A [(h0, .inr (0, [.null, .null, .null, .null, .int 0]))] sz) (fun b => [(h0, .inr (0, [.ref (b 0), .ref (b 1), .ref (b 2), .ref (b 3), .int 0])), (b 0, .inl (cI, 20, .inl (fun _ => 0))), (b 1, .inl (cI, 20, .inl (fun _ => 0))), (b 2, .inl (cI, 20, .inl (fun _ => 0))), (b 3, .inl (cI, 20, .inl (fun _ => 0)))])) (va_A [(h0, .inr (0, [.null, .null, .null, .null, .int 0]))] sz)) 4 80 (va_A [(h0, .inr (0, [.null, .null, .null, .null, .int 0]))] sz) := by
  refine Met.ofW (cc := cX0_init) (maxL := 1) (ret := none) (by decide) rfl ?_
  intro p e s m args below meth c s₁ B hml hv
  obtain ⟨rfl, hsz, hP, hK, hD0⟩ := hv
  have hx := B.exec
  have hb := B.bytes
  have hr := B.returns
  have hts := atoms_spec (ws := wsX0_init) B.pre
  have hown : s.vm.findClass RX0 = some m.cls := findClass_of_methodNamed B.named
  have hlocks := B.notSynchronized
  have hin : meth.name = "<init>" := (name_of_methodNamed B.named B.method).1
  subst hsz
  have hD := hD0.self (sz := s.heap.size)
  generalize hAe : va_A [(h0, .inr (0, [.null, .null, .null, .null, .int 0]))] s.heap.size = A at hD ⊢
  have hA : ∀ q : Nat, s.heap.size ≤ q → A q := fun q h => by rw [← hAe]; exact Or.inr h
  have hS : va_S A s.heap s.heap [] := va_S.rf
  have hl := lv_entry ([.ref h0]) (n := 1) (Nat.le_of_ble_eq_true rfl)
  rw [lg_entry_eq]
  generalize (lg_sl ([.ref h0]) ++ List.replicate (1 - (lg_sl ([.ref h0])).length) Slot.unset).toArray = ls at hl ⊢
  have hl : lv_has ls 1 [(0, .ref h0)] := hl
  have hiX0 : ∀ w ∈ wsX00, w ∈ wsX0_init := fun _ h => List.mem_cons_of_mem _ (List.mem_append_right _ (h))
  have hw1 := hts (.methodLink RX0 3 objectInit) (List.mem_of_getElem? (i := 1) rfl)
  have hw2 := hts (.instanceMethod objectInit) (List.mem_of_getElem? (i := 2) rfl)
  have hw3 := hts (.code objectInit ⟨#[0xb1]⟩ 1 none) (List.mem_of_getElem? (i := 3) rfl)
  have hw4 := hts (.arrayClass .int) (List.mem_of_getElem? (i := 4) rfl)
  have hw5 := hts (.fieldLink RX0 9 "PegBox$ClaimBook" "kinds" "[I") (List.mem_of_getElem? (i := 5) rfl)
  have hw6 := hts (.fieldLink RX0 15 "PegBox$ClaimBook" "amounts" "[I") (List.mem_of_getElem? (i := 6) rfl)
  have hw7 := hts (.fieldLink RX0 18 "PegBox$ClaimBook" "offers" "[I") (List.mem_of_getElem? (i := 7) rfl)
  have hw8 := hts (.fieldLink RX0 21 "PegBox$ClaimBook" "settled" "[I") (List.mem_of_getElem? (i := 8) rfl)
  refine lv_aload_n hx hb dX0_init_0 rfl (lv_at hl 0 rfl) ?_
  refine W.objInit hx hb hown hw1 hw2 hw3 rfl (by rw [hml]; exact hl.1) rfl dX0_init_1 (Nat.le_of_ble_eq_true rfl) (Nat.le_of_ble_eq_true rfl) ?_
  refine W.eq (g2 := F0 m 4 ls []) rfl ?_
  refine lv_aload_n hx hb dX0_init_4 rfl (lv_at hl 0 rfl) ?_
  refine lv_bipush (v := 20) hx hb dX0_init_5 (by decide) ?_
  refine pg_newi hx hb hw4 hK hP hD hS hA 20 (by decide) (by decide) (Nat.le_of_ble_eq_true rfl) (Nat.le_of_ble_eq_true rfl) (Nat.le_of_ble_eq_true rfl) dX0_init_7 (fun q7 H hP hD hS => ?_)
  refine W.widen (k := 1) (n := 20) (Nat.le_of_ble_eq_true rfl) (Nat.le_of_ble_eq_true rfl) ?_
  have hP : va_P D vwCl [(h0, .inr (0, [.null, .null, .null, .null, .int 0])), (q7, .inl (cI, 20, .inl (fun _ => 0)))] H := hP
  have hD : va_D A [(h0, .inr (0, [.null, .null, .null, .null, .int 0])), (q7, .inl (cI, 20, .inl (fun _ => 0)))] := hD
  refine va_putF (D := D) (ci := 0) (v := .ref q7) (ty := .array .int) (C := RX0) (T := TX0) (N := 5) hx hb hts hiX0 tyX0 tyX0_ok nmX0 hown hK hP hD hS 0 rfl rfl 0 (by decide) hw5 (fun _ h9 => h9) rfl hin rfl (by decide +kernel) rfl rfl (Nat.le_of_ble_eq_true rfl) dX0_init_9 (fun H locs hP hD hS => ?_)
  have hP : va_P D vwCl [(h0, .inr (0, [.ref q7, .null, .null, .null, .int 0])), (q7, .inl (cI, 20, .inl (fun _ => 0)))] H := hP
  have hD : va_D A [(h0, .inr (0, [.ref q7, .null, .null, .null, .int 0])), (q7, .inl (cI, 20, .inl (fun _ => 0)))] := hD
  refine lv_aload_n hx hb dX0_init_12 rfl (lv_at hl 0 rfl) ?_
  refine lv_bipush (v := 20) hx hb dX0_init_13 (by decide) ?_
  refine pg_newi hx hb hw4 hK hP hD hS hA 20 (by decide) (by decide) (Nat.le_of_ble_eq_true rfl) (Nat.le_of_ble_eq_true rfl) (Nat.le_of_ble_eq_true rfl) dX0_init_15 (fun q15 H hP hD hS => ?_)
  refine W.widen (k := 2) (n := 40) (Nat.le_of_ble_eq_true rfl) (Nat.le_of_ble_eq_true rfl) ?_
  have hP : va_P D vwCl [(h0, .inr (0, [.ref q7, .null, .null, .null, .int 0])), (q7, .inl (cI, 20, .inl (fun _ => 0))), (q15, .inl (cI, 20, .inl (fun _ => 0)))] H := hP
  have hD : va_D A [(h0, .inr (0, [.ref q7, .null, .null, .null, .int 0])), (q7, .inl (cI, 20, .inl (fun _ => 0))), (q15, .inl (cI, 20, .inl (fun _ => 0)))] := hD
  refine va_putF (D := D) (ci := 0) (v := .ref q15) (ty := .array .int) (C := RX0) (T := TX0) (N := 5) hx hb hts hiX0 tyX0 tyX0_ok nmX0 hown hK hP hD hS 0 rfl rfl 1 (by decide) hw6 (fun _ h9 => h9) rfl hin rfl (by decide +kernel) rfl rfl (Nat.le_of_ble_eq_true rfl) dX0_init_17 (fun H locs hP hD hS => ?_)
  have hP : va_P D vwCl [(h0, .inr (0, [.ref q7, .ref q15, .null, .null, .int 0])), (q7, .inl (cI, 20, .inl (fun _ => 0))), (q15, .inl (cI, 20, .inl (fun _ => 0)))] H := hP
  have hD : va_D A [(h0, .inr (0, [.ref q7, .ref q15, .null, .null, .int 0])), (q7, .inl (cI, 20, .inl (fun _ => 0))), (q15, .inl (cI, 20, .inl (fun _ => 0)))] := hD
  refine lv_aload_n hx hb dX0_init_20 rfl (lv_at hl 0 rfl) ?_
  refine lv_bipush (v := 20) hx hb dX0_init_21 (by decide) ?_
  refine pg_newi hx hb hw4 hK hP hD hS hA 20 (by decide) (by decide) (Nat.le_of_ble_eq_true rfl) (Nat.le_of_ble_eq_true rfl) (Nat.le_of_ble_eq_true rfl) dX0_init_23 (fun q23 H hP hD hS => ?_)
  refine W.widen (k := 3) (n := 60) (Nat.le_of_ble_eq_true rfl) (Nat.le_of_ble_eq_true rfl) ?_
  have hP : va_P D vwCl [(h0, .inr (0, [.ref q7, .ref q15, .null, .null, .int 0])), (q7, .inl (cI, 20, .inl (fun _ => 0))), (q15, .inl (cI, 20, .inl (fun _ => 0))), (q23, .inl (cI, 20, .inl (fun _ => 0)))] H := hP
  have hD : va_D A [(h0, .inr (0, [.ref q7, .ref q15, .null, .null, .int 0])), (q7, .inl (cI, 20, .inl (fun _ => 0))), (q15, .inl (cI, 20, .inl (fun _ => 0))), (q23, .inl (cI, 20, .inl (fun _ => 0)))] := hD
  refine va_putF (D := D) (ci := 0) (v := .ref q23) (ty := .array .int) (C := RX0) (T := TX0) (N := 5) hx hb hts hiX0 tyX0 tyX0_ok nmX0 hown hK hP hD hS 0 rfl rfl 2 (by decide) hw7 (fun _ h9 => h9) rfl hin rfl (by decide +kernel) rfl rfl (Nat.le_of_ble_eq_true rfl) dX0_init_25 (fun H locs hP hD hS => ?_)
  have hP : va_P D vwCl [(h0, .inr (0, [.ref q7, .ref q15, .ref q23, .null, .int 0])), (q7, .inl (cI, 20, .inl (fun _ => 0))), (q15, .inl (cI, 20, .inl (fun _ => 0))), (q23, .inl (cI, 20, .inl (fun _ => 0)))] H := hP
  have hD : va_D A [(h0, .inr (0, [.ref q7, .ref q15, .ref q23, .null, .int 0])), (q7, .inl (cI, 20, .inl (fun _ => 0))), (q15, .inl (cI, 20, .inl (fun _ => 0))), (q23, .inl (cI, 20, .inl (fun _ => 0)))] := hD
  refine lv_aload_n hx hb dX0_init_28 rfl (lv_at hl 0 rfl) ?_
  refine lv_bipush (v := 20) hx hb dX0_init_29 (by decide) ?_
  refine pg_newi hx hb hw4 hK hP hD hS hA 20 (by decide) (by decide) (Nat.le_of_ble_eq_true rfl) (Nat.le_of_ble_eq_true rfl) (Nat.le_of_ble_eq_true rfl) dX0_init_31 (fun q31 H hP hD hS => ?_)
  refine W.widen (k := 4) (n := 80) (Nat.le_of_ble_eq_true rfl) (Nat.le_of_ble_eq_true rfl) ?_
  have hP : va_P D vwCl [(h0, .inr (0, [.ref q7, .ref q15, .ref q23, .null, .int 0])), (q7, .inl (cI, 20, .inl (fun _ => 0))), (q15, .inl (cI, 20, .inl (fun _ => 0))), (q23, .inl (cI, 20, .inl (fun _ => 0))), (q31, .inl (cI, 20, .inl (fun _ => 0)))] H := hP
  have hD : va_D A [(h0, .inr (0, [.ref q7, .ref q15, .ref q23, .null, .int 0])), (q7, .inl (cI, 20, .inl (fun _ => 0))), (q15, .inl (cI, 20, .inl (fun _ => 0))), (q23, .inl (cI, 20, .inl (fun _ => 0))), (q31, .inl (cI, 20, .inl (fun _ => 0)))] := hD
  refine va_putF (D := D) (ci := 0) (v := .ref q31) (ty := .array .int) (C := RX0) (T := TX0) (N := 5) hx hb hts hiX0 tyX0 tyX0_ok nmX0 hown hK hP hD hS 0 rfl rfl 3 (by decide) hw8 (fun _ h9 => h9) rfl hin rfl (by decide +kernel) rfl rfl (Nat.le_of_ble_eq_true rfl) dX0_init_33 (fun H locs hP hD hS => ?_)
  have hP : va_P D vwCl [(h0, .inr (0, [.ref q7, .ref q15, .ref q23, .ref q31, .int 0])), (q7, .inl (cI, 20, .inl (fun _ => 0))), (q15, .inl (cI, 20, .inl (fun _ => 0))), (q23, .inl (cI, 20, .inl (fun _ => 0))), (q31, .inl (cI, 20, .inl (fun _ => 0)))] H := hP
  have hD : va_D A [(h0, .inr (0, [.ref q7, .ref q15, .ref q23, .ref q31, .int 0])), (q7, .inl (cI, 20, .inl (fun _ => 0))), (q15, .inl (cI, 20, .inl (fun _ => 0))), (q23, .inl (cI, 20, .inl (fun _ => 0))), (q31, .inl (cI, 20, .inl (fun _ => 0)))] := hD
  exact W.vret hx hb hr (fun t9 ht9 hW9 => ⟨⟨(fun k => ([q7, q15, q23, q31] : List Nat).getD k 0), rfl, trivial, by rw [ht9]; exact hP, va_K.moved hW9.alike hK, hD⟩, hS.F ht9⟩) hS.2.2 dX0_init_36
set_option maxHeartbeats 4000000 in
set_option maxRecDepth 100000 in
theorem cn_X1 (l : Launch) (D : va_G) (cI cZ : ClassId) (h0 sz : Nat) : Met l yX1_init wsX1_init ({ frames := 1, cells := 3, slots := 12, locals := 12 }) (va_Pc [.ref h0] (pg_B D (pg_ty cI cZ) [(h0, .inr (1, [.null, .null, .null, .int 0, .int 0, .int 0, .int 0, .int 0]))] sz)) (va_Qv (fun _ : Nat → Nat => True) (pg_E D (pg_ty cI cZ) (va_A [(h0, .inr (1, [.null, .null, .null, .int 0, .int 0, .int 0, .int 0, .int 0]))] sz) (fun b => [(h0, .inr (1, [.ref (b 0), .ref (b 1), .ref (b 2), .int 0, .int 0, .int 0, .int 0, .int 0])), (b 0, .inl (cI, 4, .inl (fun _ => 0))), (b 1, .inl (cI, 4, .inl (fun _ => 0))), (b 2, .inl (cZ, 4, .inl (fun _ => 0)))])) (va_A [(h0, .inr (1, [.null, .null, .null, .int 0, .int 0, .int 0, .int 0, .int 0]))] sz)) 3 12 (va_A [(h0, .inr (1, [.null, .null, .null, .int 0, .int 0, .int 0, .int 0, .int 0]))] sz) := by
  refine Met.ofW (cc := cX1_init) (maxL := 1) (ret := none) (by decide) rfl ?_
  intro p e s m args below meth c s₁ B hml hv
  obtain ⟨rfl, hsz, hP, hK, hD0⟩ := hv
  have hx := B.exec
  have hb := B.bytes
  have hr := B.returns
  have hts := atoms_spec (ws := wsX1_init) B.pre
  have hown : s.vm.findClass RX1 = some m.cls := findClass_of_methodNamed B.named
  have hlocks := B.notSynchronized
  have hin : meth.name = "<init>" := (name_of_methodNamed B.named B.method).1
  subst hsz
  have hD := hD0.self (sz := s.heap.size)
  generalize hAe : va_A [(h0, .inr (1, [.null, .null, .null, .int 0, .int 0, .int 0, .int 0, .int 0]))] s.heap.size = A at hD ⊢
  have hA : ∀ q : Nat, s.heap.size ≤ q → A q := fun q h => by rw [← hAe]; exact Or.inr h
  have hS : va_S A s.heap s.heap [] := va_S.rf
  have hl := lv_entry ([.ref h0]) (n := 1) (Nat.le_of_ble_eq_true rfl)
  rw [lg_entry_eq]
  generalize (lg_sl ([.ref h0]) ++ List.replicate (1 - (lg_sl ([.ref h0])).length) Slot.unset).toArray = ls at hl ⊢
  have hl : lv_has ls 1 [(0, .ref h0)] := hl
  have hiX1 : ∀ w ∈ wsX10, w ∈ wsX1_init := fun _ h => List.mem_cons_of_mem _ (List.mem_append_right _ (h))
  have hw1 := hts (.methodLink RX1 3 objectInit) (List.mem_of_getElem? (i := 1) rfl)
  have hw2 := hts (.instanceMethod objectInit) (List.mem_of_getElem? (i := 2) rfl)
  have hw3 := hts (.code objectInit ⟨#[0xb1]⟩ 1 none) (List.mem_of_getElem? (i := 3) rfl)
  have hw4 := hts (.arrayClass .int) (List.mem_of_getElem? (i := 4) rfl)
  have hw5 := hts (.fieldLink RX1 9 "PegBox$EarnOut" "targets" "[I") (List.mem_of_getElem? (i := 5) rfl)
  have hw6 := hts (.fieldLink RX1 15 "PegBox$EarnOut" "amounts" "[I") (List.mem_of_getElem? (i := 6) rfl)
  have hw7 := hts (.arrayClass .boolean) (List.mem_of_getElem? (i := 7) rfl)
  have hw8 := hts (.fieldLink RX1 18 "PegBox$EarnOut" "met" "[Z") (List.mem_of_getElem? (i := 8) rfl)
  refine lv_aload_n hx hb dX1_init_0 rfl (lv_at hl 0 rfl) ?_
  refine W.objInit hx hb hown hw1 hw2 hw3 rfl (by rw [hml]; exact hl.1) rfl dX1_init_1 (Nat.le_of_ble_eq_true rfl) (Nat.le_of_ble_eq_true rfl) ?_
  refine W.eq (g2 := F0 m 4 ls []) rfl ?_
  refine lv_aload_n hx hb dX1_init_4 rfl (lv_at hl 0 rfl) ?_
  refine lv_iconst (v := 4) hx hb dX1_init_5 (by decide) ?_
  refine pg_newi hx hb hw4 hK hP hD hS hA 4 (by decide) (by decide) (Nat.le_of_ble_eq_true rfl) (Nat.le_of_ble_eq_true rfl) (Nat.le_of_ble_eq_true rfl) dX1_init_6 (fun q6 H hP hD hS => ?_)
  refine W.widen (k := 1) (n := 4) (Nat.le_of_ble_eq_true rfl) (Nat.le_of_ble_eq_true rfl) ?_
  have hP : va_P D vwCl [(h0, .inr (1, [.null, .null, .null, .int 0, .int 0, .int 0, .int 0, .int 0])), (q6, .inl (cI, 4, .inl (fun _ => 0)))] H := hP
  have hD : va_D A [(h0, .inr (1, [.null, .null, .null, .int 0, .int 0, .int 0, .int 0, .int 0])), (q6, .inl (cI, 4, .inl (fun _ => 0)))] := hD
  refine va_putF (D := D) (ci := 1) (v := .ref q6) (ty := .array .int) (C := RX1) (T := TX1) (N := 8) hx hb hts hiX1 tyX1 tyX1_ok nmX1 hown hK hP hD hS 0 rfl rfl 0 (by decide) hw5 (fun _ h9 => h9) rfl hin rfl (by decide +kernel) rfl rfl (Nat.le_of_ble_eq_true rfl) dX1_init_8 (fun H locs hP hD hS => ?_)
  have hP : va_P D vwCl [(h0, .inr (1, [.ref q6, .null, .null, .int 0, .int 0, .int 0, .int 0, .int 0])), (q6, .inl (cI, 4, .inl (fun _ => 0)))] H := hP
  have hD : va_D A [(h0, .inr (1, [.ref q6, .null, .null, .int 0, .int 0, .int 0, .int 0, .int 0])), (q6, .inl (cI, 4, .inl (fun _ => 0)))] := hD
  refine lv_aload_n hx hb dX1_init_11 rfl (lv_at hl 0 rfl) ?_
  refine lv_iconst (v := 4) hx hb dX1_init_12 (by decide) ?_
  refine pg_newi hx hb hw4 hK hP hD hS hA 4 (by decide) (by decide) (Nat.le_of_ble_eq_true rfl) (Nat.le_of_ble_eq_true rfl) (Nat.le_of_ble_eq_true rfl) dX1_init_13 (fun q13 H hP hD hS => ?_)
  refine W.widen (k := 2) (n := 8) (Nat.le_of_ble_eq_true rfl) (Nat.le_of_ble_eq_true rfl) ?_
  have hP : va_P D vwCl [(h0, .inr (1, [.ref q6, .null, .null, .int 0, .int 0, .int 0, .int 0, .int 0])), (q6, .inl (cI, 4, .inl (fun _ => 0))), (q13, .inl (cI, 4, .inl (fun _ => 0)))] H := hP
  have hD : va_D A [(h0, .inr (1, [.ref q6, .null, .null, .int 0, .int 0, .int 0, .int 0, .int 0])), (q6, .inl (cI, 4, .inl (fun _ => 0))), (q13, .inl (cI, 4, .inl (fun _ => 0)))] := hD
  refine va_putF (D := D) (ci := 1) (v := .ref q13) (ty := .array .int) (C := RX1) (T := TX1) (N := 8) hx hb hts hiX1 tyX1 tyX1_ok nmX1 hown hK hP hD hS 0 rfl rfl 1 (by decide) hw6 (fun _ h9 => h9) rfl hin rfl (by decide +kernel) rfl rfl (Nat.le_of_ble_eq_true rfl) dX1_init_15 (fun H locs hP hD hS => ?_)
  have hP : va_P D vwCl [(h0, .inr (1, [.ref q6, .ref q13, .null, .int 0, .int 0, .int 0, .int 0, .int 0])), (q6, .inl (cI, 4, .inl (fun _ => 0))), (q13, .inl (cI, 4, .inl (fun _ => 0)))] H := hP
  have hD : va_D A [(h0, .inr (1, [.ref q6, .ref q13, .null, .int 0, .int 0, .int 0, .int 0, .int 0])), (q6, .inl (cI, 4, .inl (fun _ => 0))), (q13, .inl (cI, 4, .inl (fun _ => 0)))] := hD
  refine lv_aload_n hx hb dX1_init_18 rfl (lv_at hl 0 rfl) ?_
  refine lv_iconst (v := 4) hx hb dX1_init_19 (by decide) ?_
  refine pg_newz hx hb hw7 hK hP hD hS hA 4 (by decide) (by decide) (Nat.le_of_ble_eq_true rfl) (Nat.le_of_ble_eq_true rfl) (Nat.le_of_ble_eq_true rfl) dX1_init_20 (fun q20 H hP hD hS => ?_)
  refine W.widen (k := 3) (n := 12) (Nat.le_of_ble_eq_true rfl) (Nat.le_of_ble_eq_true rfl) ?_
  have hP : va_P D vwCl [(h0, .inr (1, [.ref q6, .ref q13, .null, .int 0, .int 0, .int 0, .int 0, .int 0])), (q6, .inl (cI, 4, .inl (fun _ => 0))), (q13, .inl (cI, 4, .inl (fun _ => 0))), (q20, .inl (cZ, 4, .inl (fun _ => 0)))] H := hP
  have hD : va_D A [(h0, .inr (1, [.ref q6, .ref q13, .null, .int 0, .int 0, .int 0, .int 0, .int 0])), (q6, .inl (cI, 4, .inl (fun _ => 0))), (q13, .inl (cI, 4, .inl (fun _ => 0))), (q20, .inl (cZ, 4, .inl (fun _ => 0)))] := hD
  refine va_putF (D := D) (ci := 1) (v := .ref q20) (ty := .array .boolean) (C := RX1) (T := TX1) (N := 8) hx hb hts hiX1 tyX1 tyX1_ok nmX1 hown hK hP hD hS 0 rfl rfl 2 (by decide) hw8 (fun _ h9 => h9) rfl hin rfl (by decide +kernel) rfl rfl (Nat.le_of_ble_eq_true rfl) dX1_init_22 (fun H locs hP hD hS => ?_)
  have hP : va_P D vwCl [(h0, .inr (1, [.ref q6, .ref q13, .ref q20, .int 0, .int 0, .int 0, .int 0, .int 0])), (q6, .inl (cI, 4, .inl (fun _ => 0))), (q13, .inl (cI, 4, .inl (fun _ => 0))), (q20, .inl (cZ, 4, .inl (fun _ => 0)))] H := hP
  have hD : va_D A [(h0, .inr (1, [.ref q6, .ref q13, .ref q20, .int 0, .int 0, .int 0, .int 0, .int 0])), (q6, .inl (cI, 4, .inl (fun _ => 0))), (q13, .inl (cI, 4, .inl (fun _ => 0))), (q20, .inl (cZ, 4, .inl (fun _ => 0)))] := hD
  exact W.vret hx hb hr (fun t9 ht9 hW9 => ⟨⟨(fun k => ([q6, q13, q20] : List Nat).getD k 0), rfl, trivial, by rw [ht9]; exact hP, va_K.moved hW9.alike hK, hD⟩, hS.F ht9⟩) hS.2.2 dX1_init_25
set_option maxHeartbeats 4000000 in
set_option maxRecDepth 100000 in
theorem cn_X4 (l : Launch) (D : va_G) (cI cZ : ClassId) (h0 sz : Nat) : Met l yX4_init wsX4_init ({ frames := 2, cells := 18, slots := 135, locals := 32 }) (va_Pc [.ref h0] (pg_B D (pg_ty cI cZ) [(h0, .inr (4, [.null, .null, .null, .null, .int 0, .int 0, .int 0, .int 0, .int 0, .int 0, .int 0, .int 0, .int 0, .int 0]))] sz)) (va_Qv (fun b : Nat → Nat => b 0 = h0) (pg_E D (pg_ty cI cZ) (va_A [(h0, .inr (4, [.null, .null, .null, .null, .int 0, .int 0, .int 0, .int 0, .int 0, .int 0, .int 0, .int 0, .int 0, .int 0]))] sz) (fun b => pg_wB cI cZ b (upd (upd (fun _ => 0) 3 (-1)) 4 (-1), fun _ _ => 0))) (va_A [(h0, .inr (4, [.null, .null, .null, .null, .int 0, .int 0, .int 0, .int 0, .int 0, .int 0, .int 0, .int 0, .int 0, .int 0]))] sz)) 18 135 (va_A [(h0, .inr (4, [.null, .null, .null, .null, .int 0, .int 0, .int 0, .int 0, .int 0, .int 0, .int 0, .int 0, .int 0, .int 0]))] sz) := by
  refine Met.ofW (cc := cX4_init) (maxL := 1) (ret := none) (by decide) rfl ?_
  intro p e s m args below meth c s₁ B hml hv
  obtain ⟨rfl, hsz, hP, hK, hD0⟩ := hv
  have hx := B.exec
  have hb := B.bytes
  have hr := B.returns
  have hts := atoms_spec (ws := wsX4_init) B.pre
  have hown : s.vm.findClass RX4 = some m.cls := findClass_of_methodNamed B.named
  have hlocks := B.notSynchronized
  have hin : meth.name = "<init>" := (name_of_methodNamed B.named B.method).1
  subst hsz
  have hD := hD0.self (sz := s.heap.size)
  generalize hAe : va_A [(h0, .inr (4, [.null, .null, .null, .null, .int 0, .int 0, .int 0, .int 0, .int 0, .int 0, .int 0, .int 0, .int 0, .int 0]))] s.heap.size = A at hD ⊢
  have hA : ∀ q : Nat, s.heap.size ≤ q → A q := fun q h => by rw [← hAe]; exact Or.inr h
  have hS : va_S A s.heap s.heap [] := va_S.rf
  have hl := lv_entry ([.ref h0]) (n := 1) (Nat.le_of_ble_eq_true rfl)
  rw [lg_entry_eq]
  generalize (lg_sl ([.ref h0]) ++ List.replicate (1 - (lg_sl ([.ref h0])).length) Slot.unset).toArray = ls at hl ⊢
  have hl : lv_has ls 1 [(0, .ref h0)] := hl
  have hiX0 : ∀ w ∈ wsX00, w ∈ wsX4_init := fun _ h => List.mem_cons_of_mem _ (List.mem_append_left _ (List.mem_append_right _ (h)))
  have hiX1 : ∀ w ∈ wsX10, w ∈ wsX4_init := fun _ h => List.mem_cons_of_mem _ (List.mem_append_right _ (h))
  have hiX2 : ∀ w ∈ wsX20, w ∈ wsX4_init := fun _ h => List.mem_cons_of_mem _ (List.mem_append_left _ (List.mem_append_left _ (List.mem_append_left _ (List.mem_append_left _ (List.mem_append_right _ (h))))))
  have hiX3 : ∀ w ∈ wsX30, w ∈ wsX4_init := fun _ h => List.mem_cons_of_mem _ (List.mem_append_left _ (List.mem_append_left _ (List.mem_append_right _ (h))))
  have hiX4 : ∀ w ∈ wsX40, w ∈ wsX4_init := fun _ h => List.mem_cons_of_mem _ (List.mem_append_left _ (List.mem_append_left _ (List.mem_append_left _ (List.mem_append_right _ (h)))))
  have hw1 := hts (.methodLink RX4 1 objectInit) (List.mem_of_getElem? (i := 1) rfl)
  have hw2 := hts (.instanceMethod objectInit) (List.mem_of_getElem? (i := 2) rfl)
  have hw3 := hts (.code objectInit ⟨#[0xb1]⟩ 1 none) (List.mem_of_getElem? (i := 3) rfl)
  have hw4 := hts (.classLink RX4 7 RX2) (List.mem_of_getElem? (i := 4) rfl)
  have hw5 := hts (.instantiable RX2 2) (List.mem_of_getElem? (i := 5) rfl)
  have hw6 := hts (.initialized RX2) (List.mem_of_getElem? (i := 6) rfl)
  have hw7 := hts (.fieldLink RX4 10 "PegBox" "escrow" "LPegBox$Escrow;") (List.mem_of_getElem? (i := 7) rfl)
  have hw8 := hts (.classLink RX4 16 RX3) (List.mem_of_getElem? (i := 8) rfl)
  have hw9 := hts (.instantiable RX3 5) (List.mem_of_getElem? (i := 9) rfl)
  have hw10 := hts (.initialized RX3) (List.mem_of_getElem? (i := 10) rfl)
  have hw11 := hts (.fieldLink RX4 19 "PegBox" "kinds" "LPegBox$Kinds;") (List.mem_of_getElem? (i := 11) rfl)
  have hw12 := hts (.classLink RX4 23 RX0) (List.mem_of_getElem? (i := 12) rfl)
  have hw13 := hts (.instantiable RX0 5) (List.mem_of_getElem? (i := 13) rfl)
  have hw14 := hts (.initialized RX0) (List.mem_of_getElem? (i := 14) rfl)
  have hw15 := hts (.fieldLink RX4 26 "PegBox" "book" "LPegBox$ClaimBook;") (List.mem_of_getElem? (i := 15) rfl)
  have hw16 := hts (.classLink RX4 30 RX1) (List.mem_of_getElem? (i := 16) rfl)
  have hw17 := hts (.instantiable RX1 8) (List.mem_of_getElem? (i := 17) rfl)
  have hw18 := hts (.initialized RX1) (List.mem_of_getElem? (i := 18) rfl)
  have hw19 := hts (.fieldLink RX4 33 "PegBox" "earnOut" "LPegBox$EarnOut;") (List.mem_of_getElem? (i := 19) rfl)
  have hw20 := hts (.fieldLink RX4 37 "PegBox" "day" "I") (List.mem_of_getElem? (i := 20) rfl)
  have hw21 := hts (.fieldLink RX4 41 "PegBox" "finalPrice" "I") (List.mem_of_getElem? (i := 21) rfl)
  have hw22 := hts (.methodLink RX4 9 yX2_init) (List.mem_of_getElem? (i := 22) rfl)
  have hw23 := hts (.instanceMethod yX2_init) (List.mem_of_getElem? (i := 23) rfl)
  have hw29 := hts (.methodLink RX4 18 yX3_init) (List.mem_of_getElem? (i := 29) rfl)
  have hw30 := hts (.instanceMethod yX3_init) (List.mem_of_getElem? (i := 30) rfl)
  have hw39 := hts (.methodLink RX4 25 yX0_init) (List.mem_of_getElem? (i := 39) rfl)
  have hw40 := hts (.instanceMethod yX0_init) (List.mem_of_getElem? (i := 40) rfl)
  have hw47 := hts (.methodLink RX4 32 yX1_init) (List.mem_of_getElem? (i := 47) rfl)
  have hw48 := hts (.instanceMethod yX1_init) (List.mem_of_getElem? (i := 48) rfl)
  refine lv_aload_n hx hb dX4_init_0 rfl (lv_at hl 0 rfl) ?_
  refine W.objInit hx hb hown hw1 hw2 hw3 rfl (by rw [hml]; exact hl.1) rfl dX4_init_1 (Nat.le_of_ble_eq_true rfl) (Nat.le_of_ble_eq_true rfl) ?_
  refine W.eq (g2 := F0 m 4 ls []) rfl ?_
  refine lv_aload_n hx hb dX4_init_4 rfl (lv_at hl 0 rfl) ?_
  refine va_new (ci := 2) (fs := [.null, .null]) (C := RX2) (T := TX2) (N := 2) hx hb hts hiX2 tyX2 tyX2_ok hown hw4 hw5 hw6 hK hP hD hS hA rfl (fun j hj => by rcases (show j = 0 ∨ j = 1 by omega) with rfl | rfl <;> rfl) (Nat.le_of_ble_eq_true rfl) (Nat.le_of_ble_eq_true rfl) dX4_init_5 (fun q5 H hP hD hS => ?_)
  refine W.widen (k := 1) (n := 2) (Nat.le_of_ble_eq_true rfl) (Nat.le_of_ble_eq_true rfl) ?_
  have hP : va_P D vwCl [(h0, .inr (4, [.null, .null, .null, .null, .int 0, .int 0, .int 0, .int 0, .int 0, .int 0, .int 0, .int 0, .int 0, .int 0])), (q5, .inr (2, [.null, .null]))] H := hP
  have hD : va_D A [(h0, .inr (4, [.null, .null, .null, .null, .int 0, .int 0, .int 0, .int 0, .int 0, .int 0, .int 0, .int 0, .int 0, .int 0])), (q5, .inr (2, [.null, .null]))] := hD
  refine lv_dup hx hb dX4_init_8 rfl ?_
  have hP : va_P D vwCl ([(h0, .inr (4, [.null, .null, .null, .null, .int 0, .int 0, .int 0, .int 0, .int 0, .int 0, .int 0, .int 0, .int 0, .int 0]))] ++ [(q5, .inr (2, [.null, .null]))]) H := hP
  have hD : va_D A ([(h0, .inr (4, [.null, .null, .null, .null, .int 0, .int 0, .int 0, .int 0, .int 0, .int 0, .int 0, .int 0, .int 0, .int 0]))] ++ [(q5, .inr (2, [.null, .null]))]) := hD
  refine pg_nR (pg_rI (As := []) (rest := [.ref q5, .ref h0]) ⟨hx, hb, hml, hown, hts⟩ (cn_X2 l D cI cZ q5 H.size) (cwI 0 hts gX4_init_X2_init rfl rfl rfl hw6 hw22 hw23 rfl (by decide +kernel) ⟨Nat.le_of_ble_eq_true rfl, Nat.le_of_ble_eq_true rfl⟩) hK (pg_PR hP) (pg_DR hD) rfl hl.1 rfl (Nat.le_of_ble_eq_true rfl) dX4_init_9 ⟨Nat.le_of_ble_eq_true rfl, Nat.le_of_ble_eq_true rfl⟩) hP hD hS hA (fun b9 H locs _ hP hD hS => ?_)
  refine W.widen (k := 3) (n := 10) (Nat.le_of_ble_eq_true rfl) (Nat.le_of_ble_eq_true rfl) ?_
  have hP : va_P D vwCl [(h0, .inr (4, [.null, .null, .null, .null, .int 0, .int 0, .int 0, .int 0, .int 0, .int 0, .int 0, .int 0, .int 0, .int 0])), (q5, .inr (2, [.ref (b9 0), .ref (b9 1)])), (b9 0, .inl (cI, 4, .inl (fun _ => 0))), (b9 1, .inl (cI, 4, .inl (fun _ => 0)))] H := hP
  have hD : va_D A [(h0, .inr (4, [.null, .null, .null, .null, .int 0, .int 0, .int 0, .int 0, .int 0, .int 0, .int 0, .int 0, .int 0, .int 0])), (q5, .inr (2, [.ref (b9 0), .ref (b9 1)])), (b9 0, .inl (cI, 4, .inl (fun _ => 0))), (b9 1, .inl (cI, 4, .inl (fun _ => 0)))] := hD
  refine va_putF (D := D) (ci := 4) (v := .ref q5) (ty := .object "PegBox$Escrow") (C := RX4) (T := TX4) (N := 14) hx hb hts hiX4 tyX4 tyX4_ok nmX4 hown hK hP hD hS 0 rfl rfl 0 (by decide) hw7 (fun _ h9 => h9) rfl hin rfl (by decide +kernel) rfl rfl (Nat.le_of_ble_eq_true rfl) dX4_init_12 (fun H locs hP hD hS => ?_)
  have hP : va_P D vwCl [(h0, .inr (4, [.ref q5, .null, .null, .null, .int 0, .int 0, .int 0, .int 0, .int 0, .int 0, .int 0, .int 0, .int 0, .int 0])), (q5, .inr (2, [.ref (b9 0), .ref (b9 1)])), (b9 0, .inl (cI, 4, .inl (fun _ => 0))), (b9 1, .inl (cI, 4, .inl (fun _ => 0)))] H := hP
  have hD : va_D A [(h0, .inr (4, [.ref q5, .null, .null, .null, .int 0, .int 0, .int 0, .int 0, .int 0, .int 0, .int 0, .int 0, .int 0, .int 0])), (q5, .inr (2, [.ref (b9 0), .ref (b9 1)])), (b9 0, .inl (cI, 4, .inl (fun _ => 0))), (b9 1, .inl (cI, 4, .inl (fun _ => 0)))] := hD
  refine lv_aload_n hx hb dX4_init_15 rfl (lv_at hl 0 rfl) ?_
  refine va_new (ci := 3) (fs := [.null, .null, .null, .null, .null]) (C := RX3) (T := TX3) (N := 5) hx hb hts hiX3 tyX3 tyX3_ok hown hw8 hw9 hw10 hK hP hD hS hA rfl (fun j hj => by rcases (show j = 0 ∨ j = 1 ∨ j = 2 ∨ j = 3 ∨ j = 4 by omega) with rfl | rfl | rfl | rfl | rfl <;> rfl) (Nat.le_of_ble_eq_true rfl) (Nat.le_of_ble_eq_true rfl) dX4_init_16 (fun q16 H hP hD hS => ?_)
  refine W.widen (k := 4) (n := 15) (Nat.le_of_ble_eq_true rfl) (Nat.le_of_ble_eq_true rfl) ?_
  have hP : va_P D vwCl [(h0, .inr (4, [.ref q5, .null, .null, .null, .int 0, .int 0, .int 0, .int 0, .int 0, .int 0, .int 0, .int 0, .int 0, .int 0])), (q5, .inr (2, [.ref (b9 0), .ref (b9 1)])), (b9 0, .inl (cI, 4, .inl (fun _ => 0))), (b9 1, .inl (cI, 4, .inl (fun _ => 0))), (q16, .inr (3, [.null, .null, .null, .null, .null]))] H := hP
  have hD : va_D A [(h0, .inr (4, [.ref q5, .null, .null, .null, .int 0, .int 0, .int 0, .int 0, .int 0, .int 0, .int 0, .int 0, .int 0, .int 0])), (q5, .inr (2, [.ref (b9 0), .ref (b9 1)])), (b9 0, .inl (cI, 4, .inl (fun _ => 0))), (b9 1, .inl (cI, 4, .inl (fun _ => 0))), (q16, .inr (3, [.null, .null, .null, .null, .null]))] := hD
  refine lv_dup hx hb dX4_init_19 rfl ?_
  have hP : va_P D vwCl ([(h0, .inr (4, [.ref q5, .null, .null, .null, .int 0, .int 0, .int 0, .int 0, .int 0, .int 0, .int 0, .int 0, .int 0, .int 0])), (q5, .inr (2, [.ref (b9 0), .ref (b9 1)])), (b9 0, .inl (cI, 4, .inl (fun _ => 0))), (b9 1, .inl (cI, 4, .inl (fun _ => 0)))] ++ [(q16, .inr (3, [.null, .null, .null, .null, .null]))]) H := hP
  have hD : va_D A ([(h0, .inr (4, [.ref q5, .null, .null, .null, .int 0, .int 0, .int 0, .int 0, .int 0, .int 0, .int 0, .int 0, .int 0, .int 0])), (q5, .inr (2, [.ref (b9 0), .ref (b9 1)])), (b9 0, .inl (cI, 4, .inl (fun _ => 0))), (b9 1, .inl (cI, 4, .inl (fun _ => 0)))] ++ [(q16, .inr (3, [.null, .null, .null, .null, .null]))]) := hD
  refine pg_nR (pg_rI (As := []) (rest := [.ref q16, .ref h0]) ⟨hx, hb, hml, hown, hts⟩ (cn_X3 l D cI cZ q16 H.size) (cwI 0 hts gX4_init_X3_init rfl rfl rfl hw10 hw29 hw30 rfl (by decide +kernel) ⟨Nat.le_of_ble_eq_true rfl, Nat.le_of_ble_eq_true rfl⟩) hK (pg_PR hP) (pg_DR hD) rfl hl.1 rfl (Nat.le_of_ble_eq_true rfl) dX4_init_20 ⟨Nat.le_of_ble_eq_true rfl, Nat.le_of_ble_eq_true rfl⟩) hP hD hS hA (fun b20 H locs _ hP hD hS => ?_)
  refine W.widen (k := 9) (n := 30) (Nat.le_of_ble_eq_true rfl) (Nat.le_of_ble_eq_true rfl) ?_
  have hP : va_P D vwCl [(h0, .inr (4, [.ref q5, .null, .null, .null, .int 0, .int 0, .int 0, .int 0, .int 0, .int 0, .int 0, .int 0, .int 0, .int 0])), (q5, .inr (2, [.ref (b9 0), .ref (b9 1)])), (b9 0, .inl (cI, 4, .inl (fun _ => 0))), (b9 1, .inl (cI, 4, .inl (fun _ => 0))), (q16, .inr (3, [.ref (b20 0), .ref (b20 1), .ref (b20 2), .ref (b20 3), .ref (b20 4)])), (b20 0, .inl (cI, 3, .inl (fun _ => 0))), (b20 1, .inl (cI, 3, .inl (fun _ => 0))), (b20 2, .inl (cZ, 3, .inl (fun _ => 0))), (b20 3, .inl (cI, 3, .inl (fun _ => 0))), (b20 4, .inl (cI, 3, .inl (fun _ => 0)))] H := hP
  have hD : va_D A [(h0, .inr (4, [.ref q5, .null, .null, .null, .int 0, .int 0, .int 0, .int 0, .int 0, .int 0, .int 0, .int 0, .int 0, .int 0])), (q5, .inr (2, [.ref (b9 0), .ref (b9 1)])), (b9 0, .inl (cI, 4, .inl (fun _ => 0))), (b9 1, .inl (cI, 4, .inl (fun _ => 0))), (q16, .inr (3, [.ref (b20 0), .ref (b20 1), .ref (b20 2), .ref (b20 3), .ref (b20 4)])), (b20 0, .inl (cI, 3, .inl (fun _ => 0))), (b20 1, .inl (cI, 3, .inl (fun _ => 0))), (b20 2, .inl (cZ, 3, .inl (fun _ => 0))), (b20 3, .inl (cI, 3, .inl (fun _ => 0))), (b20 4, .inl (cI, 3, .inl (fun _ => 0)))] := hD
  refine va_putF (D := D) (ci := 4) (v := .ref q16) (ty := .object "PegBox$Kinds") (C := RX4) (T := TX4) (N := 14) hx hb hts hiX4 tyX4 tyX4_ok nmX4 hown hK hP hD hS 0 rfl rfl 1 (by decide) hw11 (fun _ h9 => h9) rfl hin rfl (by decide +kernel) rfl rfl (Nat.le_of_ble_eq_true rfl) dX4_init_23 (fun H locs hP hD hS => ?_)
  have hP : va_P D vwCl [(h0, .inr (4, [.ref q5, .ref q16, .null, .null, .int 0, .int 0, .int 0, .int 0, .int 0, .int 0, .int 0, .int 0, .int 0, .int 0])), (q5, .inr (2, [.ref (b9 0), .ref (b9 1)])), (b9 0, .inl (cI, 4, .inl (fun _ => 0))), (b9 1, .inl (cI, 4, .inl (fun _ => 0))), (q16, .inr (3, [.ref (b20 0), .ref (b20 1), .ref (b20 2), .ref (b20 3), .ref (b20 4)])), (b20 0, .inl (cI, 3, .inl (fun _ => 0))), (b20 1, .inl (cI, 3, .inl (fun _ => 0))), (b20 2, .inl (cZ, 3, .inl (fun _ => 0))), (b20 3, .inl (cI, 3, .inl (fun _ => 0))), (b20 4, .inl (cI, 3, .inl (fun _ => 0)))] H := hP
  have hD : va_D A [(h0, .inr (4, [.ref q5, .ref q16, .null, .null, .int 0, .int 0, .int 0, .int 0, .int 0, .int 0, .int 0, .int 0, .int 0, .int 0])), (q5, .inr (2, [.ref (b9 0), .ref (b9 1)])), (b9 0, .inl (cI, 4, .inl (fun _ => 0))), (b9 1, .inl (cI, 4, .inl (fun _ => 0))), (q16, .inr (3, [.ref (b20 0), .ref (b20 1), .ref (b20 2), .ref (b20 3), .ref (b20 4)])), (b20 0, .inl (cI, 3, .inl (fun _ => 0))), (b20 1, .inl (cI, 3, .inl (fun _ => 0))), (b20 2, .inl (cZ, 3, .inl (fun _ => 0))), (b20 3, .inl (cI, 3, .inl (fun _ => 0))), (b20 4, .inl (cI, 3, .inl (fun _ => 0)))] := hD
  refine lv_aload_n hx hb dX4_init_26 rfl (lv_at hl 0 rfl) ?_
  refine va_new (ci := 0) (fs := [.null, .null, .null, .null, .int 0]) (C := RX0) (T := TX0) (N := 5) hx hb hts hiX0 tyX0 tyX0_ok hown hw12 hw13 hw14 hK hP hD hS hA rfl (fun j hj => by rcases (show j = 0 ∨ j = 1 ∨ j = 2 ∨ j = 3 ∨ j = 4 by omega) with rfl | rfl | rfl | rfl | rfl <;> rfl) (Nat.le_of_ble_eq_true rfl) (Nat.le_of_ble_eq_true rfl) dX4_init_27 (fun q27 H hP hD hS => ?_)
  refine W.widen (k := 10) (n := 35) (Nat.le_of_ble_eq_true rfl) (Nat.le_of_ble_eq_true rfl) ?_
  have hP : va_P D vwCl [(h0, .inr (4, [.ref q5, .ref q16, .null, .null, .int 0, .int 0, .int 0, .int 0, .int 0, .int 0, .int 0, .int 0, .int 0, .int 0])), (q5, .inr (2, [.ref (b9 0), .ref (b9 1)])), (b9 0, .inl (cI, 4, .inl (fun _ => 0))), (b9 1, .inl (cI, 4, .inl (fun _ => 0))), (q16, .inr (3, [.ref (b20 0), .ref (b20 1), .ref (b20 2), .ref (b20 3), .ref (b20 4)])), (b20 0, .inl (cI, 3, .inl (fun _ => 0))), (b20 1, .inl (cI, 3, .inl (fun _ => 0))), (b20 2, .inl (cZ, 3, .inl (fun _ => 0))), (b20 3, .inl (cI, 3, .inl (fun _ => 0))), (b20 4, .inl (cI, 3, .inl (fun _ => 0))), (q27, .inr (0, [.null, .null, .null, .null, .int 0]))] H := hP
  have hD : va_D A [(h0, .inr (4, [.ref q5, .ref q16, .null, .null, .int 0, .int 0, .int 0, .int 0, .int 0, .int 0, .int 0, .int 0, .int 0, .int 0])), (q5, .inr (2, [.ref (b9 0), .ref (b9 1)])), (b9 0, .inl (cI, 4, .inl (fun _ => 0))), (b9 1, .inl (cI, 4, .inl (fun _ => 0))), (q16, .inr (3, [.ref (b20 0), .ref (b20 1), .ref (b20 2), .ref (b20 3), .ref (b20 4)])), (b20 0, .inl (cI, 3, .inl (fun _ => 0))), (b20 1, .inl (cI, 3, .inl (fun _ => 0))), (b20 2, .inl (cZ, 3, .inl (fun _ => 0))), (b20 3, .inl (cI, 3, .inl (fun _ => 0))), (b20 4, .inl (cI, 3, .inl (fun _ => 0))), (q27, .inr (0, [.null, .null, .null, .null, .int 0]))] := hD
  refine lv_dup hx hb dX4_init_30 rfl ?_
  have hP : va_P D vwCl ([(h0, .inr (4, [.ref q5, .ref q16, .null, .null, .int 0, .int 0, .int 0, .int 0, .int 0, .int 0, .int 0, .int 0, .int 0, .int 0])), (q5, .inr (2, [.ref (b9 0), .ref (b9 1)])), (b9 0, .inl (cI, 4, .inl (fun _ => 0))), (b9 1, .inl (cI, 4, .inl (fun _ => 0))), (q16, .inr (3, [.ref (b20 0), .ref (b20 1), .ref (b20 2), .ref (b20 3), .ref (b20 4)])), (b20 0, .inl (cI, 3, .inl (fun _ => 0))), (b20 1, .inl (cI, 3, .inl (fun _ => 0))), (b20 2, .inl (cZ, 3, .inl (fun _ => 0))), (b20 3, .inl (cI, 3, .inl (fun _ => 0))), (b20 4, .inl (cI, 3, .inl (fun _ => 0)))] ++ [(q27, .inr (0, [.null, .null, .null, .null, .int 0]))]) H := hP
  have hD : va_D A ([(h0, .inr (4, [.ref q5, .ref q16, .null, .null, .int 0, .int 0, .int 0, .int 0, .int 0, .int 0, .int 0, .int 0, .int 0, .int 0])), (q5, .inr (2, [.ref (b9 0), .ref (b9 1)])), (b9 0, .inl (cI, 4, .inl (fun _ => 0))), (b9 1, .inl (cI, 4, .inl (fun _ => 0))), (q16, .inr (3, [.ref (b20 0), .ref (b20 1), .ref (b20 2), .ref (b20 3), .ref (b20 4)])), (b20 0, .inl (cI, 3, .inl (fun _ => 0))), (b20 1, .inl (cI, 3, .inl (fun _ => 0))), (b20 2, .inl (cZ, 3, .inl (fun _ => 0))), (b20 3, .inl (cI, 3, .inl (fun _ => 0))), (b20 4, .inl (cI, 3, .inl (fun _ => 0)))] ++ [(q27, .inr (0, [.null, .null, .null, .null, .int 0]))]) := hD
  refine pg_nR (pg_rI (As := []) (rest := [.ref q27, .ref h0]) ⟨hx, hb, hml, hown, hts⟩ (cn_X0 l D cI cZ q27 H.size) (cwI 0 hts gX4_init_X0_init rfl rfl rfl hw14 hw39 hw40 rfl (by decide +kernel) ⟨Nat.le_of_ble_eq_true rfl, Nat.le_of_ble_eq_true rfl⟩) hK (pg_PR hP) (pg_DR hD) rfl hl.1 rfl (Nat.le_of_ble_eq_true rfl) dX4_init_31 ⟨Nat.le_of_ble_eq_true rfl, Nat.le_of_ble_eq_true rfl⟩) hP hD hS hA (fun b31 H locs _ hP hD hS => ?_)
  refine W.widen (k := 14) (n := 115) (Nat.le_of_ble_eq_true rfl) (Nat.le_of_ble_eq_true rfl) ?_
  have hP : va_P D vwCl [(h0, .inr (4, [.ref q5, .ref q16, .null, .null, .int 0, .int 0, .int 0, .int 0, .int 0, .int 0, .int 0, .int 0, .int 0, .int 0])), (q5, .inr (2, [.ref (b9 0), .ref (b9 1)])), (b9 0, .inl (cI, 4, .inl (fun _ => 0))), (b9 1, .inl (cI, 4, .inl (fun _ => 0))), (q16, .inr (3, [.ref (b20 0), .ref (b20 1), .ref (b20 2), .ref (b20 3), .ref (b20 4)])), (b20 0, .inl (cI, 3, .inl (fun _ => 0))), (b20 1, .inl (cI, 3, .inl (fun _ => 0))), (b20 2, .inl (cZ, 3, .inl (fun _ => 0))), (b20 3, .inl (cI, 3, .inl (fun _ => 0))), (b20 4, .inl (cI, 3, .inl (fun _ => 0))), (q27, .inr (0, [.ref (b31 0), .ref (b31 1), .ref (b31 2), .ref (b31 3), .int 0])), (b31 0, .inl (cI, 20, .inl (fun _ => 0))), (b31 1, .inl (cI, 20, .inl (fun _ => 0))), (b31 2, .inl (cI, 20, .inl (fun _ => 0))), (b31 3, .inl (cI, 20, .inl (fun _ => 0)))] H := hP
  have hD : va_D A [(h0, .inr (4, [.ref q5, .ref q16, .null, .null, .int 0, .int 0, .int 0, .int 0, .int 0, .int 0, .int 0, .int 0, .int 0, .int 0])), (q5, .inr (2, [.ref (b9 0), .ref (b9 1)])), (b9 0, .inl (cI, 4, .inl (fun _ => 0))), (b9 1, .inl (cI, 4, .inl (fun _ => 0))), (q16, .inr (3, [.ref (b20 0), .ref (b20 1), .ref (b20 2), .ref (b20 3), .ref (b20 4)])), (b20 0, .inl (cI, 3, .inl (fun _ => 0))), (b20 1, .inl (cI, 3, .inl (fun _ => 0))), (b20 2, .inl (cZ, 3, .inl (fun _ => 0))), (b20 3, .inl (cI, 3, .inl (fun _ => 0))), (b20 4, .inl (cI, 3, .inl (fun _ => 0))), (q27, .inr (0, [.ref (b31 0), .ref (b31 1), .ref (b31 2), .ref (b31 3), .int 0])), (b31 0, .inl (cI, 20, .inl (fun _ => 0))), (b31 1, .inl (cI, 20, .inl (fun _ => 0))), (b31 2, .inl (cI, 20, .inl (fun _ => 0))), (b31 3, .inl (cI, 20, .inl (fun _ => 0)))] := hD
  refine va_putF (D := D) (ci := 4) (v := .ref q27) (ty := .object "PegBox$ClaimBook") (C := RX4) (T := TX4) (N := 14) hx hb hts hiX4 tyX4 tyX4_ok nmX4 hown hK hP hD hS 0 rfl rfl 2 (by decide) hw15 (fun _ h9 => h9) rfl hin rfl (by decide +kernel) rfl rfl (Nat.le_of_ble_eq_true rfl) dX4_init_34 (fun H locs hP hD hS => ?_)
  have hP : va_P D vwCl [(h0, .inr (4, [.ref q5, .ref q16, .ref q27, .null, .int 0, .int 0, .int 0, .int 0, .int 0, .int 0, .int 0, .int 0, .int 0, .int 0])), (q5, .inr (2, [.ref (b9 0), .ref (b9 1)])), (b9 0, .inl (cI, 4, .inl (fun _ => 0))), (b9 1, .inl (cI, 4, .inl (fun _ => 0))), (q16, .inr (3, [.ref (b20 0), .ref (b20 1), .ref (b20 2), .ref (b20 3), .ref (b20 4)])), (b20 0, .inl (cI, 3, .inl (fun _ => 0))), (b20 1, .inl (cI, 3, .inl (fun _ => 0))), (b20 2, .inl (cZ, 3, .inl (fun _ => 0))), (b20 3, .inl (cI, 3, .inl (fun _ => 0))), (b20 4, .inl (cI, 3, .inl (fun _ => 0))), (q27, .inr (0, [.ref (b31 0), .ref (b31 1), .ref (b31 2), .ref (b31 3), .int 0])), (b31 0, .inl (cI, 20, .inl (fun _ => 0))), (b31 1, .inl (cI, 20, .inl (fun _ => 0))), (b31 2, .inl (cI, 20, .inl (fun _ => 0))), (b31 3, .inl (cI, 20, .inl (fun _ => 0)))] H := hP
  have hD : va_D A [(h0, .inr (4, [.ref q5, .ref q16, .ref q27, .null, .int 0, .int 0, .int 0, .int 0, .int 0, .int 0, .int 0, .int 0, .int 0, .int 0])), (q5, .inr (2, [.ref (b9 0), .ref (b9 1)])), (b9 0, .inl (cI, 4, .inl (fun _ => 0))), (b9 1, .inl (cI, 4, .inl (fun _ => 0))), (q16, .inr (3, [.ref (b20 0), .ref (b20 1), .ref (b20 2), .ref (b20 3), .ref (b20 4)])), (b20 0, .inl (cI, 3, .inl (fun _ => 0))), (b20 1, .inl (cI, 3, .inl (fun _ => 0))), (b20 2, .inl (cZ, 3, .inl (fun _ => 0))), (b20 3, .inl (cI, 3, .inl (fun _ => 0))), (b20 4, .inl (cI, 3, .inl (fun _ => 0))), (q27, .inr (0, [.ref (b31 0), .ref (b31 1), .ref (b31 2), .ref (b31 3), .int 0])), (b31 0, .inl (cI, 20, .inl (fun _ => 0))), (b31 1, .inl (cI, 20, .inl (fun _ => 0))), (b31 2, .inl (cI, 20, .inl (fun _ => 0))), (b31 3, .inl (cI, 20, .inl (fun _ => 0)))] := hD
  refine lv_aload_n hx hb dX4_init_37 rfl (lv_at hl 0 rfl) ?_
  refine va_new (ci := 1) (fs := [.null, .null, .null, .int 0, .int 0, .int 0, .int 0, .int 0]) (C := RX1) (T := TX1) (N := 8) hx hb hts hiX1 tyX1 tyX1_ok hown hw16 hw17 hw18 hK hP hD hS hA rfl (fun j hj => by rcases (show j = 0 ∨ j = 1 ∨ j = 2 ∨ j = 3 ∨ j = 4 ∨ j = 5 ∨ j = 6 ∨ j = 7 by omega) with rfl | rfl | rfl | rfl | rfl | rfl | rfl | rfl <;> rfl) (Nat.le_of_ble_eq_true rfl) (Nat.le_of_ble_eq_true rfl) dX4_init_38 (fun q38 H hP hD hS => ?_)
  refine W.widen (k := 15) (n := 123) (Nat.le_of_ble_eq_true rfl) (Nat.le_of_ble_eq_true rfl) ?_
  have hP : va_P D vwCl [(h0, .inr (4, [.ref q5, .ref q16, .ref q27, .null, .int 0, .int 0, .int 0, .int 0, .int 0, .int 0, .int 0, .int 0, .int 0, .int 0])), (q5, .inr (2, [.ref (b9 0), .ref (b9 1)])), (b9 0, .inl (cI, 4, .inl (fun _ => 0))), (b9 1, .inl (cI, 4, .inl (fun _ => 0))), (q16, .inr (3, [.ref (b20 0), .ref (b20 1), .ref (b20 2), .ref (b20 3), .ref (b20 4)])), (b20 0, .inl (cI, 3, .inl (fun _ => 0))), (b20 1, .inl (cI, 3, .inl (fun _ => 0))), (b20 2, .inl (cZ, 3, .inl (fun _ => 0))), (b20 3, .inl (cI, 3, .inl (fun _ => 0))), (b20 4, .inl (cI, 3, .inl (fun _ => 0))), (q27, .inr (0, [.ref (b31 0), .ref (b31 1), .ref (b31 2), .ref (b31 3), .int 0])), (b31 0, .inl (cI, 20, .inl (fun _ => 0))), (b31 1, .inl (cI, 20, .inl (fun _ => 0))), (b31 2, .inl (cI, 20, .inl (fun _ => 0))), (b31 3, .inl (cI, 20, .inl (fun _ => 0))), (q38, .inr (1, [.null, .null, .null, .int 0, .int 0, .int 0, .int 0, .int 0]))] H := hP
  have hD : va_D A [(h0, .inr (4, [.ref q5, .ref q16, .ref q27, .null, .int 0, .int 0, .int 0, .int 0, .int 0, .int 0, .int 0, .int 0, .int 0, .int 0])), (q5, .inr (2, [.ref (b9 0), .ref (b9 1)])), (b9 0, .inl (cI, 4, .inl (fun _ => 0))), (b9 1, .inl (cI, 4, .inl (fun _ => 0))), (q16, .inr (3, [.ref (b20 0), .ref (b20 1), .ref (b20 2), .ref (b20 3), .ref (b20 4)])), (b20 0, .inl (cI, 3, .inl (fun _ => 0))), (b20 1, .inl (cI, 3, .inl (fun _ => 0))), (b20 2, .inl (cZ, 3, .inl (fun _ => 0))), (b20 3, .inl (cI, 3, .inl (fun _ => 0))), (b20 4, .inl (cI, 3, .inl (fun _ => 0))), (q27, .inr (0, [.ref (b31 0), .ref (b31 1), .ref (b31 2), .ref (b31 3), .int 0])), (b31 0, .inl (cI, 20, .inl (fun _ => 0))), (b31 1, .inl (cI, 20, .inl (fun _ => 0))), (b31 2, .inl (cI, 20, .inl (fun _ => 0))), (b31 3, .inl (cI, 20, .inl (fun _ => 0))), (q38, .inr (1, [.null, .null, .null, .int 0, .int 0, .int 0, .int 0, .int 0]))] := hD
  refine lv_dup hx hb dX4_init_41 rfl ?_
  have hP : va_P D vwCl ([(h0, .inr (4, [.ref q5, .ref q16, .ref q27, .null, .int 0, .int 0, .int 0, .int 0, .int 0, .int 0, .int 0, .int 0, .int 0, .int 0])), (q5, .inr (2, [.ref (b9 0), .ref (b9 1)])), (b9 0, .inl (cI, 4, .inl (fun _ => 0))), (b9 1, .inl (cI, 4, .inl (fun _ => 0))), (q16, .inr (3, [.ref (b20 0), .ref (b20 1), .ref (b20 2), .ref (b20 3), .ref (b20 4)])), (b20 0, .inl (cI, 3, .inl (fun _ => 0))), (b20 1, .inl (cI, 3, .inl (fun _ => 0))), (b20 2, .inl (cZ, 3, .inl (fun _ => 0))), (b20 3, .inl (cI, 3, .inl (fun _ => 0))), (b20 4, .inl (cI, 3, .inl (fun _ => 0))), (q27, .inr (0, [.ref (b31 0), .ref (b31 1), .ref (b31 2), .ref (b31 3), .int 0])), (b31 0, .inl (cI, 20, .inl (fun _ => 0))), (b31 1, .inl (cI, 20, .inl (fun _ => 0))), (b31 2, .inl (cI, 20, .inl (fun _ => 0))), (b31 3, .inl (cI, 20, .inl (fun _ => 0)))] ++ [(q38, .inr (1, [.null, .null, .null, .int 0, .int 0, .int 0, .int 0, .int 0]))]) H := hP
  have hD : va_D A ([(h0, .inr (4, [.ref q5, .ref q16, .ref q27, .null, .int 0, .int 0, .int 0, .int 0, .int 0, .int 0, .int 0, .int 0, .int 0, .int 0])), (q5, .inr (2, [.ref (b9 0), .ref (b9 1)])), (b9 0, .inl (cI, 4, .inl (fun _ => 0))), (b9 1, .inl (cI, 4, .inl (fun _ => 0))), (q16, .inr (3, [.ref (b20 0), .ref (b20 1), .ref (b20 2), .ref (b20 3), .ref (b20 4)])), (b20 0, .inl (cI, 3, .inl (fun _ => 0))), (b20 1, .inl (cI, 3, .inl (fun _ => 0))), (b20 2, .inl (cZ, 3, .inl (fun _ => 0))), (b20 3, .inl (cI, 3, .inl (fun _ => 0))), (b20 4, .inl (cI, 3, .inl (fun _ => 0))), (q27, .inr (0, [.ref (b31 0), .ref (b31 1), .ref (b31 2), .ref (b31 3), .int 0])), (b31 0, .inl (cI, 20, .inl (fun _ => 0))), (b31 1, .inl (cI, 20, .inl (fun _ => 0))), (b31 2, .inl (cI, 20, .inl (fun _ => 0))), (b31 3, .inl (cI, 20, .inl (fun _ => 0)))] ++ [(q38, .inr (1, [.null, .null, .null, .int 0, .int 0, .int 0, .int 0, .int 0]))]) := hD
  refine pg_nR (pg_rI (As := []) (rest := [.ref q38, .ref h0]) ⟨hx, hb, hml, hown, hts⟩ (cn_X1 l D cI cZ q38 H.size) (cwI 0 hts gX4_init_X1_init rfl rfl rfl hw18 hw47 hw48 rfl (by decide +kernel) ⟨Nat.le_of_ble_eq_true rfl, Nat.le_of_ble_eq_true rfl⟩) hK (pg_PR hP) (pg_DR hD) rfl hl.1 rfl (Nat.le_of_ble_eq_true rfl) dX4_init_42 ⟨Nat.le_of_ble_eq_true rfl, Nat.le_of_ble_eq_true rfl⟩) hP hD hS hA (fun b42 H locs _ hP hD hS => ?_)
  refine W.widen (k := 18) (n := 135) (Nat.le_of_ble_eq_true rfl) (Nat.le_of_ble_eq_true rfl) ?_
  have hP : va_P D vwCl [(h0, .inr (4, [.ref q5, .ref q16, .ref q27, .null, .int 0, .int 0, .int 0, .int 0, .int 0, .int 0, .int 0, .int 0, .int 0, .int 0])), (q5, .inr (2, [.ref (b9 0), .ref (b9 1)])), (b9 0, .inl (cI, 4, .inl (fun _ => 0))), (b9 1, .inl (cI, 4, .inl (fun _ => 0))), (q16, .inr (3, [.ref (b20 0), .ref (b20 1), .ref (b20 2), .ref (b20 3), .ref (b20 4)])), (b20 0, .inl (cI, 3, .inl (fun _ => 0))), (b20 1, .inl (cI, 3, .inl (fun _ => 0))), (b20 2, .inl (cZ, 3, .inl (fun _ => 0))), (b20 3, .inl (cI, 3, .inl (fun _ => 0))), (b20 4, .inl (cI, 3, .inl (fun _ => 0))), (q27, .inr (0, [.ref (b31 0), .ref (b31 1), .ref (b31 2), .ref (b31 3), .int 0])), (b31 0, .inl (cI, 20, .inl (fun _ => 0))), (b31 1, .inl (cI, 20, .inl (fun _ => 0))), (b31 2, .inl (cI, 20, .inl (fun _ => 0))), (b31 3, .inl (cI, 20, .inl (fun _ => 0))), (q38, .inr (1, [.ref (b42 0), .ref (b42 1), .ref (b42 2), .int 0, .int 0, .int 0, .int 0, .int 0])), (b42 0, .inl (cI, 4, .inl (fun _ => 0))), (b42 1, .inl (cI, 4, .inl (fun _ => 0))), (b42 2, .inl (cZ, 4, .inl (fun _ => 0)))] H := hP
  have hD : va_D A [(h0, .inr (4, [.ref q5, .ref q16, .ref q27, .null, .int 0, .int 0, .int 0, .int 0, .int 0, .int 0, .int 0, .int 0, .int 0, .int 0])), (q5, .inr (2, [.ref (b9 0), .ref (b9 1)])), (b9 0, .inl (cI, 4, .inl (fun _ => 0))), (b9 1, .inl (cI, 4, .inl (fun _ => 0))), (q16, .inr (3, [.ref (b20 0), .ref (b20 1), .ref (b20 2), .ref (b20 3), .ref (b20 4)])), (b20 0, .inl (cI, 3, .inl (fun _ => 0))), (b20 1, .inl (cI, 3, .inl (fun _ => 0))), (b20 2, .inl (cZ, 3, .inl (fun _ => 0))), (b20 3, .inl (cI, 3, .inl (fun _ => 0))), (b20 4, .inl (cI, 3, .inl (fun _ => 0))), (q27, .inr (0, [.ref (b31 0), .ref (b31 1), .ref (b31 2), .ref (b31 3), .int 0])), (b31 0, .inl (cI, 20, .inl (fun _ => 0))), (b31 1, .inl (cI, 20, .inl (fun _ => 0))), (b31 2, .inl (cI, 20, .inl (fun _ => 0))), (b31 3, .inl (cI, 20, .inl (fun _ => 0))), (q38, .inr (1, [.ref (b42 0), .ref (b42 1), .ref (b42 2), .int 0, .int 0, .int 0, .int 0, .int 0])), (b42 0, .inl (cI, 4, .inl (fun _ => 0))), (b42 1, .inl (cI, 4, .inl (fun _ => 0))), (b42 2, .inl (cZ, 4, .inl (fun _ => 0)))] := hD
  refine va_putF (D := D) (ci := 4) (v := .ref q38) (ty := .object "PegBox$EarnOut") (C := RX4) (T := TX4) (N := 14) hx hb hts hiX4 tyX4 tyX4_ok nmX4 hown hK hP hD hS 0 rfl rfl 3 (by decide) hw19 (fun _ h9 => h9) rfl hin rfl (by decide +kernel) rfl rfl (Nat.le_of_ble_eq_true rfl) dX4_init_45 (fun H locs hP hD hS => ?_)
  have hP : va_P D vwCl [(h0, .inr (4, [.ref q5, .ref q16, .ref q27, .ref q38, .int 0, .int 0, .int 0, .int 0, .int 0, .int 0, .int 0, .int 0, .int 0, .int 0])), (q5, .inr (2, [.ref (b9 0), .ref (b9 1)])), (b9 0, .inl (cI, 4, .inl (fun _ => 0))), (b9 1, .inl (cI, 4, .inl (fun _ => 0))), (q16, .inr (3, [.ref (b20 0), .ref (b20 1), .ref (b20 2), .ref (b20 3), .ref (b20 4)])), (b20 0, .inl (cI, 3, .inl (fun _ => 0))), (b20 1, .inl (cI, 3, .inl (fun _ => 0))), (b20 2, .inl (cZ, 3, .inl (fun _ => 0))), (b20 3, .inl (cI, 3, .inl (fun _ => 0))), (b20 4, .inl (cI, 3, .inl (fun _ => 0))), (q27, .inr (0, [.ref (b31 0), .ref (b31 1), .ref (b31 2), .ref (b31 3), .int 0])), (b31 0, .inl (cI, 20, .inl (fun _ => 0))), (b31 1, .inl (cI, 20, .inl (fun _ => 0))), (b31 2, .inl (cI, 20, .inl (fun _ => 0))), (b31 3, .inl (cI, 20, .inl (fun _ => 0))), (q38, .inr (1, [.ref (b42 0), .ref (b42 1), .ref (b42 2), .int 0, .int 0, .int 0, .int 0, .int 0])), (b42 0, .inl (cI, 4, .inl (fun _ => 0))), (b42 1, .inl (cI, 4, .inl (fun _ => 0))), (b42 2, .inl (cZ, 4, .inl (fun _ => 0)))] H := hP
  have hD : va_D A [(h0, .inr (4, [.ref q5, .ref q16, .ref q27, .ref q38, .int 0, .int 0, .int 0, .int 0, .int 0, .int 0, .int 0, .int 0, .int 0, .int 0])), (q5, .inr (2, [.ref (b9 0), .ref (b9 1)])), (b9 0, .inl (cI, 4, .inl (fun _ => 0))), (b9 1, .inl (cI, 4, .inl (fun _ => 0))), (q16, .inr (3, [.ref (b20 0), .ref (b20 1), .ref (b20 2), .ref (b20 3), .ref (b20 4)])), (b20 0, .inl (cI, 3, .inl (fun _ => 0))), (b20 1, .inl (cI, 3, .inl (fun _ => 0))), (b20 2, .inl (cZ, 3, .inl (fun _ => 0))), (b20 3, .inl (cI, 3, .inl (fun _ => 0))), (b20 4, .inl (cI, 3, .inl (fun _ => 0))), (q27, .inr (0, [.ref (b31 0), .ref (b31 1), .ref (b31 2), .ref (b31 3), .int 0])), (b31 0, .inl (cI, 20, .inl (fun _ => 0))), (b31 1, .inl (cI, 20, .inl (fun _ => 0))), (b31 2, .inl (cI, 20, .inl (fun _ => 0))), (b31 3, .inl (cI, 20, .inl (fun _ => 0))), (q38, .inr (1, [.ref (b42 0), .ref (b42 1), .ref (b42 2), .int 0, .int 0, .int 0, .int 0, .int 0])), (b42 0, .inl (cI, 4, .inl (fun _ => 0))), (b42 1, .inl (cI, 4, .inl (fun _ => 0))), (b42 2, .inl (cZ, 4, .inl (fun _ => 0)))] := hD
  refine lv_aload_n hx hb dX4_init_48 rfl (lv_at hl 0 rfl) ?_
  refine lv_iconst (v := (-1)) hx hb dX4_init_49 (by decide) ?_
  refine va_put (D := D) (ci := 4) (v := .int (-1)) (ty := .int) (C := RX4) (T := TX4) (N := 14) hx hb hts hiX4 tyX4 tyX4_ok nmX4 hown hK hP hD hS 0 rfl rfl 7 (by decide) hw20 (fun _ h9 => h9) rfl (by decide +kernel) rfl rfl (Nat.le_of_ble_eq_true rfl) dX4_init_50 (fun H locs hP hD hS => ?_)
  have hP : va_P D vwCl [(h0, .inr (4, [.ref q5, .ref q16, .ref q27, .ref q38, .int 0, .int 0, .int 0, .int (-1), .int 0, .int 0, .int 0, .int 0, .int 0, .int 0])), (q5, .inr (2, [.ref (b9 0), .ref (b9 1)])), (b9 0, .inl (cI, 4, .inl (fun _ => 0))), (b9 1, .inl (cI, 4, .inl (fun _ => 0))), (q16, .inr (3, [.ref (b20 0), .ref (b20 1), .ref (b20 2), .ref (b20 3), .ref (b20 4)])), (b20 0, .inl (cI, 3, .inl (fun _ => 0))), (b20 1, .inl (cI, 3, .inl (fun _ => 0))), (b20 2, .inl (cZ, 3, .inl (fun _ => 0))), (b20 3, .inl (cI, 3, .inl (fun _ => 0))), (b20 4, .inl (cI, 3, .inl (fun _ => 0))), (q27, .inr (0, [.ref (b31 0), .ref (b31 1), .ref (b31 2), .ref (b31 3), .int 0])), (b31 0, .inl (cI, 20, .inl (fun _ => 0))), (b31 1, .inl (cI, 20, .inl (fun _ => 0))), (b31 2, .inl (cI, 20, .inl (fun _ => 0))), (b31 3, .inl (cI, 20, .inl (fun _ => 0))), (q38, .inr (1, [.ref (b42 0), .ref (b42 1), .ref (b42 2), .int 0, .int 0, .int 0, .int 0, .int 0])), (b42 0, .inl (cI, 4, .inl (fun _ => 0))), (b42 1, .inl (cI, 4, .inl (fun _ => 0))), (b42 2, .inl (cZ, 4, .inl (fun _ => 0)))] H := hP
  have hD : va_D A [(h0, .inr (4, [.ref q5, .ref q16, .ref q27, .ref q38, .int 0, .int 0, .int 0, .int (-1), .int 0, .int 0, .int 0, .int 0, .int 0, .int 0])), (q5, .inr (2, [.ref (b9 0), .ref (b9 1)])), (b9 0, .inl (cI, 4, .inl (fun _ => 0))), (b9 1, .inl (cI, 4, .inl (fun _ => 0))), (q16, .inr (3, [.ref (b20 0), .ref (b20 1), .ref (b20 2), .ref (b20 3), .ref (b20 4)])), (b20 0, .inl (cI, 3, .inl (fun _ => 0))), (b20 1, .inl (cI, 3, .inl (fun _ => 0))), (b20 2, .inl (cZ, 3, .inl (fun _ => 0))), (b20 3, .inl (cI, 3, .inl (fun _ => 0))), (b20 4, .inl (cI, 3, .inl (fun _ => 0))), (q27, .inr (0, [.ref (b31 0), .ref (b31 1), .ref (b31 2), .ref (b31 3), .int 0])), (b31 0, .inl (cI, 20, .inl (fun _ => 0))), (b31 1, .inl (cI, 20, .inl (fun _ => 0))), (b31 2, .inl (cI, 20, .inl (fun _ => 0))), (b31 3, .inl (cI, 20, .inl (fun _ => 0))), (q38, .inr (1, [.ref (b42 0), .ref (b42 1), .ref (b42 2), .int 0, .int 0, .int 0, .int 0, .int 0])), (b42 0, .inl (cI, 4, .inl (fun _ => 0))), (b42 1, .inl (cI, 4, .inl (fun _ => 0))), (b42 2, .inl (cZ, 4, .inl (fun _ => 0)))] := hD
  refine lv_aload_n hx hb dX4_init_53 rfl (lv_at hl 0 rfl) ?_
  refine lv_iconst (v := (-1)) hx hb dX4_init_54 (by decide) ?_
  refine va_put (D := D) (ci := 4) (v := .int (-1)) (ty := .int) (C := RX4) (T := TX4) (N := 14) hx hb hts hiX4 tyX4 tyX4_ok nmX4 hown hK hP hD hS 0 rfl rfl 8 (by decide) hw21 (fun _ h9 => h9) rfl (by decide +kernel) rfl rfl (Nat.le_of_ble_eq_true rfl) dX4_init_55 (fun H locs hP hD hS => ?_)
  have hP : va_P D vwCl [(h0, .inr (4, [.ref q5, .ref q16, .ref q27, .ref q38, .int 0, .int 0, .int 0, .int (-1), .int (-1), .int 0, .int 0, .int 0, .int 0, .int 0])), (q5, .inr (2, [.ref (b9 0), .ref (b9 1)])), (b9 0, .inl (cI, 4, .inl (fun _ => 0))), (b9 1, .inl (cI, 4, .inl (fun _ => 0))), (q16, .inr (3, [.ref (b20 0), .ref (b20 1), .ref (b20 2), .ref (b20 3), .ref (b20 4)])), (b20 0, .inl (cI, 3, .inl (fun _ => 0))), (b20 1, .inl (cI, 3, .inl (fun _ => 0))), (b20 2, .inl (cZ, 3, .inl (fun _ => 0))), (b20 3, .inl (cI, 3, .inl (fun _ => 0))), (b20 4, .inl (cI, 3, .inl (fun _ => 0))), (q27, .inr (0, [.ref (b31 0), .ref (b31 1), .ref (b31 2), .ref (b31 3), .int 0])), (b31 0, .inl (cI, 20, .inl (fun _ => 0))), (b31 1, .inl (cI, 20, .inl (fun _ => 0))), (b31 2, .inl (cI, 20, .inl (fun _ => 0))), (b31 3, .inl (cI, 20, .inl (fun _ => 0))), (q38, .inr (1, [.ref (b42 0), .ref (b42 1), .ref (b42 2), .int 0, .int 0, .int 0, .int 0, .int 0])), (b42 0, .inl (cI, 4, .inl (fun _ => 0))), (b42 1, .inl (cI, 4, .inl (fun _ => 0))), (b42 2, .inl (cZ, 4, .inl (fun _ => 0)))] H := hP
  have hD : va_D A [(h0, .inr (4, [.ref q5, .ref q16, .ref q27, .ref q38, .int 0, .int 0, .int 0, .int (-1), .int (-1), .int 0, .int 0, .int 0, .int 0, .int 0])), (q5, .inr (2, [.ref (b9 0), .ref (b9 1)])), (b9 0, .inl (cI, 4, .inl (fun _ => 0))), (b9 1, .inl (cI, 4, .inl (fun _ => 0))), (q16, .inr (3, [.ref (b20 0), .ref (b20 1), .ref (b20 2), .ref (b20 3), .ref (b20 4)])), (b20 0, .inl (cI, 3, .inl (fun _ => 0))), (b20 1, .inl (cI, 3, .inl (fun _ => 0))), (b20 2, .inl (cZ, 3, .inl (fun _ => 0))), (b20 3, .inl (cI, 3, .inl (fun _ => 0))), (b20 4, .inl (cI, 3, .inl (fun _ => 0))), (q27, .inr (0, [.ref (b31 0), .ref (b31 1), .ref (b31 2), .ref (b31 3), .int 0])), (b31 0, .inl (cI, 20, .inl (fun _ => 0))), (b31 1, .inl (cI, 20, .inl (fun _ => 0))), (b31 2, .inl (cI, 20, .inl (fun _ => 0))), (b31 3, .inl (cI, 20, .inl (fun _ => 0))), (q38, .inr (1, [.ref (b42 0), .ref (b42 1), .ref (b42 2), .int 0, .int 0, .int 0, .int 0, .int 0])), (b42 0, .inl (cI, 4, .inl (fun _ => 0))), (b42 1, .inl (cI, 4, .inl (fun _ => 0))), (b42 2, .inl (cZ, 4, .inl (fun _ => 0)))] := hD
  have hP9 := hP.sub (ws' := (pg_wB cI cZ (fun k => ([h0, q5, q16, q27, q38, b9 0, b9 1, b20 0, b20 1, b20 2, b20 3, b20 4, b31 0, b31 1, b31 2, b31 3, b42 0, b42 1, b42 2] : List Nat).getD k 0) (upd (upd (fun _ => 0) 3 (-1)) 4 (-1), fun _ _ => 0))) [0, 1, 4, 10, 15, 2, 3, 5, 6, 7, 8, 9, 11, 12, 13, 14, 16, 17, 18] rfl
  have hD9 := hD.sub (ws' := (pg_wB cI cZ (fun k => ([h0, q5, q16, q27, q38, b9 0, b9 1, b20 0, b20 1, b20 2, b20 3, b20 4, b31 0, b31 1, b31 2, b31 3, b42 0, b42 1, b42 2] : List Nat).getD k 0) (upd (upd (fun _ => 0) 3 (-1)) 4 (-1), fun _ _ => 0))) [0, 1, 4, 10, 15, 2, 3, 5, 6, 7, 8, 9, 11, 12, 13, 14, 16, 17, 18] (by decide) rfl
  exact W.vret hx hb hr (fun t9 ht9 hW9 => ⟨⟨(fun k => ([h0, q5, q16, q27, q38, b9 0, b9 1, b20 0, b20 1, b20 2, b20 3, b20 4, b31 0, b31 1, b31 2, b31 3, b42 0, b42 1, b42 2] : List Nat).getD k 0), rfl, rfl, by rw [ht9]; exact hP9, va_K.moved hW9.alike hK, hD9⟩, hS.F ht9⟩) hS.2.2 dX4_init_58
end
section
/-! numbers -/
theorem pg_bmod {z : Int} (h1 : -2147483648 ≤ z) (h2 : z < 2147483648) : z.bmod (2 ^ 32) = z := by
  rw [Int.bmod_eq_of_le (by omega) (by omega)]
theorem pg_addI {x y : Int32} (h1 : -2147483648 ≤ x.toInt + y.toInt) (h2 : x.toInt + y.toInt < 2147483648) : (x + y).toInt = x.toInt + y.toInt := by
  rw [Int32.toInt_add, pg_bmod h1 h2]
theorem pg_subI {x y : Int32} (h1 : -2147483648 ≤ x.toInt - y.toInt) (h2 : x.toInt - y.toInt < 2147483648) : (x - y).toInt = x.toInt - y.toInt := by
  rw [Int32.toInt_sub, pg_bmod h1 h2]
theorem pg_i0 : (0 : Int32).toInt = 0 := by decide
theorem pg_im1 : (-1 : Int32).toInt = -1 := by decide
/-- from 0 to N -/
def pg_bb (x : Int32) (N : Nat) : Prop := 0 ≤ x.toInt ∧ x.toInt ≤ (N : Int)
theorem pg_bb0 (N : Nat) : pg_bb 0 N := ⟨by rw [pg_i0]; omega, by rw [pg_i0]; omega⟩
theorem pg_bb.le {x : Int32} {N M : Nat} (h : pg_bb x N) (hm : N ≤ M) : pg_bb x M := ⟨h.1, by have := h.2; omega⟩
theorem pg_bb_if {c : Prop} [Decidable c] {x y : Int32} {N : Nat} (h1 : pg_bb x N) (h2 : pg_bb y N) : pg_bb (if c then x else y) N := by by_cases h : c <;> simp [h, h1, h2]
theorem pg_bb_nI {n N : Nat} (h : n ≤ N) (hN : N < 2147483648) : pg_bb (nI n) N := by
  have e : (nI n).toInt = (n : Int) := nI_toInt (by omega)
  exact ⟨by omega, by omega⟩
theorem pg_sm_bb {f : Nat → Int32} {B : Nat} : ∀ {n : Nat}, n * B < 2147483648 → (∀ k, k < n → pg_bb (f k) B) → pg_bb (pg_sm f n) (n * B)
  | 0, _, _ => pg_bb0 _
  | n + 1, hn, h => by
    have e2 : (n + 1) * B = n * B + B := Nat.succ_mul n B
    rw [e2] at hn ⊢
    obtain ⟨h1, h2⟩ := pg_sm_bb (n := n) (by omega) (fun k hk => h k (by omega))
    obtain ⟨h3, h4⟩ := h n (by omega)
    generalize n * B = M at *
    have e : (pg_sm f (n + 1)).toInt = (pg_sm f n).toInt + (f n).toInt := pg_addI (by omega) (by omega)
    exact ⟨by omega, by omega⟩
theorem pg_sm_mono {f g : Nat → Int32} {B : Nat} : ∀ {n : Nat}, n * B < 2147483648 → (∀ k, k < n → pg_bb (f k) B) → (∀ k, k < n → pg_bb (g k) B) → (∀ k, k < n → (f k).toInt ≤ (g k).toInt) → (pg_sm f n).toInt ≤ (pg_sm g n).toInt
  | 0, _, _, _, _ => Int.le_refl _
  | n + 1, hn, hf, hg, h => by
    have e2 : (n + 1) * B = n * B + B := Nat.succ_mul n B
    rw [e2] at hn
    have i1 := pg_sm_mono (n := n) (by omega) (fun k hk => hf k (by omega)) (fun k hk => hg k (by omega)) (fun k hk => h k (by omega))
    obtain ⟨a1, a2⟩ := pg_sm_bb (f := f) (n := n) (by omega) (fun k hk => hf k (by omega))
    obtain ⟨b1, b2⟩ := pg_sm_bb (f := g) (n := n) (by omega) (fun k hk => hg k (by omega))
    obtain ⟨c1, c2⟩ := hf n (by omega)
    obtain ⟨d1, d2⟩ := hg n (by omega)
    generalize n * B = M at *
    have e1 : (pg_sm f (n + 1)).toInt = (pg_sm f n).toInt + (f n).toInt := pg_addI (by omega) (by omega)
    have e3 : (pg_sm g (n + 1)).toInt = (pg_sm g n).toInt + (g n).toInt := pg_addI (by omega) (by omega)
    have := h n (by omega)
    rw [e1, e3]; omega
theorem pg_minI (x y : Int32) : (pg_min x y).toInt = min x.toInt y.toInt := by
  unfold pg_min
  by_cases h : y < x
  · rw [if_pos h]; have := (pg_toI_lt y x).mp h; omega
  · rw [if_neg h]
    have : ¬ y.toInt < x.toInt := fun q => h ((pg_toI_lt y x).mpr q)
    omega
theorem pg_maxI (x y : Int32) : (pg_max x y).toInt = max x.toInt y.toInt := by
  unfold pg_max
  by_cases h : x < y
  · rw [if_pos h]; have := (pg_toI_lt x y).mp h; omega
  · rw [if_neg h]
    have : ¬ x.toInt < y.toInt := fun q => h ((pg_toI_lt x y).mpr q)
    omega
theorem pg_updk (f : Nat → Int32) (k : Nat) (x : Int32) : upd f k x k = x := if_pos rfl
theorem pg_updn (f : Nat → Int32) {k j : Nat} (x : Int32) (h : j ≠ k) : upd f k x j = f j := if_neg h
theorem pg_rowk (r : Nat → Nat → Int32) (j : Nat) (f : Nat → Int32) : pg_row r j f j = f := if_pos rfl
theorem pg_rown (r : Nat → Nat → Int32) {j i : Nat} (f : Nat → Int32) (h : i ≠ j) : pg_row r j f i = r i := if_neg h
theorem pg_eqI {x y : Int32} (h : x.toInt = y.toInt) : x = y := Int32.toInt_inj.mp h
theorem pg_not_lt {x y : Int32} (h : y.toInt ≤ x.toInt) : ¬ x < y := fun q => by have := (pg_toI_lt x y).mp q; omega
/-! ## what is due -/
def pg_St10 (r : Nat → Nat → Int32) (n : Nat) : Prop := ∀ k, k < n → r 10 k = -1 ∨ pg_bb (r 10 k) 300000
theorem pg_set_tb {r : Nat → Nat → Int32} {n : Nat} (hc : pg_St10 r n) (k le : Int32) : ∀ j, j < n → pg_bb (if r 7 j = k then (if r 10 j = -1 then 0 else if r 10 j < le then 0 else r 10 j) else 0) 300000 := by
  intro j hj
  refine pg_bb_if ?_ (pg_bb0 _)
  rcases hc j hj with h | h
  · rw [if_pos h]; exact pg_bb0 _
  · exact pg_bb_if (pg_bb0 _) (pg_bb_if (pg_bb0 _) h)
theorem pg_set_bb {r : Nat → Nat → Int32} {n : Nat} (h20 : n ≤ 20) (hc : pg_St10 r n) (k le : Int32) : pg_bb (pg_set r n k le) 6000000 :=
  (pg_sm_bb (B := 300000) (by omega) (pg_set_tb hc k le)).le (by omega)
theorem pg_past_bb {r : Nat → Nat → Int32} {k : Nat} {x : Int32} {S : Nat} (hS : S < 2000000000) (hx : pg_bb x S) (hb : pg_bb (r 3 k) 40000) : pg_bb (pg_past r k x) S := by
  unfold pg_past
  obtain ⟨h1, h2⟩ := hx
  obtain ⟨h3, h4⟩ := hb
  by_cases q : r 4 k = 0
  · rw [if_pos q]
    by_cases q2 : x ≤ r 3 k
    · rw [if_pos q2]; exact pg_bb0 _
    · rw [if_neg q2]
      have q3 : ¬ x.toInt ≤ (r 3 k).toInt := fun z => q2 ((pg_toI_le _ _).mpr z)
      have e := pg_subI (x := x) (y := r 3 k) (by omega) (by omega)
      exact ⟨by omega, by omega⟩
  · rw [if_neg q]
    exact pg_bb_if (pg_bb0 _) ⟨h1, h2⟩
theorem pg_past_mono {r : Nat → Nat → Int32} {k : Nat} {x y : Int32} {S : Nat} (hS : S < 2000000000) (hx : pg_bb x S) (hy : pg_bb y S) (hb : pg_bb (r 3 k) 40000) (hxy : x.toInt ≤ y.toInt) : (pg_past r k x).toInt ≤ (pg_past r k y).toInt := by
  have hB := (pg_past_bb (k := k) hS hy hb).1
  unfold pg_past at hB ⊢
  obtain ⟨h1, h2⟩ := hx
  obtain ⟨h5, h6⟩ := hy
  obtain ⟨h3, h4⟩ := hb
  by_cases q : r 4 k = 0
  · rw [if_pos q] at hB ⊢
    rw [if_pos q]
    by_cases q2 : x ≤ r 3 k
    · rw [if_pos q2, pg_i0]; exact hB
    · rw [if_neg q2]
      have q3 : ¬ x.toInt ≤ (r 3 k).toInt := fun z => q2 ((pg_toI_le _ _).mpr z)
      have q4 : ¬ y ≤ r 3 k := fun z => by have := (pg_toI_le _ _).mp z; omega
      rw [if_neg q4]
      have e := pg_subI (x := x) (y := r 3 k) (by omega) (by omega)
      have e2 := pg_subI (x := y) (y := r 3 k) (by omega) (by omega)
      omega
  · rw [if_neg q] at hB ⊢
    rw [if_neg q]
    by_cases q2 : x < r 3 k
    · rw [if_pos q2, pg_i0]; exact hB
    · rw [if_neg q2]
      have q3 : ¬ x.toInt < (r 3 k).toInt := fun z => q2 ((pg_toI_lt _ _).mpr z)
      have q4 : ¬ y < r 3 k := fun z => by have := (pg_toI_lt _ _).mp z; omega
      rw [if_neg q4]; exact hxy
/-- the terms' rows: amounts, baskets, caps, last days, the years' amounts -/
def pg_Tr (r : Nat → Nat → Int32) (ld : Nat → Int32) : Prop := (∀ k, k < 4 → pg_bb (r 0 k) 300000) ∧ (∀ k, k < 3 → pg_bb (r 3 k) 40000) ∧ (∀ k, k < 3 → pg_bb (r 5 k) 500000) ∧ (∀ k, k < 3 → r 6 k = ld k) ∧ (∀ k, k < 4 → pg_bb (r 12 k) 200000)
theorem pg_due_bb {r : Nat → Nat → Int32} {ld : Nat → Int32} {n k : Nat} (h20 : n ≤ 20) (ht : pg_Tr r ld) (hc : pg_St10 r n) (hk : k < 3) : pg_bb (pg_due r n k) 500000 := by
  obtain ⟨h1, h2⟩ := pg_past_bb (k := k) (by decide) (pg_set_bb h20 hc (nI k) (r 2 k)) (ht.2.1 k hk)
  obtain ⟨h3, h4⟩ := ht.2.2.1 k hk
  have e := pg_minI (pg_past r k (pg_set r n (nI k) (r 2 k))) (r 5 k)
  exact ⟨by unfold pg_due; omega, by unfold pg_due; omega⟩
theorem pg_all_bb {r : Nat → Nat → Int32} {ld : Nat → Int32} {n : Nat} (h20 : n ≤ 20) (ht : pg_Tr r ld) (hc : pg_St10 r n) : pg_bb (pg_all r n) 1500000 :=
  (pg_sm_bb (f := pg_due r n) (n := 3) (B := 500000) (by decide) (fun k hk => pg_due_bb h20 ht hc hk)).le (by decide)
theorem pg_all_cong {r r' : Nat → Nat → Int32} (h2 : r' 2 = r 2) (h3 : r' 3 = r 3) (h4 : r' 4 = r 4) (h5 : r' 5 = r 5) {n m : Nat} (hs : ∀ k le, pg_set r' m k le = pg_set r n k le) : pg_all r' m = pg_all r n := by
  unfold pg_all
  rw [show pg_due r' m = pg_due r n from funext fun k => by unfold pg_due pg_past; rw [hs, h2, h3, h4, h5]]
theorem pg_all_same {r r' : Nat → Nat → Int32} (h2 : r' 2 = r 2) (h3 : r' 3 = r 3) (h4 : r' 4 = r 4) (h5 : r' 5 = r 5) (h7 : r' 7 = r 7) (h10 : r' 10 = r 10) (n : Nat) : pg_all r' n = pg_all r n :=
  pg_all_cong h2 h3 h4 h5 (fun k le => by unfold pg_set; rw [h7, h10])
/-- settling raises what is due -/
theorem pg_all_up {r : Nat → Nat → Int32} {ld : Nat → Int32} {n c : Nat} {x : Int32} (h20 : n ≤ 20) (ht : pg_Tr r ld) (hc : pg_St10 r n) (hx : pg_bb x 300000) (h0 : r 10 c = -1) : pg_St10 (pg_row r 10 (upd (r 10) c x)) n ∧ (pg_all r n).toInt ≤ (pg_all (pg_row r 10 (upd (r 10) c x)) n).toInt := by
  have hc2 : pg_St10 (pg_row r 10 (upd (r 10) c x)) n := by
    intro k hk
    rw [pg_rowk]
    by_cases e : k = c
    · rw [e, pg_updk]; exact Or.inr hx
    · rw [pg_updn _ _ e]; exact hc k hk
  have ht2 : pg_Tr (pg_row r 10 (upd (r 10) c x)) ld := ht
  refine ⟨hc2, ?_⟩
  refine pg_sm_mono (f := pg_due r n) (g := pg_due (pg_row r 10 (upd (r 10) c x)) n) (n := 3) (B := 500000) (by decide) (fun k hk => pg_due_bb h20 ht hc hk) (fun k hk => pg_due_bb h20 ht2 hc2 hk) (fun k hk => ?_)
  have hs : (pg_set r n (nI k) (r 2 k)).toInt ≤ (pg_set (pg_row r 10 (upd (r 10) c x)) n (nI k) (r 2 k)).toInt := by
    refine pg_sm_mono (B := 300000) (by omega) (pg_set_tb hc _ _) (pg_set_tb hc2 _ _) (fun j hj => ?_)
    by_cases e : j = c
    · have hz : (if r 7 j = nI k then (if r 10 j = -1 then 0 else if r 10 j < r 2 k then 0 else r 10 j) else 0) = (0 : Int32) := by
        rw [e, h0]; simp
      rw [hz, pg_i0]
      exact (pg_set_tb hc2 (nI k) (r 2 k) j hj).1
    · have e2 : pg_row r 10 (upd (r 10) c x) 10 j = r 10 j := by rw [pg_rowk, pg_updn _ _ e]
      have e3 : pg_row r 10 (upd (r 10) c x) 7 j = r 7 j := rfl
      rw [e2, e3]; exact Int.le_refl _
  have hp := pg_past_mono (r := r) (k := k) (by decide) (pg_set_bb h20 hc (nI k) (r 2 k)) (pg_set_bb h20 hc2 (nI k) (r 2 k)) (ht.2.1 k hk) hs
  have e1 := pg_minI (pg_past r k (pg_set r n (nI k) (r 2 k))) (r 5 k)
  have e2 := pg_minI (pg_past r k (pg_set (pg_row r 10 (upd (r 10) c x)) n (nI k) (r 2 k))) (r 5 k)
  show (pg_min (pg_past r k (pg_set r n (nI k) (r 2 k))) (r 5 k)).toInt ≤ (pg_min (pg_past r k (pg_set (pg_row r 10 (upd (r 10) c x)) n (nI k) (r 2 k))) (r 5 k)).toInt
  omega
/-- a new claim is open: nothing is due of it -/
theorem pg_all_new {u : pg_St} {n : Nat} (k x : Int32) : pg_all (pg_claim u n k x).2 (n + 1) = pg_all u.2 n := by
  have er : ∀ i, i ≠ 7 → i ≠ 8 → i ≠ 9 → i ≠ 10 → (pg_claim u n k x).2 i = u.2 i := fun i a b c d => by
    show pg_row (pg_row (pg_row (pg_row u.2 7 _) 8 _) 9 _) 10 _ i = u.2 i
    rw [pg_rown _ _ d, pg_rown _ _ c, pg_rown _ _ b, pg_rown _ _ a]
  have e10 : ∀ j, (pg_claim u n k x).2 10 j = upd (u.2 10) n (-1) j := fun j => rfl
  have e7 : ∀ j, (pg_claim u n k x).2 7 j = upd (u.2 7) n k j := fun j => rfl
  generalize (pg_claim u n k x).2 = r at er e10 e7 ⊢
  refine pg_all_cong (r := u.2) (r' := r) (er 2 (by decide) (by decide) (by decide) (by decide)) (er 3 (by decide) (by decide) (by decide) (by decide)) (er 4 (by decide) (by decide) (by decide) (by decide)) (er 5 (by decide) (by decide) (by decide) (by decide)) (fun k2 le => ?_)
  show pg_set r n k2 le + (if r 7 n = k2 then (if r 10 n = -1 then 0 else if r 10 n < le then 0 else r 10 n) else 0) = _
  rw [e10 n, pg_updk]
  have hz : (if r 7 n = k2 then (if (-1 : Int32) = -1 then 0 else if (-1 : Int32) < le then 0 else (-1 : Int32)) else 0) = (0 : Int32) := by simp
  rw [hz, pg_a0]
  refine pg_sm_cong (fun j hj => ?_)
  show (if r 7 j = k2 then (if r 10 j = -1 then 0 else if r 10 j < le then 0 else r 10 j) else 0) = _
  rw [e10 j, e7 j, pg_updn _ _ (by omega), pg_updn _ _ (by omega)]
/-! ## what is kept -/
def pg_Am (r : Nat → Nat → Int32) (n : Nat) : Prop := ∀ k, k < n → pg_bb (r 8 k) 300000
theorem pg_kept_bb {u : pg_St} {ld : Nat → Int32} {n : Nat} (h20 : n ≤ 20) (ht : pg_Tr u.2 ld) (ha : pg_Am u.2 n) (d : Int32) : pg_bb (pg_kept u n d) 7200000 := by
  obtain ⟨o1, o2⟩ := (pg_sm_bb (f := fun k => if u.2 10 k = -1 then u.2 8 k else 0) (n := n) (B := 300000) (by omega) (fun k hk => pg_bb_if (ha k hk) (pg_bb0 _))).le (show n * 300000 ≤ 6000000 by omega)
  obtain ⟨p1, p2⟩ := pg_sm_bb (f := fun k => if u.2 1 k ≤ d then 0 else u.2 0 k) (n := 4) (B := 300000) (by decide) (fun k hk => pg_bb_if (pg_bb0 _) (ht.1 k hk))
  have e : (pg_kept u n d).toInt = (pg_after u.2 d).toInt + (pg_open u.2 n).toInt := pg_addI (by simp only [pg_after, pg_open]; omega) (by simp only [pg_after, pg_open]; omega)
  simp only [pg_after, pg_open] at e
  exact ⟨by omega, by omega⟩
/-! ## the money -/
def pg_Mo (u : pg_St) (n d N : Nat) : Prop := u.1 3 = nI d ∧ d ≤ 3700 ∧ 0 ≤ (u.1 5).toInt ∧ 0 ≤ (u.1 7).toInt ∧ (u.1 5).toInt + (u.1 7).toInt ≤ (u.1 4).toInt ∧ (u.1 4).toInt ≤ 5000000 ∧ 0 ≤ (u.1 8).toInt ∧ (u.1 8).toInt ≤ (u.1 9).toInt ∧ (u.1 9).toInt ≤ (N : Int) * 800000 ∧ 0 ≤ (u.1 6).toInt ∧ (u.1 6).toInt + (u.1 5).toInt + (u.1 7).toInt + (u.1 8).toInt = (u.1 4).toInt + (u.1 9).toInt ∧ (u.1 7).toInt + (u.1 8).toInt ≤ (pg_all u.2 n).toInt
/-- the same scalars, and as much due -/
theorem pg_Mo.same {u u' : pg_St} {n n' d N : Nat} (h : pg_Mo u n d N) (hs : ∀ k, 3 ≤ k → k ≤ 9 → u'.1 k = u.1 k) (ha : (pg_all u.2 n).toInt ≤ (pg_all u'.2 n').toInt) : pg_Mo u' n' d N := by
  unfold pg_Mo at h ⊢
  rw [hs 3 (by decide) (by decide), hs 4 (by decide) (by decide), hs 5 (by decide) (by decide), hs 6 (by decide) (by decide), hs 7 (by decide) (by decide), hs 8 (by decide) (by decide), hs 9 (by decide) (by decide)]
  refine ⟨h.1, h.2.1, h.2.2.1, h.2.2.2.1, h.2.2.2.2.1, h.2.2.2.2.2.1, h.2.2.2.2.2.2.1, h.2.2.2.2.2.2.2.1, h.2.2.2.2.2.2.2.2.1, h.2.2.2.2.2.2.2.2.2.1, h.2.2.2.2.2.2.2.2.2.2.1, ?_⟩
  have := h.2.2.2.2.2.2.2.2.2.2.2
  omega
theorem pg_Mo.day {u : pg_St} {n d d' N : Nat} (h : pg_Mo u n d N) (hd : d' ≤ 3700) : pg_Mo (upd u.1 3 (nI d'), u.2) n d' N := ⟨rfl, hd, h.2.2⟩
theorem pg_Mo.free {u : pg_St} {n d N : Nat} (h : pg_Mo u n d N) (hN : N ≤ 5) {x : Int32} (hk : pg_bb (pg_kept u n x) 7200000) : pg_Mo (pg_free u n x) n d N ∧ ((pg_free u n x).1 5).toInt ≤ (u.1 5).toInt := by
  by_cases q : u.1 5 ≤ pg_kept u n x
  · rw [pg_free, if_pos q]; exact ⟨h, Int.le_refl _⟩
  · obtain ⟨k1, k2⟩ := hk
    have q2 : ¬ (u.1 5).toInt ≤ (pg_kept u n x).toInt := fun z => q ((pg_toI_le _ _).mpr z)
    obtain ⟨h1, h2, h3, h4, h5, h6, h7, h8, h9, h10, h11, h12⟩ := h
    have e1 : (u.1 5 - pg_kept u n x).toInt = (u.1 5).toInt - (pg_kept u n x).toInt := pg_subI (by omega) (by omega)
    have e2 : (u.1 6 + (u.1 5 - pg_kept u n x)).toInt = (u.1 6).toInt + (u.1 5 - pg_kept u n x).toInt := pg_addI (by omega) (by omega)
    have f5 : (pg_free u n x).1 5 = pg_kept u n x := by rw [pg_free, if_neg q]; rfl
    have f6 : (pg_free u n x).1 6 = u.1 6 + (u.1 5 - pg_kept u n x) := by rw [pg_free, if_neg q]; rfl
    have fo : ∀ k, k ≠ 5 → k ≠ 6 → (pg_free u n x).1 k = u.1 k := fun k a b => pg_free_o u n x a b
    unfold pg_Mo
    rw [f5, f6, fo 3 (by decide) (by decide), fo 4 (by decide) (by decide), fo 7 (by decide) (by decide), fo 8 (by decide) (by decide), fo 9 (by decide) (by decide), pg_free_r]
    refine ⟨⟨h1, h2, by omega, h4, by omega, h6, h7, h8, h9, by omega, by omega, h12⟩, by omega⟩
theorem pg_outI {u : pg_St} {n d N : Nat} (h : pg_Mo u n d N) (hb : pg_bb (pg_all u.2 n) 1500000) : (pg_out u n).toInt = (pg_all u.2 n).toInt - (u.1 7).toInt - (u.1 8).toInt := by
  obtain ⟨b1, b2⟩ := hb
  obtain ⟨h1, h2, h3, h4, h5, h6, h7, h8, h9, h10, h11, h12⟩ := h
  have e1 : (pg_all u.2 n - u.1 7).toInt = (pg_all u.2 n).toInt - (u.1 7).toInt := pg_subI (by omega) (by omega)
  have e2 : (pg_all u.2 n - u.1 7 - u.1 8).toInt = (pg_all u.2 n - u.1 7).toInt - (u.1 8).toInt := pg_subI (by omega) (by omega)
  show (pg_all u.2 n - u.1 7 - u.1 8).toInt = _
  omega
theorem pg_Mo.ret {u : pg_St} {n d N : Nat} (h : pg_Mo u n d N) (hN : N ≤ 5) (hb : pg_bb (pg_all u.2 n) 1500000) : pg_Mo (pg_ret u n) n d N ∧ (pg_out (pg_ret u n) n = 0 ∨ (pg_ret u n).1 5 = 0) := by
  have e0 := pg_outI h hb
  have h' := h
  obtain ⟨b1, b2⟩ := id hb
  obtain ⟨h1, h2, h3, h4, h5, h6, h7, h8, h9, h10, h11, h12⟩ := h
  have eb : (pg_back u n).toInt = min (pg_out u n).toInt (u.1 5).toInt := pg_minI _ _
  have e5 : (u.1 5 - pg_back u n).toInt = (u.1 5).toInt - (pg_back u n).toInt := pg_subI (by omega) (by omega)
  have e7 : (u.1 7 + pg_back u n).toInt = (u.1 7).toInt + (pg_back u n).toInt := pg_addI (by omega) (by omega)
  have f5 : (pg_ret u n).1 5 = u.1 5 - pg_back u n := rfl
  have f7 : (pg_ret u n).1 7 = u.1 7 + pg_back u n := rfl
  have fo : ∀ k, k ≠ 5 → k ≠ 7 → (pg_ret u n).1 k = u.1 k := fun k a b => by
    show upd (upd u.1 5 _) 7 _ k = _
    rw [pg_updn _ _ b, pg_updn _ _ a]
  have fr : (pg_ret u n).2 = u.2 := rfl
  have hM : pg_Mo (pg_ret u n) n d N := by
    unfold pg_Mo
    rw [f5, f7, fo 3 (by decide) (by decide), fo 4 (by decide) (by decide), fo 6 (by decide) (by decide), fo 8 (by decide) (by decide), fo 9 (by decide) (by decide), fr]
    exact ⟨h1, h2, by omega, by omega, by omega, h6, h7, h8, h9, h10, by omega, by omega⟩
  refine ⟨hM, ?_⟩
  have e1 := pg_outI hM (by rw [fr]; exact hb)
  rw [f7, fo 8 (by decide) (by decide), fr] at e1
  by_cases q : (pg_out u n).toInt ≤ (u.1 5).toInt
  · exact Or.inl (pg_eqI (by rw [pg_i0]; omega))
  · exact Or.inr (pg_eqI (by rw [pg_i0, f5]; omega))
theorem pg_Mo.owe {u : pg_St} {n d N : Nat} (h : pg_Mo u n d N) (hN : N ≤ 4) (hb : pg_bb (pg_all u.2 n) 1500000) {x : Int32} (hx : pg_bb x 800000) : pg_Mo (pg_owe u n x) n d (N + 1) := by
  have e0 := pg_outI h hb
  obtain ⟨b1, b2⟩ := hb
  obtain ⟨x1, x2⟩ := hx
  obtain ⟨h1, h2, h3, h4, h5, h6, h7, h8, h9, h10, h11, h12⟩ := h
  have eb : (pg_min x (pg_out u n)).toInt = min x.toInt (pg_out u n).toInt := pg_minI _ _
  have e9 : (u.1 9 + x).toInt = (u.1 9).toInt + x.toInt := pg_addI (by omega) (by omega)
  have e8 : (u.1 8 + pg_min x (pg_out u n)).toInt = (u.1 8).toInt + (pg_min x (pg_out u n)).toInt := pg_addI (by omega) (by omega)
  have e6a : (x - pg_min x (pg_out u n)).toInt = x.toInt - (pg_min x (pg_out u n)).toInt := pg_subI (by omega) (by omega)
  have e6 : (u.1 6 + (x - pg_min x (pg_out u n))).toInt = (u.1 6).toInt + (x - pg_min x (pg_out u n)).toInt := pg_addI (by omega) (by omega)
  have f6 : (pg_owe u n x).1 6 = u.1 6 + (x - pg_min x (pg_out u n)) := rfl
  have f8 : (pg_owe u n x).1 8 = u.1 8 + pg_min x (pg_out u n) := rfl
  have f9 : (pg_owe u n x).1 9 = u.1 9 + x := rfl
  have fo : ∀ k, k ≠ 6 → k ≠ 8 → k ≠ 9 → (pg_owe u n x).1 k = u.1 k := fun k a b c => by
    show upd (upd (upd u.1 9 _) 8 _) 6 _ k = _
    rw [pg_updn _ _ a, pg_updn _ _ b, pg_updn _ _ c]
  have fr : (pg_owe u n x).2 = u.2 := rfl
  unfold pg_Mo
  rw [f6, f8, f9, fo 3 (by decide) (by decide) (by decide), fo 4 (by decide) (by decide) (by decide), fo 5 (by decide) (by decide) (by decide), fo 7 (by decide) (by decide) (by decide), fr]
  exact ⟨h1, h2, h3, h4, h5, h6, by omega, by omega, by omega, by omega, by omega, by omega⟩
theorem pg_msum_bb {r : Nat → Nat → Int32} {ld : Nat → Int32} (ht : pg_Tr r ld) (i : Nat) {j : Nat} (hj : j ≤ 4) : pg_bb (pg_msum r i j) 800000 :=
  (pg_sm_bb (f := fun k => if k < i then 0 else if r 13 k = 0 then r 12 k else 0) (n := j) (B := 200000) (by omega) (fun k hk => pg_bb_if (pg_bb0 _) (pg_bb_if (ht.2.2.2.2 k (by omega)) (pg_bb0 _)))).le (by omega)
/-! ## the law's invariant: n claims with the amounts am, t years told, z: sped up -/
def pg_Cm (u : pg_St) (n : Nat) (am : Nat → Int32) : Prop := u.1 10 = nI n ∧ n ≤ 20 ∧ (∀ k, k < n → am k = u.2 8 k) ∧ (∀ k, k < n → u.2 9 k = -1 ∨ u.2 9 k = 0) ∧ pg_St10 u.2 n ∧ (∀ k, k < 20 → pg_bb (am k) 300000)
def pg_Yr (u : pg_St) (t z : Nat) : Prop := u.1 13 = nI t ∧ t ≤ 4 ∧ u.1 12 = nI z ∧ z ≤ 1 ∧ ∀ k, k < 4 → u.2 13 k = 0 ∨ u.2 13 k = 1
def pg_J (u : pg_St) (ld am : Nat → Int32) (n t z : Nat) : Prop := pg_Tr u.2 ld ∧ pg_Cm u n am ∧ pg_Yr u t z ∧ ∃ d, pg_Mo u n d (t + z)
section
variable {u : pg_St} {ld am : Nat → Int32} {n t z : Nat}
theorem pg_J.amo (h : pg_J u ld am n t z) : pg_Am u.2 n := fun k hk => by rw [← h.2.1.2.2.1 k hk]; exact h.2.1.2.2.2.2.2 k (by have := h.2.1.2.1; omega)
theorem pg_J.all (h : pg_J u ld am n t z) : pg_bb (pg_all u.2 n) 1500000 := pg_all_bb h.2.1.2.1 h.1 h.2.1.2.2.2.2.1
theorem pg_J.N (h : pg_J u ld am n t z) : t + z ≤ 5 := by have := h.2.2.1.2.1; have := h.2.2.1.2.2.2.1; omega
theorem pg_J.kept (h : pg_J u ld am n t z) (d : Int32) : pg_bb (pg_kept u n d) 7200000 := pg_kept_bb h.2.1.2.1 h.1 h.amo d
/-- what isWhole asks -/
theorem pg_J.whole (h : pg_J u ld am n t z) : u.1 6 + u.1 5 + u.1 7 + u.1 8 = u.1 4 + u.1 9 ∧ ¬ pg_out u n < 0 ∧ ¬ u.1 5 < 0 ∧ ¬ u.1 6 < 0 ∧ ¬ u.1 9 < u.1 8 ∧ ¬ u.1 4 < u.1 7 := by
  have hall := h.all
  have hN := h.N
  obtain ⟨-, -, -, d, hm⟩ := h
  have e0 := pg_outI hm hall
  obtain ⟨b1, b2⟩ := hall
  obtain ⟨h1, h2, h3, h4, h5, h6, h7, h8, h9, h10, h11, h12⟩ := hm
  have a1 : (u.1 6 + u.1 5).toInt = (u.1 6).toInt + (u.1 5).toInt := pg_addI (by omega) (by omega)
  have a2 : (u.1 6 + u.1 5 + u.1 7).toInt = (u.1 6 + u.1 5).toInt + (u.1 7).toInt := pg_addI (by omega) (by omega)
  have a3 : (u.1 6 + u.1 5 + u.1 7 + u.1 8).toInt = (u.1 6 + u.1 5 + u.1 7).toInt + (u.1 8).toInt := pg_addI (by omega) (by omega)
  have a4 : (u.1 4 + u.1 9).toInt = (u.1 4).toInt + (u.1 9).toInt := pg_addI (by omega) (by omega)
  exact ⟨pg_eqI (by omega), pg_not_lt (by rw [pg_i0]; omega), pg_not_lt (by rw [pg_i0]; omega), pg_not_lt (by rw [pg_i0]; omega), pg_not_lt (by omega), pg_not_lt (by omega)⟩
/-- days pass -/
def pz_adv (u : pg_St) (n : Nat) (x : Int32) : pg_St := pg_free (upd u.1 3 (u.1 3 + x), u.2) n (u.1 3 + x)
theorem pg_J.adv (h : pg_J u ld am n t z) {q d : Nat} (hd : u.1 3 = nI d) (hd2 : d < 3500) (hq : q ≤ 200) : pg_J (pz_adv u n (nI q)) ld am n t z ∧ (pz_adv u n (nI q)).1 3 = u.1 3 + nI q ∧ (pz_adv u n (nI q)).1 7 = u.1 7 ∧ ¬ u.1 5 < (pz_adv u n (nI q)).1 5 := by
  have hk := h.kept (u.1 3 + nI q)
  have hN := h.N
  obtain ⟨h1, h2, h3, d0, hm⟩ := h
  have e3 : u.1 3 + nI q = nI (d + q) := by rw [hd, nI_add]
  have hm2 : pg_Mo (upd u.1 3 (u.1 3 + nI q), u.2) n (d + q) (t + z) := by rw [e3]; exact hm.day (by omega)
  obtain ⟨m1, m2⟩ := hm2.free hN (x := u.1 3 + nI q) hk
  have fo : ∀ k, k ≠ 5 → k ≠ 6 → (pz_adv u n (nI q)).1 k = upd u.1 3 (u.1 3 + nI q) k := fun k a b => pg_free_o _ n _ a b
  have fr : (pz_adv u n (nI q)).2 = u.2 := pg_free_r _ n _
  refine ⟨⟨?_, ?_, ?_, d + q, m1⟩, ?_, ?_, pg_not_lt m2⟩
  · rw [fr]; exact h1
  · unfold pg_Cm at h2 ⊢; rw [fr, fo 10 (by decide) (by decide)]; exact h2
  · unfold pg_Yr at h3 ⊢; rw [fr, fo 13 (by decide) (by decide), fo 12 (by decide) (by decide)]; exact h3
  · rw [fo 3 (by decide) (by decide)]; rfl
  · rw [fo 7 (by decide) (by decide)]; rfl
/-- an offer of 0 -/
def pz_off (u : pg_St) (c : Int32) : pg_St := (u.1, pg_row u.2 9 (upd (u.2 9) c.toNatClampNeg 0))
theorem pg_J.off (h : pg_J u ld am n t z) (c : Int32) : pg_J (pz_off u c) ld am n t z := by
  obtain ⟨h1, ⟨c1, c2, c3, c4, c5, c6⟩, h3, d, hm⟩ := h
  refine ⟨h1, ⟨c1, c2, c3, fun k hk => ?_, c5, c6⟩, h3, d, hm.same (fun _ _ _ => rfl) (Int.le_of_eq (congrArg Int32.toInt (pg_all_same (r := u.2) (r' := (pz_off u c).2) rfl rfl rfl rfl rfl rfl n).symm))⟩
  show upd (u.2 9) c.toNatClampNeg 0 k = -1 ∨ upd (u.2 9) c.toNatClampNeg 0 k = 0
  by_cases e : k = c.toNatClampNeg
  · rw [e, pg_updk]; exact Or.inr rfl
  · rw [pg_updn _ _ e]; exact c4 k hk
/-- an expert's number -/
def pz_dec (u : pg_St) (n : Nat) (c x : Int32) : pg_St := pg_pay (pg_at u c.toNatClampNeg x) n (u.1 3)
theorem pg_J.dec (h : pg_J u ld am n t z) {j : Nat} {x : Int32} (hx : pg_bb x 300000) (h0 : u.2 10 j = -1) : pg_J (pg_pay (pg_at u j x) n (u.1 3)) ld am n t z ∧ (pg_pay (pg_at u j x) n (u.1 3)).2 10 j = x ∧ (pg_pay (pg_at u j x) n (u.1 3)).1 7 = u.1 7 + pg_back (pg_at u j x) n ∧ ¬ pg_all (pg_pay (pg_at u j x) n (u.1 3)).2 n < pg_all u.2 n ∧ (pg_out (pg_pay (pg_at u j x) n (u.1 3)) n = 0 ∨ (pg_pay (pg_at u j x) n (u.1 3)).1 5 = 0) := by
  have hN := h.N
  have ham := h.amo
  obtain ⟨h1, h2, h3, d, hm⟩ := h
  obtain ⟨s1, s2⟩ := pg_all_up (c := j) h2.2.1 h1 h2.2.2.2.2.1 hx h0
  have hT1 : pg_Tr (pg_at u j x).2 ld := h1
  have hA1 : pg_Am (pg_at u j x).2 n := ham
  have hb1 : pg_bb (pg_all (pg_at u j x).2 n) 1500000 := pg_all_bb h2.2.1 hT1 s1
  have hm1 : pg_Mo (pg_at u j x) n d (t + z) := hm.same (fun _ _ _ => rfl) s2
  obtain ⟨hm2, ho2⟩ := hm1.ret hN hb1
  have hk2 : pg_bb (pg_kept (pg_ret (pg_at u j x) n) n (u.1 3)) 7200000 := pg_kept_bb (u := pg_ret (pg_at u j x) n) h2.2.1 hT1 hA1 _
  obtain ⟨hm3, hl3⟩ := hm2.free hN hk2
  have fr : (pg_pay (pg_at u j x) n (u.1 3)).2 = pg_row u.2 10 (upd (u.2 10) j x) := pg_free_r _ n _
  have fo : ∀ k, k ≠ 5 → k ≠ 6 → (pg_pay (pg_at u j x) n (u.1 3)).1 k = upd (upd u.1 5 (u.1 5 - pg_back (pg_at u j x) n)) 7 (u.1 7 + pg_back (pg_at u j x) n) k := fun k a b => pg_free_o _ n _ a b
  refine ⟨⟨?_, ?_, ?_, d, hm3⟩, ?_, ?_, ?_, ?_⟩
  · rw [fr]; exact h1
  · unfold pg_Cm at h2 ⊢; rw [fr, fo 10 (by decide) (by decide)]; exact ⟨h2.1, h2.2.1, h2.2.2.1, h2.2.2.2.1, s1, h2.2.2.2.2.2⟩
  · unfold pg_Yr at h3 ⊢; rw [fr, fo 13 (by decide) (by decide), fo 12 (by decide) (by decide)]; exact h3
  · rw [fr, pg_rowk, pg_updk]
  · rw [fo 7 (by decide) (by decide), pg_updk]
  · rw [fr]; exact pg_not_lt s2
  · rcases ho2 with q | q
    · refine Or.inl ?_
      rw [← q]
      show pg_all (pg_free (pg_ret (pg_at u j x) n) n (u.1 3)).2 n - (pg_free (pg_ret (pg_at u j x) n) n (u.1 3)).1 7 - (pg_free (pg_ret (pg_at u j x) n) n (u.1 3)).1 8 = _
      rw [pg_free_r, pg_free_o _ n _ (by decide) (by decide), pg_free_o _ n _ (by decide) (by decide)]
      rfl
    · refine Or.inr (pg_eqI ?_)
      rw [q, pg_i0] at hl3
      have := hm3.2.2.1
      rw [pg_i0]
      show ((pg_free (pg_ret (pg_at u j x) n) n (u.1 3)).1 5).toInt = 0
      omega
/-- a claim -/
theorem pg_J.claim (h : pg_J u ld am n t z) (hn : n < 20) {k x : Int32} (hx : pg_bb x 300000) : pg_J (pg_claim u n k x) ld (upd am n x) (n + 1) t z := by
  obtain ⟨h1, ⟨c1, c2, c3, c4, c5, c6⟩, h3, d, hm⟩ := h
  refine ⟨h1, ⟨rfl, by omega, fun j hj => ?_, fun j hj => ?_, fun j hj => ?_, fun j hj => ?_⟩, h3, d, hm.same (fun k h1 h2 => pg_updn _ _ (by omega)) (Int.le_of_eq (congrArg Int32.toInt (pg_all_new k x).symm))⟩
  · show upd am n x j = upd (u.2 8) n x j
    by_cases e : j = n
    · rw [e, pg_updk, pg_updk]
    · rw [pg_updn _ _ e, pg_updn _ _ e]; exact c3 j (by omega)
  · show upd (u.2 9) n (-1) j = -1 ∨ upd (u.2 9) n (-1) j = 0
    by_cases e : j = n
    · rw [e, pg_updk]; exact Or.inl rfl
    · rw [pg_updn _ _ e]; exact c4 j (by omega)
  · show upd (u.2 10) n (-1) j = -1 ∨ pg_bb (upd (u.2 10) n (-1) j) 300000
    by_cases e : j = n
    · rw [e, pg_updk]; exact Or.inl rfl
    · rw [pg_updn _ _ e]; exact c5 j (by omega)
  · by_cases e : j = n
    · rw [e, pg_updk]; exact hx
    · rw [pg_updn _ _ e]; exact c6 j hj
theorem pg_met_01 {r : Nat → Nat → Int32} {i j y : Nat} (h : r 13 y = 0 ∨ r 13 y = 1) : pg_met r i j y = 0 ∨ pg_met r i j y = 1 := by
  unfold pg_met
  by_cases g : i ≤ y ∧ y < j
  · rw [if_pos g]
    by_cases q : r 13 y = 0
    · rw [if_pos q]; exact Or.inr rfl
    · rw [if_neg q]; exact h
  · rw [if_neg g]; exact h
/-- a report -/
theorem pg_J.rep (h : pg_J u ld am n t z) (ht : t < 4) (x : Int32) : pg_J (pg_owe (pg_tell u t x) n (pg_tellr u t x)) ld am n (t + 1) z ∧ pg_bb (pg_tellr u t x) 800000 := by
  have hall := h.all
  obtain ⟨h1, h2, h3, d, hm⟩ := h
  have hx : pg_bb (pg_tellr u t x) 800000 := pg_msum_bb h1 _ (by omega)
  have hs : pg_all (pg_tell u t x).2 n = pg_all u.2 n := pg_all_same (r := u.2) (r' := (pg_tell u t x).2) rfl rfl rfl rfl rfl rfl n
  have hm1 : pg_Mo (pg_tell u t x) n d (t + z) := hm.same (fun k a b => by
    show upd (upd (upd u.1 13 _) 14 _) 15 _ k = _
    rw [pg_updn _ _ (by omega), pg_updn _ _ (by omega), pg_updn _ _ (by omega)]) (by rw [hs]; exact Int.le_refl _)
  have hm2 := hm1.owe (by have := h3.2.2.2.1; omega) (by rw [hs]; exact hall) hx
  refine ⟨⟨h1, h2, ⟨rfl, by omega, h3.2.2.1, h3.2.2.2.1, fun k hk => pg_met_01 (h3.2.2.2.2 k hk)⟩, d, ?_⟩, hx⟩
  rw [show t + 1 + z = t + z + 1 by omega]; exact hm2
/-- speeding up -/
theorem pg_J.has (h : pg_J u ld am n t 0) : pg_J (pg_owe (pg_has u t) n (pg_hasr u t)) ld am n t 1 ∧ pg_bb (pg_hasr u t) 800000 ∧ (t < 4 → ¬ (pg_owe (pg_has u t) n (pg_hasr u t)).2 13 3 = 0) := by
  have hall := h.all
  obtain ⟨h1, h2, h3, d, hm⟩ := h
  have hx : pg_bb (pg_hasr u t) 800000 := pg_msum_bb h1 _ (by omega)
  have hs : pg_all (pg_has u t).2 n = pg_all u.2 n := pg_all_same (r := u.2) (r' := (pg_has u t).2) rfl rfl rfl rfl rfl rfl n
  have hm1 : pg_Mo (pg_has u t) n d (t + 0) := hm.same (fun k a b => pg_updn _ _ (by omega)) (by rw [hs]; exact Int.le_refl _)
  have hm2 := hm1.owe (by have := h3.2.1; omega) (by rw [hs]; exact hall) hx
  refine ⟨⟨h1, h2, ⟨h3.1, h3.2.1, rfl, by omega, fun k hk => pg_met_01 (h3.2.2.2.2 k hk)⟩, d, hm2⟩, hx, fun ht => ?_⟩
  show ¬ pg_met u.2 t 4 3 = 0
  unfold pg_met
  rw [if_pos ⟨by omega, by decide⟩]
  by_cases q : u.2 13 3 = 0
  · rw [if_pos q]; decide
  · rw [if_neg q]; exact q
end
end
section
/-! what the law reads: told(s, k) -/
def pz_T (xs : Nat → Int32) (L : Nat) (k : Nat) : Nat := (if k < L then xs k else 40009 * (nI k + 5) * (nI k + 6) : Int32).toBitVec.toNat % 2 ^ 31
theorem pz_T_lt (xs : Nat → Int32) (L : Nat) (k : Nat) : pz_T xs L k < 2 ^ 31 := Nat.mod_lt _ (by decide)
/-! the terms, call by call -/
def tm_price (u : pg_St) (x y z : Int32) : pg_St := (upd (upd (upd u.1 0 x) 1 y) 2 z, u.2)
def tm_part (u : pg_St) (k x d : Int32) : pg_St := (u.1, pg_row (pg_row u.2 0 (upd (u.2 0) k.toNatClampNeg x)) 1 (upd (u.2 1) k.toNatClampNeg d))
def tm_year (u : pg_St) (k x d : Int32) : pg_St := (u.1, pg_row (pg_row u.2 11 (upd (u.2 11) k.toNatClampNeg x)) 12 (upd (u.2 12) k.toNatClampNeg d))
def tm_kind (u : pg_St) (k x y b z d : Int32) : pg_St := (u.1, pg_row (pg_row (pg_row (pg_row (pg_row u.2 2 (upd (u.2 2) k.toNatClampNeg x)) 3 (upd (u.2 3) k.toNatClampNeg y)) 4 (upd (u.2 4) k.toNatClampNeg b)) 5 (upd (u.2 5) k.toNatClampNeg z)) 6 (upd (u.2 6) k.toNatClampNeg d))
def tm_carry (u : pg_St) (b : Int32) : pg_St := (upd u.1 11 b, u.2)
def tm_b (v : Nat) : Int32 := if v % 2 = 0 then 1 else 0
def tm_c (v : Nat) : Int32 := if v % 3 = 0 then 0 else 1
def tm_0 (T : Nat → Nat) (u : pg_St) : pg_St := tm_price u (nI (T 0 % 3000000)) (nI (T 1 % 400000) - nI 200000) (nI (T 2 % 50000))
def tm_1 (T : Nat → Nat) (u : pg_St) : Nat → pg_St
  | 0 => u
  | i + 1 => tm_year (tm_part (tm_1 T u i) (nI i) (nI (T (i + 3) % 300000)) (nI (1 + T (i + 3) / 300000 % 900))) (nI i) (nI (T (i + 7) % 90000)) (nI (T (i + 7) / 90000 % 20000 * 10))
def tm_2 (T : Nat → Nat) (u : pg_St) : Nat → pg_St
  | 0 => u
  | i + 1 => tm_kind (tm_2 T u i) (nI i) (nI (T (i + 11) % 3000)) (nI (T (i + 11) / 3000 % 40000)) (tm_b (T (i + 11))) (nI (T (i + 11) / 11 % 500000)) (nI (T (i + 11) / 77 % 1500))
def tm_end (T : Nat → Nat) (u : pg_St) : pg_St := tm_carry (tm_2 T (tm_1 T (tm_0 T u) 4) 3) (tm_c (T 14))
/-- the last days that the law keeps -/
def tm_ld (T : Nat → Nat) (k : Nat) : Int32 := nI (T (k + 11) / 77 % 1500)
theorem tm_1s (T : Nat → Nat) (u : pg_St) : ∀ i, (tm_1 T u i).1 = u.1
  | 0 => rfl
  | i + 1 => tm_1s T u i
theorem tm_2s (T : Nat → Nat) (u : pg_St) : ∀ i, (tm_2 T u i).1 = u.1
  | 0 => rfl
  | i + 1 => tm_2s T u i
/-! ## nothing is thrown -/
theorem pg_inL {n : Nat} {lo hi : Int32} {x y : Int} (h1 : lo.toInt = x) (h2 : hi.toInt = y) (hn : n < 2 ^ 31) (g1 : x ≤ n) (g2 : (n : Int) ≤ y) : pg_in (nI n) lo hi = true := (pg_in_iff _ _ _).mpr ⟨by rw [h1, nI_toInt hn]; exact g1, by rw [h2, nI_toInt hn]; exact g2⟩
theorem pg_nbL {n m : Nat} (h : n < m) (hm : m < 2 ^ 31) : pg_nb (nI n) (nI m) = true := (pg_nb_iff _ _).mpr (by rw [nI_toInt (by omega), nI_toInt hm]; omega)
theorem pg_inS {n m : Nat} {lo hi : Int32} {x y : Int} (h1 : lo.toInt = x) (h2 : hi.toInt = y) (hn : n < 2 ^ 30) (hm : m < 2 ^ 30) (g1 : x ≤ (n : Int) - m) (g2 : (n : Int) - m ≤ y) : pg_in (nI n - nI m) lo hi = true := (pg_in_iff _ _ _).mpr ⟨by rw [h1, pk_sub_toInt hn hm]; exact g1, by rw [h2, pk_sub_toInt hn hm]; exact g2⟩
theorem pg_mod {a m : Nat} (h : 0 < m) : a % m < m := Nat.mod_lt a h
theorem pg_e1 : pg_eq (-1) (-1) = true := by decide
section
variable {u : pg_St} (a b c : Nat)
theorem tm_hPrice (h3 : u.1 3 = -1) : pg_t_setPrice (!pg_eq (u.1 3) (-1)) (nI (a % 3000000)) (nI (b % 400000) - nI 200000) (nI (c % 50000)) = 0 := by
  have e1 : pg_in (nI (a % 3000000)) 0 10000000 = true := pg_inL (x := 0) (y := 10000000) (by decide) (by decide) (by omega) (by omega) (by omega)
  have e2 : pg_in (nI (b % 400000) - nI 200000) (-10000000) 10000000 = true := pg_inS (x := -10000000) (y := 10000000) (by decide) (by decide) (by omega) (by omega) (by omega) (by omega)
  have e3 : pg_in (nI (c % 50000)) 0 10000000 = true := pg_inL (x := 0) (y := 10000000) (by decide) (by decide) (by omega) (by omega) (by omega)
  unfold pg_t_setPrice
  rw [e1, e2, e3, h3, pg_e1]; rfl
theorem tm_hPart (h3 : u.1 3 = -1) {i : Nat} (hi : i < 4) : pg_t_setPart (!pg_eq (u.1 3) (-1)) (nI i) (nI (a % 300000)) (nI (1 + b / 300000 % 900)) = 0 := by
  have e0 : pg_nb (nI i) 4 = true := pg_nbL (m := 4) hi (by decide)
  have e1 : pg_in (nI (a % 300000)) 0 10000000 = true := pg_inL (x := 0) (y := 10000000) (by decide) (by decide) (by omega) (by omega) (by omega)
  have e2 : pg_in (nI (1 + b / 300000 % 900)) 1 2000 = true := pg_inL (x := 1) (y := 2000) (by decide) (by decide) (by omega) (by omega) (by omega)
  unfold pg_t_setPart
  rw [e0, e1, e2, h3, pg_e1]; rfl
theorem tm_hYear (h3 : u.1 3 = -1) {i : Nat} (hi : i < 4) : pg_t_setYear (!pg_eq (u.1 3) (-1)) (nI i) (nI (a % 90000)) (nI (b / 90000 % 20000 * 10)) = 0 := by
  have e0 : pg_nb (nI i) 4 = true := pg_nbL (m := 4) hi (by decide)
  have e1 : pg_in (nI (a % 90000)) 0 10000000 = true := pg_inL (x := 0) (y := 10000000) (by decide) (by decide) (by omega) (by omega) (by omega)
  have e2 : pg_in (nI (b / 90000 % 20000 * 10)) 0 10000000 = true := pg_inL (x := 0) (y := 10000000) (by decide) (by decide) (by omega) (by omega) (by omega)
  unfold pg_t_setYear
  rw [e0, e1, e2, h3, pg_e1]; rfl
theorem tm_hKind (h3 : u.1 3 = -1) {i : Nat} (hi : i < 3) : pg_t_setKind (!pg_eq (u.1 3) (-1)) (nI i) (nI (a % 3000)) (nI (a / 3000 % 40000)) (nI (a / 11 % 500000)) (nI (a / 77 % 1500)) = 0 := by
  have e0 : pg_nb (nI i) 3 = true := pg_nbL (m := 3) hi (by decide)
  have e1 : pg_in (nI (a % 3000)) 0 10000000 = true := pg_inL (x := 0) (y := 10000000) (by decide) (by decide) (by omega) (by omega) (by omega)
  have e2 : pg_in (nI (a / 3000 % 40000)) 0 10000000 = true := pg_inL (x := 0) (y := 10000000) (by decide) (by decide) (by omega) (by omega) (by omega)
  have e4 : pg_in (nI (a / 11 % 500000)) 0 100000000 = true := pg_inL (x := 0) (y := 100000000) (by decide) (by decide) (by omega) (by omega) (by omega)
  have e5 : pg_in (nI (a / 77 % 1500)) 0 2000 = true := pg_inL (x := 0) (y := 2000) (by decide) (by decide) (by omega) (by omega) (by omega)
  unfold pg_t_setKind
  rw [e0, e1, e2, e4, e5, h3, pg_e1]; rfl
theorem tm_hCarry (h3 : u.1 3 = -1) : pg_t_setCarry (!pg_eq (u.1 3) (-1)) = 0 := by
  unfold pg_t_setCarry
  rw [h3, pg_e1]; rfl
theorem tm_hClose (h3 : u.1 3 = -1) : pg_t_close (!pg_eq (u.1 3) (-1)) (nI (a % 500000)) (nI (b % 500000)) (nI (c % 600000) - nI 300000) = 0 := by
  have e1 : pg_in (nI (a % 500000)) 0 10000000 = true := pg_inL (x := 0) (y := 10000000) (by decide) (by decide) (by omega) (by omega) (by omega)
  have e2 : pg_in (nI (b % 500000)) 0 10000000 = true := pg_inL (x := 0) (y := 10000000) (by decide) (by decide) (by omega) (by omega) (by omega)
  have e3 : pg_in (nI (c % 600000) - nI 300000) (-10000000) 10000000 = true := pg_inS (x := -10000000) (y := 10000000) (by decide) (by decide) (by omega) (by omega) (by omega) (by omega)
  unfold pg_t_close
  rw [e1, e2, e3, h3, pg_e1]; rfl
end
theorem tm_b01 (v : Nat) : vp_nar .boolean (tm_b v) = tm_b v := by
  unfold tm_b
  by_cases h : v % 2 = 0
  · rw [if_pos h]; rfl
  · rw [if_neg h]; rfl
theorem tm_c01 (v : Nat) : tm_c v = 0 ∨ tm_c v = 1 := by
  unfold tm_c
  by_cases h : v % 3 = 0
  · exact Or.inl (if_pos h)
  · exact Or.inr (if_neg h)
/-! ## what the terms are -/
theorem pg_upd_nI {f : Nat → Int32} {i k : Nat} {x : Int32} {P : Int32 → Prop} (hi : i < 2 ^ 31) (hx : k = i → P x) (hf : k ≠ i → P (f k)) : P (upd f (nI i).toNatClampNeg x k) := by
  rw [nI_clamp hi]
  by_cases e : k = i
  · rw [e, pg_updk]; exact hx e
  · rw [pg_updn _ _ e]; exact hf e
theorem tm_1r (T : Nat → Nat) (u : pg_St) (h0 : ∀ k, k < 4 → pg_bb (u.2 0 k) 300000) (h12 : ∀ k, k < 4 → pg_bb (u.2 12 k) 200000) : ∀ i, i ≤ 4 → (∀ k, k < 4 → pg_bb ((tm_1 T u i).2 0 k) 300000) ∧ (∀ k, k < 4 → pg_bb ((tm_1 T u i).2 12 k) 200000) ∧ (∀ j, j ≠ 0 → j ≠ 1 → j ≠ 11 → j ≠ 12 → (tm_1 T u i).2 j = u.2 j)
  | 0, _ => ⟨h0, h12, fun _ _ _ _ _ => rfl⟩
  | i + 1, hi => by
    obtain ⟨i1, i2, i3⟩ := tm_1r T u h0 h12 i (by omega)
    have e0 : (tm_1 T u (i + 1)).2 0 = upd ((tm_1 T u i).2 0) (nI i).toNatClampNeg (nI (T (i + 3) % 300000)) := rfl
    have e12 : (tm_1 T u (i + 1)).2 12 = upd ((tm_1 T u i).2 12) (nI i).toNatClampNeg (nI (T (i + 7) / 90000 % 20000 * 10)) := rfl
    refine ⟨fun k hk => ?_, fun k hk => ?_, fun j a b c d => ?_⟩
    · rw [e0]; exact pg_upd_nI (P := fun z => pg_bb z 300000) (by omega) (fun _ => pg_bb_nI (by omega) (by decide)) (fun _ => i1 k hk)
    · rw [e12]; exact pg_upd_nI (P := fun z => pg_bb z 200000) (by omega) (fun _ => pg_bb_nI (by omega) (by decide)) (fun _ => i2 k hk)
    · show pg_row (pg_row (pg_row (pg_row (tm_1 T u i).2 0 _) 1 _) 11 _) 12 _ j = _
      rw [pg_rown _ _ d, pg_rown _ _ c, pg_rown _ _ b, pg_rown _ _ a]; exact i3 j a b c d
theorem tm_2r (T : Nat → Nat) (u : pg_St) (h3 : ∀ k, k < 3 → pg_bb (u.2 3 k) 40000) (h5 : ∀ k, k < 3 → pg_bb (u.2 5 k) 500000) : ∀ i, i ≤ 3 → (∀ k, k < 3 → pg_bb ((tm_2 T u i).2 3 k) 40000) ∧ (∀ k, k < 3 → pg_bb ((tm_2 T u i).2 5 k) 500000) ∧ (∀ k, k < i → (tm_2 T u i).2 6 k = tm_ld T k) ∧ (∀ j, j ≠ 2 → j ≠ 3 → j ≠ 4 → j ≠ 5 → j ≠ 6 → (tm_2 T u i).2 j = u.2 j)
  | 0, _ => ⟨h3, h5, fun k hk => absurd hk (Nat.not_lt_zero k), fun _ _ _ _ _ _ => rfl⟩
  | i + 1, hi => by
    obtain ⟨i1, i2, i3, i4⟩ := tm_2r T u h3 h5 i (by omega)
    have e3 : (tm_2 T u (i + 1)).2 3 = upd ((tm_2 T u i).2 3) (nI i).toNatClampNeg (nI (T (i + 11) / 3000 % 40000)) := rfl
    have e5 : (tm_2 T u (i + 1)).2 5 = upd ((tm_2 T u i).2 5) (nI i).toNatClampNeg (nI (T (i + 11) / 11 % 500000)) := rfl
    have e6 : (tm_2 T u (i + 1)).2 6 = upd ((tm_2 T u i).2 6) (nI i).toNatClampNeg (nI (T (i + 11) / 77 % 1500)) := rfl
    refine ⟨fun k hk => ?_, fun k hk => ?_, fun k hk => ?_, fun j a b c d f => ?_⟩
    · rw [e3]; exact pg_upd_nI (P := fun z => pg_bb z 40000) (by omega) (fun _ => pg_bb_nI (by omega) (by decide)) (fun _ => i1 k hk)
    · rw [e5]; exact pg_upd_nI (P := fun z => pg_bb z 500000) (by omega) (fun _ => pg_bb_nI (by omega) (by decide)) (fun _ => i2 k hk)
    · rw [e6]; exact pg_upd_nI (P := fun z => z = tm_ld T k) (by omega) (fun e => by rw [e]; rfl) (fun e => i3 k (by omega))
    · show pg_row (pg_row (pg_row (pg_row (pg_row (tm_2 T u i).2 2 _) 3 _) 4 _) 5 _) 6 _ j = _
      rw [pg_rown _ _ f, pg_rown _ _ d, pg_rown _ _ c, pg_rown _ _ b, pg_rown _ _ a]; exact i4 j a b c d f
/-- a new object -/
def tm_u0 : pg_St := (upd (upd (fun _ => 0) 3 (-1)) 4 (-1), fun _ _ => 0)
theorem tm_ends (T : Nat → Nat) (u : pg_St) : (tm_end T u).1 = upd (upd (upd (upd u.1 0 (nI (T 0 % 3000000))) 1 (nI (T 1 % 400000) - nI 200000)) 2 (nI (T 2 % 50000))) 11 (tm_c (T 14)) := by
  show upd (tm_2 T (tm_1 T (tm_0 T u) 4) 3).1 11 _ = _
  rw [tm_2s, tm_1s]; rfl
theorem tm_endr (T : Nat → Nat) : pg_Tr (tm_end T tm_u0).2 (tm_ld T) ∧ ∀ k, (tm_end T tm_u0).2 13 k = 0 := by
  obtain ⟨i1, i2, i3⟩ := tm_1r T (tm_0 T tm_u0) (fun _ _ => pg_bb0 _) (fun _ _ => pg_bb0 _) 4 (by decide)
  obtain ⟨j1, j2, j3, j4⟩ := tm_2r T (tm_1 T (tm_0 T tm_u0) 4) (fun k _ => by rw [i3 3 (by decide) (by decide) (by decide) (by decide)]; exact pg_bb0 _) (fun k _ => by rw [i3 5 (by decide) (by decide) (by decide) (by decide)]; exact pg_bb0 _) 3 (by decide)
  have er : (tm_end T tm_u0).2 = (tm_2 T (tm_1 T (tm_0 T tm_u0) 4) 3).2 := rfl
  have e0 : (tm_0 T tm_u0).2 = fun _ _ => 0 := rfl
  rw [er]
  refine ⟨⟨fun k hk => ?_, j1, j2, j3, fun k hk => ?_⟩, fun k => ?_⟩
  · rw [j4 0 (by decide) (by decide) (by decide) (by decide) (by decide)]; exact i1 k hk
  · rw [j4 12 (by decide) (by decide) (by decide) (by decide) (by decide)]; exact i2 k hk
  · rw [j4 13 (by decide) (by decide) (by decide) (by decide) (by decide), i3 13 (by decide) (by decide) (by decide) (by decide), e0]
/-! ## closing -/
theorem pg_colI {v : Nat → Int32} {d : Int32} (hc : pg_bb (v 2) 50000) (h1 : -1000000 ≤ d.toInt) (h2 : d.toInt ≤ 1000000) : -1050000 ≤ (pg_col v d).toInt ∧ (pg_col v d).toInt ≤ 1050000 := by
  obtain ⟨c1, c2⟩ := hc
  unfold pg_col
  have e1 : (d + v 2).toInt = d.toInt + (v 2).toInt := pg_addI (by omega) (by omega)
  have e2 : (d - v 2).toInt = d.toInt - (v 2).toInt := pg_subI (by omega) (by omega)
  by_cases q : d ≤ v 2
  · rw [if_pos q]
    by_cases q2 : -(v 2) ≤ d
    · rw [if_pos q2, pg_i0]; omega
    · rw [if_neg q2]; omega
  · rw [if_neg q]; omega
theorem pg_J0 (T : Nat → Nat) : pg_J (pg_close (tm_end T tm_u0) (nI (T 15 % 500000)) (nI (T 16 % 500000)) (nI (T 17 % 600000) - nI 300000)) (tm_ld T) (fun _ => 0) 0 0 0 := by
  obtain ⟨hT, h13⟩ := tm_endr T
  have hs := tm_ends T tm_u0
  have e0 : (tm_end T tm_u0).1 0 = nI (T 0 % 3000000) := by rw [hs]; rfl
  have e1 : (tm_end T tm_u0).1 1 = nI (T 1 % 400000) - nI 200000 := by rw [hs]; rfl
  have e2 : (tm_end T tm_u0).1 2 = nI (T 2 % 50000) := by rw [hs]; rfl
  have e7 : (tm_end T tm_u0).1 7 = 0 := by rw [hs]; rfl
  have e8 : (tm_end T tm_u0).1 8 = 0 := by rw [hs]; rfl
  have e9 : (tm_end T tm_u0).1 9 = 0 := by rw [hs]; rfl
  have e10 : (tm_end T tm_u0).1 10 = 0 := by rw [hs]; rfl
  have e12 : (tm_end T tm_u0).1 12 = 0 := by rw [hs]; rfl
  have e13 : (tm_end T tm_u0).1 13 = 0 := by rw [hs]; rfl
  generalize tm_end T tm_u0 = u at *
  have b0 : pg_bb (u.1 0) 3000000 := by rw [e0]; exact pg_bb_nI (by omega) (by decide)
  have b1 : (u.1 1).toInt = (T 1 % 400000 : Nat) - (200000 : Nat) := by rw [e1]; exact pk_sub_toInt (by omega) (by decide)
  have b2 : pg_bb (u.1 2) 50000 := by rw [e2]; exact pg_bb_nI (by omega) (by decide)
  have bx : pg_bb (nI (T 15 % 500000)) 500000 := pg_bb_nI (by omega) (by decide)
  have by' : pg_bb (nI (T 16 % 500000)) 500000 := pg_bb_nI (by omega) (by decide)
  have bz : (nI (T 17 % 600000) - nI 300000).toInt = (T 17 % 600000 : Nat) - (300000 : Nat) := pk_sub_toInt (by omega) (by decide)
  have m1 : T 1 % 400000 < 400000 := Nat.mod_lt _ (by decide)
  have m17 : T 17 % 600000 < 600000 := Nat.mod_lt _ (by decide)
  generalize nI (T 15 % 500000) = x at *
  generalize nI (T 16 % 500000) = y at *
  generalize nI (T 17 % 600000) - nI 300000 = z at *
  generalize T 1 % 400000 = p1 at *
  generalize T 17 % 600000 = p17 at *
  obtain ⟨x1, x2⟩ := bx
  obtain ⟨y1, y2⟩ := by'
  obtain ⟨q1, q2⟩ := b0
  have ed : (z - u.1 1).toInt = z.toInt - (u.1 1).toInt := pg_subI (by omega) (by omega)
  obtain ⟨c1, c2⟩ := pg_colI (v := u.1) (d := z - u.1 1) b2 (by omega) (by omega)
  have f1 : (u.1 0 + x).toInt = (u.1 0).toInt + x.toInt := pg_addI (by omega) (by omega)
  have f2 : (u.1 0 + x - y).toInt = (u.1 0 + x).toInt - y.toInt := pg_subI (by omega) (by omega)
  have f3 : (u.1 0 + x - y + pg_col u.1 (z - u.1 1)).toInt = (u.1 0 + x - y).toInt + (pg_col u.1 (z - u.1 1)).toInt := pg_addI (by omega) (by omega)
  have f4 : (pg_fin u x y z).toInt = max (0 : Int32).toInt (u.1 0 + x - y + pg_col u.1 (z - u.1 1)).toInt := pg_maxI _ _
  rw [pg_i0] at f4
  obtain ⟨s1, s2⟩ := pg_sm_bb (f := u.2 0) (n := 4) (B := 300000) (by decide) hT.1
  have f5 : (pg_hold u x y z).toInt = min (pg_sm (u.2 0) 4).toInt (pg_fin u x y z).toInt := pg_minI _ _
  have f6 : (pg_fin u x y z - pg_hold u x y z).toInt = (pg_fin u x y z).toInt - (pg_hold u x y z).toInt := pg_subI (by omega) (by omega)
  have ha := pg_all_bb (n := 0) (by decide) hT (fun k hk => absurd hk (Nat.not_lt_zero k))
  have g3 : (pg_close u x y z).1 3 = 0 := rfl
  have g4 : (pg_close u x y z).1 4 = pg_fin u x y z := rfl
  have g5 : (pg_close u x y z).1 5 = pg_hold u x y z := rfl
  have g6 : (pg_close u x y z).1 6 = pg_fin u x y z - pg_hold u x y z := rfl
  have go : ∀ k, k ≠ 3 → k ≠ 4 → k ≠ 5 → k ≠ 6 → (pg_close u x y z).1 k = u.1 k := fun k a b c d => by
    show upd (upd (upd (upd u.1 3 0) 4 _) 5 _) 6 _ k = u.1 k
    rw [pg_updn _ _ d, pg_updn _ _ c, pg_updn _ _ b, pg_updn _ _ a]
  have gr : (pg_close u x y z).2 = u.2 := rfl
  refine ⟨hT, ⟨?_, by decide, fun k hk => absurd hk (Nat.not_lt_zero k), fun k hk => absurd hk (Nat.not_lt_zero k), fun k hk => absurd hk (Nat.not_lt_zero k), fun _ _ => pg_bb0 _⟩, ⟨?_, by decide, ?_, by decide, fun k _ => Or.inl (h13 k)⟩, 0, ?_⟩
  · rw [go 10 (by decide) (by decide) (by decide) (by decide), e10]; rfl
  · rw [go 13 (by decide) (by decide) (by decide) (by decide), e13]; rfl
  · rw [go 12 (by decide) (by decide) (by decide) (by decide), e12]; rfl
  · unfold pg_Mo
    rw [g3, g4, g5, g6, go 7 (by decide) (by decide) (by decide) (by decide), go 8 (by decide) (by decide) (by decide) (by decide), go 9 (by decide) (by decide) (by decide) (by decide), e7, e8, e9, gr, pg_i0]
    obtain ⟨a1, a2⟩ := ha
    refine ⟨rfl, by decide, by omega, by omega, by omega, by omega, by omega, by omega, by omega, by omega, by omega, by omega⟩
end
section
theorem pg_n0i {k : Nat} (hk : k < 2 ^ 31) (h : nI k = 0) : k = 0 := (nI_eq hk (by decide)).mp (show nI k = nI 0 from h)
theorem pg_n0n {k : Nat} (h : ¬ nI k = 0) : ¬ k = 0 := fun q => h (by rw [q]; rfl)
theorem pg_nle0 {k : Nat} (hk : k < 2 ^ 31) (h : nI k ≤ 0) : k = 0 := by
  have := (nI_leI hk (by decide)).mp (show nI k ≤ nI 0 from h)
  omega
theorem pg_nle0n {k : Nat} (h : ¬ nI k ≤ 0) : ¬ k = 0 := fun q => h (by rw [q]; exact Int32.le_refl _)
theorem pg_acs (x y : Int32) : x + y - x = y := by
  rw [Int32.sub_eq_add_neg, Int32.add_comm x y, Int32.add_assoc, Int32.add_right_neg, Int32.add_zero]
theorem pg_numL {j n : Nat} (h : j < n) (hn : n < 2 ^ 31) : pg_t_num (nI j) (nI n) = 0 := by
  unfold pg_t_num
  rw [pg_nbL h hn]; rfl
theorem pg_bb_ex {x : Int32} {N : Nat} (h : pg_bb x N) (hN : N < 2 ^ 31) : ∃ q : Nat, q ≤ N ∧ x = nI q := by
  obtain ⟨h1, h2⟩ := h
  obtain ⟨q, hq, e⟩ := nI_of (x := x) (pg_not_lt (by rw [pg_i0]; exact h1))
  rw [e, nI_toInt hq] at h2
  exact ⟨q, by omega, e⟩
section PGM
variable {p : Program} {l : Launch} {e : Env} {R : Room} {s : State} {m : MethodId} {args : Array Value} {below : List Frame} {meth : Method} {c : Code} {H : Heap} {locs : List Loc} {cells slots : Nat} {Q : State → Prop}
variable {cc : ByteArray} {pc : Nat} {ls : Array Slot} {rest : List Value} {D : va_G} {A : Nat → Prop} {ws : va_W} {H0 : Heap} {Ts : List Cond} {own : String} {nL : Nat}
theorem pg_iaddM (hexec : p.tables.exec = Jvm.exec) (hb : c.code = cc) {k j : Nat} {x y : Int32} (hx : x = nI k) (hy : y = nI j) (hdg : decode cc pc = .ok (.iadd, 1))
    (kk : W p l e R s m args below meth c H locs cells slots Q (F0 m (pc + 1) ls (.int (nI (k + j)) :: rest))) : W p l e R s m args below meth c H locs cells slots Q (F0 m pc ls (.int y :: .int x :: rest)) := by
  subst hx; subst hy
  exact lv_iadd hexec hb hdg (by rw [nI_add]; exact kk)
theorem pg_imulM (hexec : p.tables.exec = Jvm.exec) (hb : c.code = cc) {k j : Nat} {x y : Int32} (hx : x = nI k) (hy : y = nI j) (hdg : decode cc pc = .ok (.imul, 1))
    (kk : W p l e R s m args below meth c H locs cells slots Q (F0 m (pc + 1) ls (.int (nI (k * j)) :: rest))) : W p l e R s m args below meth c H locs cells slots Q (F0 m pc ls (.int y :: .int x :: rest)) := by
  subst hx; subst hy
  exact lv_imul hexec hb hdg (by rw [pk_mul]; exact kk)
theorem pg_isubM (hexec : p.tables.exec = Jvm.exec) (hb : c.code = cc) {k j : Nat} {x y : Int32} (hx : x = nI k) (hy : y = nI j) (hdg : decode cc pc = .ok (.isub, 1))
    (kk : W p l e R s m args below meth c H locs cells slots Q (F0 m (pc + 1) ls (.int (nI k - nI j) :: rest))) : W p l e R s m args below meth c H locs cells slots Q (F0 m pc ls (.int y :: .int x :: rest)) := by
  subst hx; subst hy
  exact lv_isub hexec hb hdg kk
theorem pg_iremM (hexec : p.tables.exec = Jvm.exec) (hb : c.code = cc) {k j : Nat} {x y : Int32} (hx : x = nI k) (hy : y = nI j) (hk : k < 2 ^ 31) (h0 : 0 < j) (hj : j < 2 ^ 31) (hdg : decode cc pc = .ok (.irem, 1))
    (kk : W p l e R s m args below meth c H locs cells slots Q (F0 m (pc + 1) ls (.int (nI (k % j)) :: rest))) : W p l e R s m args below meth c H locs cells slots Q (F0 m pc ls (.int y :: .int x :: rest)) := by
  subst hx; subst hy
  exact lv_irem hexec hb hdg (nI_ne0 h0 hj) (by rw [pk_rem hk h0 hj]; exact kk)
theorem pg_idivM (hexec : p.tables.exec = Jvm.exec) (hb : c.code = cc) {k j : Nat} {x y : Int32} (hx : x = nI k) (hy : y = nI j) (hk : k < 2 ^ 31) (h0 : 0 < j) (hj : j < 2 ^ 31) (hdg : decode cc pc = .ok (.idiv, 1))
    (kk : W p l e R s m args below meth c H locs cells slots Q (F0 m (pc + 1) ls (.int (nI (k / j)) :: rest))) : W p l e R s m args below meth c H locs cells slots Q (F0 m pc ls (.int y :: .int x :: rest)) := by
  subst hx; subst hy
  exact lv_idiv hexec hb hdg (nI_ne0 h0 hj) (by rw [pk_div hk h0 hj]; exact kk)
theorem pg_sld (hexec : p.tables.exec = Jvm.exec) (hb : c.code = cc) {b L : Nat} {xs : Nat → Int32} (hX : va_X b L xs s H0) (hbl : b < H0.size) (hbA : ¬ A b) (hS : va_S A H0 H locs) {j : Nat} (hj : j < L) (hL : L ≤ 260) (hdg : decode cc pc = .ok (.iaload, 1))
    (kk : W p l e R s m args below meth c H locs cells slots Q (F0 m (pc + 1) ls (.int (xs j) :: rest))) : W p l e R s m args below meth c H locs cells slots Q (F0 m pc ls (.int (nI j) :: .ref b :: rest)) :=
  va_sld hexec hb hX hbl hbA hS (vp_in_nI hj (by omega)) hdg (by rw [nI_clamp (by omega)]; exact kk)
end PGM
set_option maxHeartbeats 4000000 in
set_option maxRecDepth 100000 in
/-- told(s, k) -/
theorem ct_told (l : Launch) (b L sz : Nat) (xs : Nat → Int32) (hL : L ≤ 260) (k : Nat) (hk : k ≤ 100) : Met l yL_told wsL_told ({ frames := 0, cells := 0, slots := 0, locals := 0 }) (va_Pc [.ref b, .int (nI k)] (fun U => U.heap.size = sz ∧ va_X b L xs U U.heap ∧ b < sz)) (va_Qi (fun (r : Int32) (_ : Unit) => r = nI (pz_T xs L k)) (fun _ _ => True) (fun q => sz ≤ q)) 0 0 (fun q => sz ≤ q) := by
  refine Met.ofW (cc := cL_told) (maxL := 2) (ret := (some .int)) (by decide) rfl ?_
  intro p e s m args below meth c s₁ B hml hv
  obtain ⟨rfl, hsz, hX, hbl⟩ := hv
  have hx := B.exec
  have hb := B.bytes
  have hr := B.returns
  have hts := atoms_spec (ws := wsL_told) B.pre
  have hown : s.vm.findClass RL = some m.cls := findClass_of_methodNamed B.named
  have hlocks := B.notSynchronized
  subst hsz
  have hbA : ¬ (fun q : Nat => s.heap.size ≤ q) b := Nat.not_le.mpr hbl
  have hS : va_S (fun q : Nat => s.heap.size ≤ q) s.heap s.heap [] := va_S.rf
  have hl := lv_entry ([.ref b, .int (nI k)]) (n := 2) (Nat.le_of_ble_eq_true rfl)
  rw [lg_entry_eq]
  generalize (lg_sl ([.ref b, .int (nI k)]) ++ List.replicate (2 - (lg_sl ([.ref b, .int (nI k)])).length) Slot.unset).toArray = ls at hl ⊢
  have hl : lv_has ls 2 [(0, .ref b), (1, .int (nI k))] := hl
  have hw1 := hts (.constant RL 7 40009) (List.mem_of_getElem? (i := 1) rfl)
  have hw2 := hts (.constant RL 8 2147483647) (List.mem_of_getElem? (i := 2) rfl)
  have fin : ∀ x : Int32, x = (if k < L then xs k else 40009 * (nI k + 5) * (nI k + 6)) → W p l e (headSpec wsL_told ({ frames := 0, cells := 0, slots := 0, locals := 0 })).room s m ([.ref b, .int (nI k)] : List Value).toArray below meth c s.heap [] 0 0 (MQ below (va_Qi (fun (r : Int32) (_ : Unit) => r = nI (pz_T xs L k)) (fun _ _ => True) (fun q => s.heap.size ≤ q)) ([.ref b, .int (nI k)] : List Value).toArray s 0 0 (fun q => s.heap.size ≤ q)) (F0 m 23 ls [.int x]) := by
    intro x hx9
    refine lv_ldc hx hb hown hw2 dL_told_23 ?_
    refine lv_iand hx hb dL_told_25 ?_
    rw [pk_and x 31 (by decide +kernel)]
    exact W.iret (v := nI (x.toBitVec.toNat % 2 ^ 31)) hx hb hr (fun t9 ht9 hW9 => ⟨⟨nI (x.toBitVec.toNat % 2 ^ 31), (), rfl, by rw [hx9]; rfl, trivial⟩, hS.F ht9⟩) hS.2.2 dL_told_26
  refine lv_iload_n hx hb dL_told_0 rfl (lv_at hl 1 rfl) ?_
  refine lv_aload_n hx hb dL_told_1 rfl (lv_at hl 0 rfl) ?_
  refine va_slen hx hb hX hbl hbA hS dL_told_2 ?_
  refine lv_icmp_ge (tgt := 12) hx hb dL_told_3 (by decide) (fun c_3 => ?_) (fun c_3 => ?_)
  · have hkL : ¬ k < L := by
      have := (nI_leI (by omega) (by omega)).mp (show nI L ≤ nI k from c_3)
      omega
    refine lv_ldc hx hb hown hw1 dL_told_12 ?_
    refine lv_iload_n hx hb dL_told_14 rfl (lv_at hl 1 rfl) ?_
    refine lv_iconst (v := 5) hx hb dL_told_15 (by decide) ?_
    refine lv_iadd hx hb dL_told_16 ?_
    refine lv_imul hx hb dL_told_17 ?_
    refine lv_iload_n hx hb dL_told_18 rfl (lv_at hl 1 rfl) ?_
    refine lv_bipush (v := 6) hx hb dL_told_19 (by decide) ?_
    refine lv_iadd hx hb dL_told_21 ?_
    refine lv_imul hx hb dL_told_22 ?_
    exact fin _ (by rw [if_neg hkL])
  · have hkL : k < L := by
      refine Nat.lt_of_not_le fun q => c_3 ?_
      exact nI_le q (by omega)
    refine lv_aload_n hx hb dL_told_6 rfl (lv_at hl 0 rfl) ?_
    refine lv_iload_n hx hb dL_told_7 rfl (lv_at hl 1 rfl) ?_
    refine pg_sld hx hb hX hbl hbA hS hkL hL dL_told_8 ?_
    refine lv_goto (tgt := 23) hx hb dL_told_9 (by decide) ?_
    exact fin _ (by rw [if_pos hkL])
section PGT
variable {p : Program} {l : Launch} {e : Env} {R : Room} {s : State} {m : MethodId} {args : Array Value} {below : List Frame} {meth : Method} {c : Code} {H : Heap} {locs : List Loc} {cells slots : Nat} {Q : State → Prop}
variable {cc : ByteArray} {pc nL n index mc ms : Nat} {ls : Array Slot} {rest st0 : List Value} {D : va_G} {tys : List (ClassId × FieldType)} {A : Nat → Prop} {ws X Y : va_W} {Ts : List Cond} {own : String} {b L : Nat} {xs : Nat → Int32}
/-- told called: nothing else changes -/
theorem pg_told (S : CallFix p m c cc nL s args Ts own) (cw : CallB R s args own index yL_told cL_told 2 (some .int) wsL_told ({ frames := 0, cells := 0, slots := 0, locals := 0 }) 0 0 2 ∧ (Cond.static yL_told).before args s = true) (hX : va_X b L xs s s.heap) (hbl : b < s.heap.size) (hbA : ¬ A b) (hL : L ≤ 260) (hP : va_P D vwCl ws H) (hS : va_S A s.heap H locs) (hA : ∀ q, s.heap.size ≤ q → A q) {T : Nat → Nat} (hTe : T = pz_T xs L) {k : Nat} (hk : k ≤ 100)
    (hsize : ls.size = nL) (hW : (rest.map fun v => v.category).sum ≤ 8) (hdg : decode cc pc = .ok (.invokestatic index, 3)) (hf : cells + 0 ≤ R.cells ∧ slots + 0 ≤ R.slots)
    (kk : ∀ (H : Heap) (locs : List Loc), va_P D vwCl ws H → va_S A s.heap H locs → W p l e R s m args below meth c H locs cells slots Q (F0 m (pc + 3) ls (.int (nI (T k)) :: rest))) : W p l e R s m args below meth c H locs cells slots Q (F0 m pc ls (.int (nI k) :: .ref b :: rest)) := by
  have hXH : va_X b L xs s H := hX.kept (hS.2.1 b hbl hbA)
  have hr := va_runS (l := l) (cells := cells) (slots := slots) (below := below) (meth := meth) (e := e) (locs := locs) (H := H) (As := [.ref b, .int (nI k)]) (rest := rest) (g := F0 m pc ls (.int (nI k) :: .ref b :: rest)) S (ct_told l b L H.size xs hL k hk) cw ⟨fun a U g mk q => ⟨q.1, q.2.1, va_X.moved (Vm.Alike.refl U.vm) q.2.2.1, q.2.2.2⟩, fun U hU hW9 => ⟨rfl, by rw [hU], by rw [hU]; exact va_X.moved hW9.alike hXH, Nat.lt_of_lt_of_le hbl hS.1⟩⟩ rfl rfl hsize rfl (lv_room hW) hdg hf
  refine va_calli hr hS (fun q h1 h2 => absurd h1 (Nat.not_lt.mpr h2)) (fun q h => hA q (Nat.le_trans hS.1 h)) (fun r u t H1 locs1 ht hvm hw hB hz hk1 hS1 => ?_)
  have hw : r = nI (pz_T xs L k) := hw
  rw [hw, ← hTe]
  exact kk H1 locs1 (fun i q hq => (hP i q hq).kept (hk1 q.1 ((hP i q hq).lt) (Nat.not_le.mpr (hP i q hq).lt))) hS1
/-- a method's start over the world ws, the script beside it -/
def pg_BX (D : va_G) (tys : List (ClassId × FieldType)) (ws : va_W) (sz b L : Nat) (xs : Nat → Int32) (U : State) : Prop := pg_B D tys ws sz U ∧ va_X b L xs U U.heap ∧ b < sz ∧ ¬ va_A ws sz b
theorem pg_BX.blind {sz : Nat} {As : List Value} : FrameBlind (va_Pc As (pg_BX D tys ws sz b L xs)) := fun a U g mk q => by
  obtain ⟨q0, q1, qX, qb, qA⟩ := q
  obtain ⟨r0, r1⟩ := pg_B.blind (As := As) a U g mk ⟨q0, q1⟩
  exact ⟨r0, r1, va_X.moved (Vm.Alike.refl U.vm) qX, qb, qA⟩
theorem pg_rSX {y : MethodName} {bytes : ByteArray} {maxL : Nat} {ret : Option FieldType} {wy : List Cond} {rm : Room} {As : List Value} {Qc : Array Value → State → Outcome → State → Prop} {free : Addr → Prop} (S : CallFix p m c cc nL s args Ts own) (hM : Met l y wy rm (va_Pc As (pg_BX D tys ws H.size b L xs)) Qc mc ms free) (cw : CallB R s args own index y bytes maxL ret wy rm mc ms n ∧ (Cond.static y).before args s = true) (hX : va_X b L xs s s.heap) (hbl : b < s.heap.size) (hbA : ¬ A b) (hK : va_K D vwCl tys s) (hP : va_P D vwCl ws H) (hD : va_D A ws) (hS : va_S A s.heap H locs) (hA : ∀ q, s.heap.size ≤ q → A q)
    (hn : As.length = n) (hsize : ls.size = nL) (hst : st0 = As.reverse ++ rest) (hW : (rest.map fun v => v.category).sum ≤ 8) (hdg : decode cc pc = .ok (.invokestatic index, 3)) (hf : cells + mc ≤ R.cells ∧ slots + ms ≤ R.slots) :
    va_Run p l e R s m args below meth c H locs cells slots mc ms (F0 m pc ls st0) rest (Qc As.toArray) free := by
  have hXH : va_X b L xs s H := hX.kept (hS.2.1 b hbl hbA)
  have hnA : ¬ va_A ws H.size b := fun h => hbA (pg_up hD hS hA b h)
  exact va_runS S hM cw ⟨pg_BX.blind, fun U hU hW => ⟨rfl, pg_pre hP hD hK hU hW, by rw [hU]; exact va_X.moved hW.alike hXH, Nat.lt_of_lt_of_le hbl hS.1, hnA⟩⟩ rfl hn hsize hst (lv_room hW) hdg hf
/-- a call over the first of two worlds, whatever it answers -/
theorem pg_iLx {S : Type} {post : Int32 → S → Prop} {w : S → va_W} {H0 : Heap} {a : Array Value} (hr : va_Run p l e R s m args below meth c H locs cells slots mc ms (F0 m pc ls st0) rest (va_Qi post (pg_E D tys (va_A X H.size) w) (va_A X H.size) a) (va_A X H.size)) (hP : va_P D vwCl (X ++ Y) H) (hD : va_D A (X ++ Y)) (hS : va_S A H0 H locs) (hA : ∀ q, H0.size ≤ q → A q)
    (kk : ∀ (r : Int32) (u : S) (H : Heap) (locs : List Loc), post r u → va_P D vwCl (w u ++ Y) H → va_D A (w u ++ Y) → va_S A H0 H locs → W p l e R s m args below meth c H locs (cells + mc) (slots + ms) Q (F0 m (pc + 3) ls (.int r :: rest))) : W p l e R s m args below meth c H locs cells slots Q (F0 m pc ls st0) := by
  have hu := pg_up (pg_DL hD) hS hA
  refine va_calli hr hS (fun q _ h => hu q h) hu (fun r u t H1 locs1 ht hvm hw hB hz1 hk1 hS1 => ?_)
  obtain ⟨hP1, hK1, hD1⟩ := hB
  rw [ht] at hP1
  obtain ⟨hP2, hD2⟩ := pg_fL hP hD hk1 hu hP1 hD1
  exact kk r u H1 locs1 hw hP2 hD2 hS1
end PGT
end
