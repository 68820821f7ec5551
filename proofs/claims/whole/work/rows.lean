section
-- ===== PART A: goes FIRST, ahead of the names: the tables' words, and 'selects' of the private methods out of them =====
/-- a private method of a class that the tables say can be made, by its rows of tables_1 -/
def lw_okq (q : MethodName × Nat) : Prop := (q.1.cls ≠ "java/lang/invoke/MethodHandle" ∧ q.1.cls ≠ "java/lang/invoke/VarHandle") ∧ Cond.instantiable q.1.cls q.2 ∈ tables_1 ∧ Cond.privateMethod q.1 ∈ tables_1 ∧ Cond.instanceMethod q.1 ∈ tables_1
theorem lw_p0 : lw_okq (⟨"PegBox", "dueInAll", "()I"⟩, 14) := ⟨⟨by decide +kernel, by decide +kernel⟩, List.mem_of_getElem? (i := 15) (by decide +kernel), List.mem_of_getElem? (i := 206) (by decide +kernel), List.mem_of_getElem? (i := 207) (by decide +kernel)⟩
theorem lw_p1 : lw_okq (⟨"PegBox", "dueOfKind", "(I)I"⟩, 14) := ⟨⟨by decide +kernel, by decide +kernel⟩, List.mem_of_getElem? (i := 15) (by decide +kernel), List.mem_of_getElem? (i := 210) (by decide +kernel), List.mem_of_getElem? (i := 211) (by decide +kernel)⟩
theorem lw_p2 : lw_okq (⟨"PegBox$Kinds", "pastBasket", "(II)I"⟩, 5) := ⟨⟨by decide +kernel, by decide +kernel⟩, List.mem_of_getElem? (i := 39) (by decide +kernel), List.mem_of_getElem? (i := 222) (by decide +kernel), List.mem_of_getElem? (i := 223) (by decide +kernel)⟩
theorem lw_p3 : lw_okq (⟨"PegBox", "leftOutstanding", "()I"⟩, 14) := ⟨⟨by decide +kernel, by decide +kernel⟩, List.mem_of_getElem? (i := 15) (by decide +kernel), List.mem_of_getElem? (i := 233) (by decide +kernel), List.mem_of_getElem? (i := 234) (by decide +kernel)⟩
theorem lw_p4 : lw_okq (⟨"java/lang/Throwable", "fillInStackTrace", "(I)Ljava/lang/Throwable;"⟩, 6) := ⟨⟨by decide +kernel, by decide +kernel⟩, List.mem_of_getElem? (i := 292) (by decide +kernel), List.mem_of_getElem? (i := 290) (by decide +kernel), List.mem_of_getElem? (i := 291) (by decide +kernel)⟩
theorem lw_p5 : lw_okq (⟨"PegBox", "checkNotClosed", "()V"⟩, 14) := ⟨⟨by decide +kernel, by decide +kernel⟩, List.mem_of_getElem? (i := 15) (by decide +kernel), List.mem_of_getElem? (i := 323) (by decide +kernel), List.mem_of_getElem? (i := 324) (by decide +kernel)⟩
theorem lw_p6 : lw_okq (⟨"PegBox", "beyondCollar", "(I)I"⟩, 14) := ⟨⟨by decide +kernel, by decide +kernel⟩, List.mem_of_getElem? (i := 15) (by decide +kernel), List.mem_of_getElem? (i := 399) (by decide +kernel), List.mem_of_getElem? (i := 400) (by decide +kernel)⟩
theorem lw_p7 : lw_okq (⟨"PegBox", "checkClosed", "()V"⟩, 14) := ⟨⟨by decide +kernel, by decide +kernel⟩, List.mem_of_getElem? (i := 15) (by decide +kernel), List.mem_of_getElem? (i := 418) (by decide +kernel), List.mem_of_getElem? (i := 419) (by decide +kernel)⟩
theorem lw_p8 : lw_okq (⟨"PegBox", "free", "()V"⟩, 14) := ⟨⟨by decide +kernel, by decide +kernel⟩, List.mem_of_getElem? (i := 15) (by decide +kernel), List.mem_of_getElem? (i := 424) (by decide +kernel), List.mem_of_getElem? (i := 425) (by decide +kernel)⟩
theorem lw_p9 : lw_okq (⟨"PegBox", "payOut", "()I"⟩, 14) := ⟨⟨by decide +kernel, by decide +kernel⟩, List.mem_of_getElem? (i := 15) (by decide +kernel), List.mem_of_getElem? (i := 464) (by decide +kernel), List.mem_of_getElem? (i := 465) (by decide +kernel)⟩
theorem lw_p10 : lw_okq (⟨"PegBox$EarnOut", "meet", "(II)I"⟩, 8) := ⟨⟨by decide +kernel, by decide +kernel⟩, List.mem_of_getElem? (i := 94) (by decide +kernel), List.mem_of_getElem? (i := 488) (by decide +kernel), List.mem_of_getElem? (i := 489) (by decide +kernel)⟩
theorem lw_p11 : lw_okq (⟨"PegBox", "owe", "(I)I"⟩, 14) := ⟨⟨by decide +kernel, by decide +kernel⟩, List.mem_of_getElem? (i := 15) (by decide +kernel), List.mem_of_getElem? (i := 492) (by decide +kernel), List.mem_of_getElem? (i := 493) (by decide +kernel)⟩
theorem lw_p12 : lw_okq (⟨"PegBoxModel", "isFine", "(I)Z"⟩, 31) := ⟨⟨by decide +kernel, by decide +kernel⟩, List.mem_of_getElem? (i := 528) (by decide +kernel), List.mem_of_getElem? (i := 641) (by decide +kernel), List.mem_of_getElem? (i := 642) (by decide +kernel)⟩
theorem lw_p13 : lw_okq (⟨"PegBoxModel", "frees", "()V"⟩, 31) := ⟨⟨by decide +kernel, by decide +kernel⟩, List.mem_of_getElem? (i := 528) (by decide +kernel), List.mem_of_getElem? (i := 670) (by decide +kernel), List.mem_of_getElem? (i := 671) (by decide +kernel)⟩
theorem lw_p14 : lw_okq (⟨"PegBoxModel", "isClaim", "(I)Z"⟩, 31) := ⟨⟨by decide +kernel, by decide +kernel⟩, List.mem_of_getElem? (i := 528) (by decide +kernel), List.mem_of_getElem? (i := 682) (by decide +kernel), List.mem_of_getElem? (i := 683) (by decide +kernel)⟩
theorem lw_p15 : lw_okq (⟨"PegBoxModel", "settles", "(II)I"⟩, 31) := ⟨⟨by decide +kernel, by decide +kernel⟩, List.mem_of_getElem? (i := 528) (by decide +kernel), List.mem_of_getElem? (i := 690) (by decide +kernel), List.mem_of_getElem? (i := 691) (by decide +kernel)⟩
def lw_privs_1 : List (MethodName × Nat) := [(⟨"PegBox", "dueInAll", "()I"⟩, 14), (⟨"PegBox", "dueOfKind", "(I)I"⟩, 14), (⟨"PegBox$Kinds", "pastBasket", "(II)I"⟩, 5), (⟨"PegBox", "leftOutstanding", "()I"⟩, 14), (⟨"java/lang/Throwable", "fillInStackTrace", "(I)Ljava/lang/Throwable;"⟩, 6), (⟨"PegBox", "checkNotClosed", "()V"⟩, 14), (⟨"PegBox", "beyondCollar", "(I)I"⟩, 14), (⟨"PegBox", "checkClosed", "()V"⟩, 14), (⟨"PegBox", "free", "()V"⟩, 14), (⟨"PegBox", "payOut", "()I"⟩, 14), (⟨"PegBox$EarnOut", "meet", "(II)I"⟩, 8), (⟨"PegBox", "owe", "(I)I"⟩, 14), (⟨"PegBoxModel", "isFine", "(I)Z"⟩, 31), (⟨"PegBoxModel", "frees", "()V"⟩, 31), (⟨"PegBoxModel", "isClaim", "(I)Z"⟩, 31), (⟨"PegBoxModel", "settles", "(II)I"⟩, 31)]
theorem lw_r1 : ∀ q ∈ lw_privs_1, lw_okq q := List.forall_mem_cons.mpr ⟨lw_p0, List.forall_mem_cons.mpr ⟨lw_p1, List.forall_mem_cons.mpr ⟨lw_p2, List.forall_mem_cons.mpr ⟨lw_p3, List.forall_mem_cons.mpr ⟨lw_p4, List.forall_mem_cons.mpr ⟨lw_p5, List.forall_mem_cons.mpr ⟨lw_p6, List.forall_mem_cons.mpr ⟨lw_p7, List.forall_mem_cons.mpr ⟨lw_p8, List.forall_mem_cons.mpr ⟨lw_p9, List.forall_mem_cons.mpr ⟨lw_p10, List.forall_mem_cons.mpr ⟨lw_p11, List.forall_mem_cons.mpr ⟨lw_p12, List.forall_mem_cons.mpr ⟨lw_p13, List.forall_mem_cons.mpr ⟨lw_p14, List.forall_mem_cons.mpr ⟨lw_p15, fun _ h => absurd h List.not_mem_nil⟩⟩⟩⟩⟩⟩⟩⟩⟩⟩⟩⟩⟩⟩⟩⟩
theorem lw_p16 : lw_okq (⟨"PegBoxModel", "open", "()I"⟩, 31) := ⟨⟨by decide +kernel, by decide +kernel⟩, List.mem_of_getElem? (i := 528) (by decide +kernel), List.mem_of_getElem? (i := 694) (by decide +kernel), List.mem_of_getElem? (i := 695) (by decide +kernel)⟩
theorem lw_p17 : lw_okq (⟨"PegBoxModel", "dueAll", "()I"⟩, 31) := ⟨⟨by decide +kernel, by decide +kernel⟩, List.mem_of_getElem? (i := 528) (by decide +kernel), List.mem_of_getElem? (i := 698) (by decide +kernel), List.mem_of_getElem? (i := 699) (by decide +kernel)⟩
theorem lw_p18 : lw_okq (⟨"PegBoxModel", "dueFor", "(I)I"⟩, 31) := ⟨⟨by decide +kernel, by decide +kernel⟩, List.mem_of_getElem? (i := 528) (by decide +kernel), List.mem_of_getElem? (i := 702) (by decide +kernel), List.mem_of_getElem? (i := 703) (by decide +kernel)⟩
theorem lw_p19 : lw_okq (⟨"PegBoxModel", "owes", "(I)I"⟩, 31) := ⟨⟨by decide +kernel, by decide +kernel⟩, List.mem_of_getElem? (i := 528) (by decide +kernel), List.mem_of_getElem? (i := 714) (by decide +kernel), List.mem_of_getElem? (i := 715) (by decide +kernel)⟩
def lw_privs_2 : List (MethodName × Nat) := [(⟨"PegBoxModel", "open", "()I"⟩, 31), (⟨"PegBoxModel", "dueAll", "()I"⟩, 31), (⟨"PegBoxModel", "dueFor", "(I)I"⟩, 31), (⟨"PegBoxModel", "owes", "(I)I"⟩, 31)]
theorem lw_r2 : ∀ q ∈ lw_privs_2, lw_okq q := List.forall_mem_cons.mpr ⟨lw_p16, List.forall_mem_cons.mpr ⟨lw_p17, List.forall_mem_cons.mpr ⟨lw_p18, List.forall_mem_cons.mpr ⟨lw_p19, fun _ h => absurd h List.not_mem_nil⟩⟩⟩⟩
def lw_privs : List (MethodName × Nat) := lw_privs_1 ++ (lw_privs_2)
def lw_tbl : List Cond := k2_sels lw_privs ++ tables_1
theorem lw_privs_ok : ∀ q ∈ lw_privs, lw_okq q := by
  show ∀ q ∈ lw_privs_1 ++ (lw_privs_2), lw_okq q
  exact List.forall_mem_append.mpr ⟨lw_r1, lw_r2⟩
-- ===== end of PART A; then your names; then what follows =====
/-! ===== BEGIN words of one list among another's, by their places ===== -/
theorem goodIn_r {big : List Cond} (ws : List Cond) (ps : List Nat) (hp : ws = ps.filterMap (fun i => big[i]?)) (h : ws.all goodWord = true) : GoodIn big ws := by
  intro w hw
  have h1 := List.all_eq_true.mp h w hw
  rw [hp] at hw
  obtain ⟨i, -, hi⟩ := List.mem_filterMap.mp hw
  have hm : w ∈ big := by first | exact List.mem_of_getElem? hi | exact List.getElem?_mem hi
  exact ⟨hm, good_of_word h1⟩
theorem goodIn_app {big a b : List Cond} (ha : GoodIn big a) (hb : GoodIn big b) : GoodIn big (a ++ b) := fun w h => (List.mem_append.mp h).elim (ha w) (hb w)
theorem goodIn_ca {big a b : List Cond} {c : Cond} (ha : GoodIn big (c :: a)) (hb : GoodIn big b) : GoodIn big (c :: (a ++ b)) := fun w h => (List.mem_cons.mp h).elim (fun e => ha w (List.mem_cons.mpr (Or.inl e))) (fun h => (List.mem_append.mp h).elim (fun h => ha w (List.mem_cons.mpr (Or.inr h))) (hb w))
theorem goodIn_sub {big ws : List Cond} (hm : ∀ w ∈ ws, w ∈ big) (h : ws.all goodWord = true) : GoodIn big ws := fun w hw => ⟨hm w hw, good_of_word (List.all_eq_true.mp h w hw)⟩
/-! ===== END ===== -/

/-! ===== BEGIN exceptions that leave a method, and their catching by the caller (launches without stack traces) ===== -/
section VXA
/-! The laws vx_back, vx_callV, vx_callS, vx_callSW, vx_throw0, vx_throwS follow proofs of the library, with one case more: JvmDerived/Free/Laws.lean (Back.of_free), Shelf42/LK1.lean (callV, callS), Shelf/KitTraced.lean (throwNew0V, throwNewS). -/
/-- where a method has thrown q: the class by its name, the cell, what was written, the world -/
def vx_T (XC : String → State → State → Prop) (st : State) (q : Addr) (t : State) (mc ms : Nat) (free : Addr → Prop) : Prop :=
  ∃ (E : String) (ce : Cell) (L : List Loc), XC E st t ∧ t.heap[q]? = some ce ∧ ce.vm = .none ∧ st.vm.findClass E = some ce.cls ∧ st.WarmedH t.vm ∧ st.sameButNew ({ t with vm := st.vm } : State) L mc ms ∧ ∀ z ∈ L, free z.base
def vx_Q (Qc : Array Value → State → Outcome → State → Prop) (XC : String → State → State → Prop) (mc ms : Nat) (free : Addr → Prop) : Array Value → State → Outcome → State → Prop := fun a st o t =>
  (Qc a st o t ∧ ∃ L, FrameEnd st o t L mc ms ∧ ∀ q ∈ L, free q.base) ∨ ∃ q, o = .threw q ∧ vx_T XC st q t mc ms free
/-- a callee that returns or throws -/
def vx_Met (l : Launch) (y : MethodName) (ws : List Cond) (rm : Room) (Pc : Array Value → State → Prop) (Qc : Array Value → State → Outcome → State → Prop) (XC : String → State → State → Prop) (mc ms : Nat) (free : Addr → Prop) : Prop :=
  MetFree l y (headSpec ws rm) Pc (fun _ _ _ _ _ => True) (vx_Q Qc XC mc ms free)
def vx_Post (XC : String → State → State → Prop) (mc ms : Nat) (free : Addr → Prop) : Pt → Array Value → Addr → Pt → Prop := fun A a q B =>
  ∃ (g : JFrame) (mk : MethodId) (t : State) (L : List Loc) (E : String) (ce : Cell), B.U.heap = t.heap ∧ B.U.vm = t.vm ∧ XC E (A.U.calling g mk a) t ∧ t.heap[q]? = some ce ∧ ce.vm = .none ∧ A.U.vm.findClass E = some ce.cls ∧ B.locs = A.locs ++ L ∧ (∀ z ∈ L, free z.base) ∧ B.cells = A.cells + mc ∧ B.slots = A.slots + ms
def vx_Back (l : Launch) (R : Room) (p : Program) (e : Env) (below : List Frame) (s : State) (sargs : Array Value) (y : MethodName) (len W9 : Nat)
    (Pre : Pt → Array Value → Prop) (Post : Pt → Array Value → Option Value → Pt → Prop) (PostX : Pt → Array Value → Addr → Pt → Prop) : Prop :=
  ∀ (m : MethodId) (meth : Method) (c : Code) (A : Pt) (g : JFrame) (ig : Instr) (mk : MethodId) (a : Array Value),
    Stand p l e R s m sargs below meth c A.U A.locs A.cells A.slots → g.method = m → g.locals.size = c.maxLocals → decode c.code g.pc = .ok (ig, len) →
    2 * g.monitorRoom + (g.stack.map fun v => v.category).sum ≤ W9 → A.U.methodNamed? y = some mk → Pre A a →
    (∃ (v : Option Value) (B : Pt), Stand p l e R s m sargs below meth c B.U B.locs B.cells B.slots ∧ Post A a v B ∧
      Steps p.tables e below (doInvoke e (A.U.setTop g) [] mk a).1 (B.U.setTop { g with pc := g.pc + len, stack := v.toList ++ g.stack })) ∨
    (∃ (q : Addr) (B : Pt), Stand p l e R s m sargs below meth c B.U B.locs B.cells B.slots ∧ PostX A a q B ∧
      Steps p.tables e below (doInvoke e (A.U.setTop g) [] mk a).1 ((B.U.setTop g).pushFrame (.throwing q)))
section Payer
variable {l : Launch} {R : Room} {p : Program} {e : Env} {below : List Frame} {s : State} {sargs : Array Value} {y : MethodName} {len W9 : Nat}
theorem vx_back {ws : List Cond} {rm : Room} {Pc : Array Value → State → Prop} {Qc : Array Value → State → Outcome → State → Prop} {XC : String → State → State → Prop} {mc ms : Nat} {free : Addr → Prop} {bytes : ByteArray} {maxL : Nat} {ret : Option FieldType}
    (hM : vx_Met l y ws rm Pc Qc XC mc ms free) (hblind : FrameBlind Pc) (hrc : rm.cells = mc) (hrs : rm.slots = ms)
    (hframes : rm.frames + 1 ≤ R.frames) (hlocals : W9 + (maxL + 11) + rm.locals ≤ R.locals)
    (hws : ∀ w ∈ ws, ∀ a' U, s.WarmedH U.vm → w.before a' U = true) (hcode : Cond.code y bytes maxL ret ∈ ws) (hinit : ∀ a' U, s.WarmedH U.vm → (Cond.initialized y.cls).before a' U = true) :
    vx_Back l R p e below s sargs y len W9 (PreOf R mc ms Pc) (PostOf Qc mc ms free) (vx_Post XC mc ms free) := by
  intro m meth c A g ig mk a X hg hsize hdg hW hn hp
  have h1 : (headSpec ws rm).pre.before a A.U = true := atoms_intro fun w hw => hws w hw _ _ X.warmed
  have h2 : (Cond.code y bytes maxL ret).before a A.U = true := hws _ hcode _ _ X.warmed
  have h3 : (Cond.initialized y.cls).before a A.U = true := hinit _ _ X.warmed
  have h4 : A.cells + (headSpec ws rm).room.cells ≤ R.cells := by rw [show (headSpec ws rm).room.cells = mc from hrc]; exact hp.1
  have h5 : A.slots + (headSpec ws rm).room.slots ≤ R.slots := by rw [show (headSpec ws rm).room.slots = ms from hrs]; exact hp.2.1
  have hPc : Pc a (A.U.calling g mk a) := hblind _ _ _ _ hp.2.2
  obtain ⟨U, Ls, c0, s0⟩ := A
  dsimp only [Pt.U, Pt.locs, Pt.cells, Pt.slots] at h1 h2 h3 h4 h5 X hn hPc ⊢
  obtain ⟨methY, cY, hmY, hcY, -, hlY, -, -, -, -⟩ := Cond.code_spec hn h2
  obtain ⟨kY, hkY, -⟩ := className_of_methodNamed hn
  have hinitY : kY.init = .initialized := Cond.initialized_spec (findClass_of_methodNamed hn) hkY h3
  have h : At U g.method c below := by rw [hg]; exact X.here
  have hlocals9 : W9 + (maxL + 11) + (headSpec ws rm).room.locals ≤ R.locals := hlocals
  have happ : (headSpec ws rm).appliesLoose y e.platform (U.calling g mk a) = true :=
    Spec.appliesLoose_calling (g := g) h hdg hn hkY hinitY
      (X.room_calling (g := g) (R' := (headSpec ws rm).room) hsize hmY hcY hframes (by rw [hlY]; omega) h4 h5) h1
  obtain ⟨mid, hmid⟩ := h.above
  have hfr : (U.setTop g).frames = (.java g :: mid) ++ below := by rw [State.frames_setTop' g h.top, hmid]; rfl
  obtain ⟨o, s₂, hsteps, -, hend, hq⟩ := Steps.callFree hM p X.admits X.cas X.clock (acts := []) hfr happ hPc trivial
  have hq' : vx_Q Qc XC mc ms free a (U.calling g mk a) o s₂ := hq
  rw [State.frames_setTop' g h.top] at hend
  obtain ⟨g₀, hg0⟩ := Option.isSome_iff_exists.mp h.top
  obtain ⟨r, hr⟩ := State.topJava?_eq_some.mp hg0
  have hr' : (({ U with heap := s₂.heap, slotsUsed := s₂.slotsUsed } : State).setVm s₂.vm).frames = .java g₀ :: r := hr
  rcases hq' with ⟨hqc, L, hfe, hL⟩ | ⟨q, rfl, E, ce, L, hx, hce, hcv, hcl, hW₂, hsm, hL⟩
  · obtain ⟨⟨v, rfl⟩, hW₂, e2, q2, q3, q4, q5, q6⟩ := id hfe
    have e3 : s₂ = ({ (U.calling g mk a).setFrames s₂.frames with heap := s₂.heap, slotsUsed := s₂.slotsUsed } : State).setVm s₂.vm := by
      have : s₂ = ({ s₂ with vm := (U.calling g mk a).vm } : State).setVm s₂.vm := rfl
      rw [e2] at this
      exact this
    obtain ⟨c₂, i₂, len₂, hc₂, hd₂, hf₂⟩ := hend
    have hW' : U.WarmedH s₂.vm := hW₂
    have hcc : c₂ = c := by
      have h1 : s₂.code? g.method = U.code? g.method := by
        rw [State.code?_eq, State.code?_eq, hW'.alike.method?]
      exact Option.some.inj (hc₂.symm.trans (h1.trans h.code))
    subst hcc
    have hlen : len₂ = len := by rw [hdg] at hd₂; cases hd₂; rfl
    subst hlen
    have hs₂ : s₂ = (({ U with heap := s₂.heap, slotsUsed := s₂.slotsUsed } : State).setVm s₂.vm).setTop { g with pc := g.pc + len₂, stack := v.toList ++ g.stack } := by
      refine e3.trans ?_
      rw [hf₂, State.calling_eq h.top, State.setFrames_setFrames, State.setTop_of_frames _ hr', hr]
      rfl
    have hsame : U.sameButNew ({ U with heap := s₂.heap, slotsUsed := s₂.slotsUsed } : State) L mc ms := by
      refine ⟨?_, q2, q3, q4, q5, q6⟩
      obtain ⟨t, ht, -⟩ := State.frames_cons hr
      show ({ U with heap := s₂.heap, slotsUsed := s₂.slotsUsed } : State) = { U.setFrames U.frames with heap := s₂.heap, slotsUsed := s₂.slotsUsed }
      rw [State.setFrames_self ht]
    subst hg
    refine Or.inl ⟨v, ⟨(({ U with heap := s₂.heap, slotsUsed := s₂.slotsUsed } : State).setVm s₂.vm), Ls ++ L, c0 + mc, s0 + ms⟩,
      ⟨X.admits, X.cas, X.clock, X.frames, X.room, X.hears, X.method, X.code, (X.here.setHeapUsed s₂.heap s₂.slotsUsed).setVm hW'.alike, X.tail, State.WarmedH.trans X.warmed hW', X.limits, X.bytes, X.same.trans (hsame.setVm s.vm)⟩,
      ⟨g, mk, s₂, L, rfl, rfl, hqc, rfl, hL, rfl, rfl⟩, ?_⟩
    show Steps p.tables e below _ ((({ U with heap := s₂.heap, slotsUsed := s₂.slotsUsed } : State).setVm s₂.vm).setTop { g with pc := g.pc + len₂, stack := v.toList ++ g.stack })
    rw [← hs₂]
    exact hsteps
  · obtain ⟨e2, q2, q3, q4, q5, q6⟩ := id hsm
    have e3 : s₂ = ({ (U.calling g mk a).setFrames s₂.frames with heap := s₂.heap, slotsUsed := s₂.slotsUsed } : State).setVm s₂.vm := by
      have : s₂ = ({ s₂ with vm := (U.calling g mk a).vm } : State).setVm s₂.vm := rfl
      rw [e2] at this
      exact this
    have hf₂ : s₂.frames = .throwing q :: .java g :: U.frames.tail := hend
    have hW' : U.WarmedH s₂.vm := hW₂
    have hs₂ : s₂ = ((({ U with heap := s₂.heap, slotsUsed := s₂.slotsUsed } : State).setVm s₂.vm).setTop g).pushFrame (.throwing q) := by
      refine e3.trans ?_
      rw [hf₂, State.calling_eq h.top, State.setFrames_setFrames, State.pushFrame, State.frames_setTop _ hr', State.setTop_of_frames _ hr', State.setFrames_setFrames, hr]
      rfl
    have hsame : U.sameButNew ({ U with heap := s₂.heap, slotsUsed := s₂.slotsUsed } : State) L mc ms := by
      refine ⟨?_, q2, q3, q4, q5, q6⟩
      obtain ⟨t, ht, -⟩ := State.frames_cons hr
      show ({ U with heap := s₂.heap, slotsUsed := s₂.slotsUsed } : State) = { U.setFrames U.frames with heap := s₂.heap, slotsUsed := s₂.slotsUsed }
      rw [State.setFrames_self ht]
    subst hg
    refine Or.inr ⟨q, ⟨(({ U with heap := s₂.heap, slotsUsed := s₂.slotsUsed } : State).setVm s₂.vm), Ls ++ L, c0 + mc, s0 + ms⟩,
      ⟨X.admits, X.cas, X.clock, X.frames, X.room, X.hears, X.method, X.code, (X.here.setHeapUsed s₂.heap s₂.slotsUsed).setVm hW'.alike, X.tail, State.WarmedH.trans X.warmed hW', X.limits, X.bytes, X.same.trans (hsame.setVm s.vm)⟩,
      ⟨g, mk, s₂, L, E, ce, rfl, rfl, hx, hce, hcv, hcl, rfl, hL, rfl, rfl⟩, ?_⟩
    show Steps p.tables e below _ (((({ U with heap := s₂.heap, slotsUsed := s₂.slotsUsed } : State).setVm s₂.vm).setTop g).pushFrame (.throwing q))
    rw [← hs₂]
    exact hsteps
end Payer
section Calls
variable {p : Program} {l : Launch} {e : Env} {R : Room} {s : State} {m : MethodId} {args : Array Value} {below : List Frame} {meth : Method} {c : Code} {T : State} {locs : List Loc} {cells slots : Nat}
theorem vx_callV (X : Stand p l e R s m args below meth c T locs cells slots) (hexec : p.tables.exec = Jvm.exec) {own C : String} {index : Nat} {y : MethodName} {bytes : ByteArray} {maxL : Nat} {ret : Option FieldType}
    (hown : s.vm.findClass own = some m.cls) (hlink : (Cond.methodLink own index y).before args s = true) (hinst : (Cond.instanceMethod y).before args s = true) (hsel : (Cond.selects C y y).before args s = true)
    (hcode : (Cond.code y bytes maxL ret).before args s = true) (hy : y.cls ≠ "java/lang/invoke/MethodHandle" ∧ y.cls ≠ "java/lang/invoke/VarHandle")
    {W9 : Nat} {Pre : Pt → Array Value → Prop} {Post : Pt → Array Value → Option Value → Pt → Prop} {PostX : Pt → Array Value → Addr → Pt → Prop} (hK : vx_Back l R p e below s args y 3 W9 Pre Post PostX)
    {b : Addr} {cellB : Cell} (hcell : T.heap[b]? = some cellB) (hobj : cellB.vm.isStatics = false) (hcls : s.vm.findClass C = some cellB.cls)
    {g : JFrame} (hg : g.method = m) (hsize : g.locals.size = c.maxLocals) {argsL rest : List Value} (hlen : ∀ sig, parseMethodDescriptor y.desc = some sig → argsL.length = sig.parameters.length)
    (hstack : g.stack = argsL.reverse ++ .ref b :: rest) (hW : 2 * g.monitorRoom + (rest.map fun v => v.category).sum ≤ W9) (hdg : decode c.code g.pc = .ok (.invokevirtual index, 3))
    (hpre : ∀ vm₁, s.WarmedH vm₁ → Pre ⟨T.setVm vm₁, locs, cells, slots⟩ (Value.ref b :: argsL).toArray) :
    (∃ (v : Option Value) (vm₁ : Vm) (B : Pt), s.WarmedH vm₁ ∧ Stand p l e R s m args below meth c B.U B.locs B.cells B.slots ∧ Post ⟨T.setVm vm₁, locs, cells, slots⟩ (Value.ref b :: argsL).toArray v B ∧
      ∀ target, Steps p.tables e below (B.U.setTop { g with pc := g.pc + 3, stack := v.toList ++ rest }) target → Steps p.tables e below (T.setTop g) target) ∨
    (∃ (q : Addr) (vm₁ : Vm) (B : Pt), s.WarmedH vm₁ ∧ Stand p l e R s m args below meth c B.U B.locs B.cells B.slots ∧ PostX ⟨T.setVm vm₁, locs, cells, slots⟩ (Value.ref b :: argsL).toArray q B ∧
      Steps p.tables e below (T.setTop g) ((B.U.setTop { g with stack := rest }).pushFrame (.throwing q))) := by
  obtain ⟨mk, methM, hnamed, hmethM, hstM, habM⟩ := Cond.instanceMethod_spec hinst
  obtain ⟨methM', cM, hmethM', -, -, -, -, -, -, hsigM⟩ := Cond.code_spec hnamed hcode
  cases hmethM.symm.trans hmethM'
  obtain ⟨c2, r2, m2, q1, q2, q3, q4, kP, hkP, hkPi⟩ := Cond.selects_spec hsel
  cases hcls.symm.trans q1
  cases (State.methodFound?_of_named hnamed hy).symm.trans q2
  cases hnamed.symm.trans q3
  have hselP : selectMethod e.platform s.vm cellB.cls mk = .method mk := by rw [Launch.admits_selectMethod X.admits]; exact q4
  obtain ⟨vm₁, X₁, hstep₁⟩ := X.invokevirtual hexec hown hlink hnamed hmethM hstM hkP hkPi hy (a := b) (cell := cellB) hcell
    (fun z h => by rw [h] at hobj; cases hobj) hselP hmethM habM hkP hkPi (g := g) hg (argsL := argsL) (rest := rest) (hlen _ hsigM) hstack hdg
  rcases hK m meth c ⟨T.setVm vm₁, locs, cells, slots⟩ { g with stack := rest } (.invokevirtual index) mk (Value.ref b :: argsL).toArray X₁ hg hsize hdg hW (X₁.named hnamed) (hpre vm₁ X₁.warmed) with ⟨v, B, X', hpost, hsteps⟩ | ⟨q, B, X', hpost, hsteps⟩
  · exact Or.inl ⟨v, vm₁, B, X₁.warmed, X', hpost, fun target h => hstep₁ _ fun acts => by rw [doInvoke_state]; exact hsteps.trans h⟩
  · exact Or.inr ⟨q, vm₁, B, X₁.warmed, X', hpost, hstep₁ _ fun acts => by rw [doInvoke_state]; exact hsteps⟩
theorem vx_callS (X : Stand p l e R s m args below meth c T locs cells slots) (hexec : p.tables.exec = Jvm.exec) {own : String} {index : Nat} {y : MethodName} {bytes : ByteArray} {maxL : Nat} {ret : Option FieldType}
    (hown : s.vm.findClass own = some m.cls) (hlink : (Cond.methodLink own index y).before args s = true) (hstat : (Cond.static y).before args s = true) (hinit : (Cond.initialized y.cls).before args s = true)
    (hcode : (Cond.code y bytes maxL ret).before args s = true) (hy : y.cls ≠ "java/lang/invoke/MethodHandle" ∧ y.cls ≠ "java/lang/invoke/VarHandle")
    {W9 : Nat} {Pre : Pt → Array Value → Prop} {Post : Pt → Array Value → Option Value → Pt → Prop} {PostX : Pt → Array Value → Addr → Pt → Prop} (hK : vx_Back l R p e below s args y 3 W9 Pre Post PostX)
    {g : JFrame} (hg : g.method = m) (hsize : g.locals.size = c.maxLocals) {argsL rest : List Value} (hlen : ∀ sig, parseMethodDescriptor y.desc = some sig → argsL.length = sig.parameters.length)
    (hstack : g.stack = argsL.reverse ++ rest) (hW : 2 * g.monitorRoom + (rest.map fun v => v.category).sum ≤ W9) (hdg : decode c.code g.pc = .ok (.invokestatic index, 3))
    (hpre : ∀ vm₁, s.WarmedH vm₁ → Pre ⟨T.setVm vm₁, locs, cells, slots⟩ argsL.toArray) :
    (∃ (v : Option Value) (vm₁ : Vm) (B : Pt), s.WarmedH vm₁ ∧ Stand p l e R s m args below meth c B.U B.locs B.cells B.slots ∧ Post ⟨T.setVm vm₁, locs, cells, slots⟩ argsL.toArray v B ∧
      ∀ target, Steps p.tables e below (B.U.setTop { g with pc := g.pc + 3, stack := v.toList ++ rest }) target → Steps p.tables e below (T.setTop g) target) ∨
    (∃ (q : Addr) (vm₁ : Vm) (B : Pt), s.WarmedH vm₁ ∧ Stand p l e R s m args below meth c B.U B.locs B.cells B.slots ∧ PostX ⟨T.setVm vm₁, locs, cells, slots⟩ argsL.toArray q B ∧
      Steps p.tables e below (T.setTop g) ((B.U.setTop { g with stack := rest }).pushFrame (.throwing q))) := by
  obtain ⟨mk, hnamed⟩ := Cond.code_named hcode
  obtain ⟨methM, cM, hmethM, -, -, -, -, -, -, hsigM⟩ := Cond.code_spec hnamed hcode
  have hstatic : methM.isStatic = true := Cond.static_spec hnamed hmethM hstat
  obtain ⟨kP, hkP, -⟩ := className_of_methodNamed hnamed
  have hinitP : kP.init = .initialized := Cond.initialized_spec (findClass_of_methodNamed hnamed) hkP hinit
  obtain ⟨vm₁, X₁, hstep₁⟩ := X.invokestatic hexec hown hlink hnamed hmethM hstatic hkP hinitP hy (g := g) hg (argsL := argsL) (rest := rest) (hlen _ hsigM) hstack hdg
  rcases hK m meth c ⟨T.setVm vm₁, locs, cells, slots⟩ { g with stack := rest } (.invokestatic index) mk argsL.toArray X₁ hg hsize hdg hW (X₁.named hnamed) (hpre vm₁ X₁.warmed) with ⟨v, B, X', hpost, hsteps⟩ | ⟨q, B, X', hpost, hsteps⟩
  · exact Or.inl ⟨v, vm₁, B, X₁.warmed, X', hpost, fun target h => hstep₁ _ fun acts => by rw [doInvoke_state]; exact hsteps.trans h⟩
  · exact Or.inr ⟨q, vm₁, B, X₁.warmed, X', hpost, hstep₁ _ fun acts => by rw [doInvoke_state]; exact hsteps⟩
end Calls
theorem vx_cls {s : State} {T : State} {vm₁ : Vm} {E : String} {k : ClassId} (hW : s.WarmedH vm₁) (h : (T.setVm vm₁).vm.findClass E = some k) : s.vm.findClass E = some k := by
  have h1 : vm₁.findClass E = some k := h
  rw [hW.alike.findClass] at h1
  exact h1
/-- the method's frame g, with q thrown over it -/
def vx_W (p : Program) (l : Launch) (e : Env) (R : Room) (s : State) (m : MethodId) (args : Array Value) (below : List Frame) (meth : Method) (c : Code) (H : Heap) (locs : List Loc) (cells slots : Nat) (Q : State → Prop) (g : JFrame) (q : Addr) : Prop :=
  ∀ T : State, T.heap = H → Stand p l e R s m args below meth c T locs cells slots → ∃ t, Steps p.tables e below ((T.setTop g).pushFrame (.throwing q)) t ∧ Q t
def vx_Run (p : Program) (l : Launch) (e : Env) (R : Room) (s : State) (m : MethodId) (args : Array Value) (below : List Frame) (meth : Method) (c : Code) (H : Heap) (locs : List Loc) (cells slots mc ms : Nat) (g : JFrame) (rest : List Value) (Qa : State → Outcome → State → Prop) (XC : String → State → State → Prop) (free : Addr → Prop) : Prop :=
  ∀ T : State, T.heap = H → Stand p l e R s m args below meth c T locs cells slots →
    (∃ (v : Option Value) (st₀ t T' : State) (L : List Loc), st₀.heap = H ∧ Stand p l e R s m args below meth c T' (locs ++ L) (cells + mc) (slots + ms) ∧ (∀ q ∈ L, free q.base) ∧ T'.heap = t.heap ∧ T'.vm = t.vm ∧ Qa st₀ (.returned v) t ∧
      Goes p e below T g T' { g with pc := g.pc + 3, stack := v.toList ++ rest }) ∨
    (∃ (q : Addr) (st₀ t T' : State) (L : List Loc) (E : String) (ce : Cell), st₀.heap = H ∧ Stand p l e R s m args below meth c T' (locs ++ L) (cells + mc) (slots + ms) ∧ (∀ z ∈ L, free z.base) ∧ T'.heap = t.heap ∧ T'.vm = t.vm ∧ XC E st₀ t ∧ t.heap[q]? = some ce ∧ ce.vm = .none ∧ s.vm.findClass E = some ce.cls ∧
      Steps p.tables e below (T.setTop g) ((T'.setTop { g with stack := rest }).pushFrame (.throwing q)))
def vx_X {S : Type} (px : S → Prop) (B : String → S → State → Prop) (A : Nat → Prop) : String → State → State → Prop := fun E st t => ∃ u : S, px u ∧ B E u t ∧ va_F A st t
section Runs
variable {p : Program} {l : Launch} {e : Env} {R : Room} {s : State} {m : MethodId} {args : Array Value} {below : List Frame} {meth : Method} {c : Code} {H : Heap} {locs : List Loc} {cells slots : Nat}
variable {y : MethodName} {bytes cc : ByteArray} {maxL nL mc ms n index : Nat} {ret : Option FieldType} {ws : List Cond} {rm : Room} {Pc : Array Value → State → Prop} {Qc : Array Value → State → Outcome → State → Prop} {XC : String → State → State → Prop} {free : Addr → Prop} {Ts : List Cond} {own C : String} {b : Addr} {As rest : List Value} {g : JFrame}
theorem vx_callBack (cb : CallB R s args own index y bytes maxL ret ws rm mc ms n) (hM : vx_Met l y ws rm Pc Qc XC mc ms free) (hbl : FrameBlind Pc) : vx_Back l R p e below s args y 3 8 (PreOf R mc ms Pc) (PostOf Qc mc ms free) (vx_Post XC mc ms free) := by
  obtain ⟨hrc, hrs, hfr, hlo, hws, hcw, -, hini, -⟩ := cb
  exact vx_back (bytes := bytes) (maxL := maxL) (ret := ret) hM hbl hrc hrs hfr hlo hws hcw (fun a' U hW => word_at hW (Or.inl (by first | rfl | simp [Cond.onTables, Cond.keeps, Cond.steady])) hini)
theorem vx_runV (S : CallFix p m c cc nL s args Ts own) (hM : vx_Met l y ws rm Pc Qc XC mc ms free) (cw : CallW R s args own C index y bytes maxL ret ws rm mc ms n) (hp : PreV s H C b Pc As)
    (hg : g.method = m) (hn : As.length = n) (hsize : g.locals.size = nL) (hstack : g.stack = As.reverse ++ .ref b :: rest) (hW : 2 * g.monitorRoom + (rest.map fun v => v.category).sum ≤ 8) (hdg : decode cc g.pc = .ok (.invokevirtual index, 3)) (hf : cells + mc ≤ R.cells ∧ slots + ms ≤ R.slots) :
    vx_Run p l e R s m args below meth c H locs cells slots mc ms g rest (Qc (Value.ref b :: As).toArray) XC free := by
  have hK : vx_Back l R p e below s args y 3 8 (PreOf R mc ms Pc) (PostOf Qc mc ms free) (vx_Post XC mc ms free) := vx_callBack cw.1 hM hp.1
  obtain ⟨⟨-, -, -, -, -, -, hcode, -, hy, hlen, hl⟩, hin, hse⟩ := cw
  obtain ⟨hx, hb, hml, ho, -⟩ := S
  obtain ⟨-, ⟨cellB, hcB, hoB, hclB⟩, hPc⟩ := hp
  intro T hT X
  rcases vx_callV X hx (C := C) (bytes := bytes) (maxL := maxL) (ret := ret) ho hl hin hse hcode hy hK (by rw [hT]; exact hcB) hoB hclB hg (hsize.trans hml.symm) (argsL := As) (rest := rest) (fun sig h => hn.trans (hlen sig h)) hstack hW (by rw [hb]; exact hdg)
    (fun vm₁ hW₁ => ⟨hf.1, hf.2, hPc (T.setVm vm₁) hT hW₁⟩) with ⟨v, vm₁, ⟨U', l2, c2, s2⟩, hW₁, X', ⟨g', mk, t, L, e1, e2, hq, h1, hL, h2, h3⟩, st⟩ | ⟨q, vm₁, ⟨U', l2, c2, s2⟩, hW₁, X', ⟨g', mk, t, L, E, ce, e1, e2, hq, hce, hcv, hcl, h1, hL, h2, h3⟩, st⟩
  · dsimp only [Pt.U, Pt.locs, Pt.cells, Pt.slots] at X' e1 e2 h1 h2 h3 st
    subst h1; subst h2; subst h3
    exact Or.inl ⟨v, (T.setVm vm₁).calling g' mk (Value.ref b :: As).toArray, t, U', L, hT, X', hL, e1, e2, hq, st⟩
  · dsimp only [Pt.U, Pt.locs, Pt.cells, Pt.slots] at X' e1 e2 h1 h2 h3 st hcl
    subst h1; subst h2; subst h3
    exact Or.inr ⟨q, (T.setVm vm₁).calling g' mk (Value.ref b :: As).toArray, t, U', L, E, ce, hT, X', hL, e1, e2, hq, hce, hcv, vx_cls hW₁ hcl, st⟩
theorem vx_runS (S : CallFix p m c cc nL s args Ts own) (hM : vx_Met l y ws rm Pc Qc XC mc ms free) (cw : CallB R s args own index y bytes maxL ret ws rm mc ms n ∧ (Cond.static y).before args s = true) (hp : PreS s H Pc As)
    (hg : g.method = m) (hn : As.length = n) (hsize : g.locals.size = nL) (hstack : g.stack = As.reverse ++ rest) (hW : 2 * g.monitorRoom + (rest.map fun v => v.category).sum ≤ 8) (hdg : decode cc g.pc = .ok (.invokestatic index, 3)) (hf : cells + mc ≤ R.cells ∧ slots + ms ≤ R.slots) :
    vx_Run p l e R s m args below meth c H locs cells slots mc ms g rest (Qc As.toArray) XC free := by
  have hK : vx_Back l R p e below s args y 3 8 (PreOf R mc ms Pc) (PostOf Qc mc ms free) (vx_Post XC mc ms free) := vx_callBack cw.1 hM hp.1
  obtain ⟨⟨-, -, -, -, -, -, hcode, hini, hy, hlen, hl⟩, hstt⟩ := cw
  obtain ⟨hx, hb, hml, ho, -⟩ := S
  intro T hT X
  rcases vx_callS X hx (bytes := bytes) (maxL := maxL) (ret := ret) ho hl hstt hini hcode hy hK hg (hsize.trans hml.symm) (argsL := As) (rest := rest) (fun sig h => hn.trans (hlen sig h)) hstack hW (by rw [hb]; exact hdg)
    (fun vm₁ hW₁ => ⟨hf.1, hf.2, hp.2 (T.setVm vm₁) hT hW₁⟩) with ⟨v, vm₁, ⟨U', l2, c2, s2⟩, hW₁, X', ⟨g', mk, t, L, e1, e2, hq, h1, hL, h2, h3⟩, st⟩ | ⟨q, vm₁, ⟨U', l2, c2, s2⟩, hW₁, X', ⟨g', mk, t, L, E, ce, e1, e2, hq, hce, hcv, hcl, h1, hL, h2, h3⟩, st⟩
  · dsimp only [Pt.U, Pt.locs, Pt.cells, Pt.slots] at X' e1 e2 h1 h2 h3 st
    subst h1; subst h2; subst h3
    exact Or.inl ⟨v, (T.setVm vm₁).calling g' mk As.toArray, t, U', L, hT, X', hL, e1, e2, hq, st⟩
  · dsimp only [Pt.U, Pt.locs, Pt.cells, Pt.slots] at X' e1 e2 h1 h2 h3 st hcl
    subst h1; subst h2; subst h3
    exact Or.inr ⟨q, (T.setVm vm₁).calling g' mk As.toArray, t, U', L, E, ce, hT, X', hL, e1, e2, hq, hce, hcv, vx_cls hW₁ hcl, st⟩
end Runs
section Rows
variable {p : Program} {l : Launch} {e : Env} {R : Room} {s : State} {m : MethodId} {args : Array Value} {below : List Frame} {meth : Method} {c : Code} {H : Heap} {locs : List Loc} {cells slots : Nat} {Q : State → Prop}
variable {mc ms : Nat} {free : Addr → Prop} {A0 A1 : Nat → Prop} {H0 : Heap} {a : Array Value} {pc : Nat} {ls : Array Slot} {st0 rest : List Value}
theorem vx_keep {st₀ t T' : State} {L : List Loc} (h0 : st₀.heap = H) (e1 : T'.heap = t.heap) (hS : va_S A0 H0 H locs) (hA : ∀ q, q < H.size → A1 q → A0 q) (hf : ∀ q, free q → A0 q) (hL : ∀ q ∈ L, free q.base) (hF : va_F A1 st₀ t) :
    H.size ≤ T'.heap.size ∧ (∀ q : Nat, q < H.size → ¬ A1 q → T'.heap[q]? = H[q]?) ∧ va_S A0 H0 T'.heap (locs ++ L) := by
  obtain ⟨hz, hk⟩ := hF
  rw [h0] at hz hk
  exact ⟨by rw [e1]; exact hz, fun q h1 h2 => by rw [e1]; exact hk q h1 h2,
    ⟨Nat.le_trans hS.1 (by rw [e1]; exact hz), fun q h1 h2 => by rw [e1, hk q (Nat.lt_of_lt_of_le h1 hS.1) (fun z => h2 (hA q (Nat.lt_of_lt_of_le h1 hS.1) z))]; exact hS.2.1 q h1 h2, fun q hq => by
      rcases List.mem_append.mp hq with h | h
      · exact hS.2.2 q h
      · exact hf _ (hL q h)⟩⟩
theorem vx_calli {S SX : Type} {post : Int32 → S → Prop} {px : SX → Prop} {B : S → State → Prop} {BX : String → SX → State → Prop} {AX : Nat → Prop} (hr : vx_Run p l e R s m args below meth c H locs cells slots mc ms (F0 m pc ls st0) rest (va_Qi post B A1 a) (vx_X px BX AX) free) (hS : va_S A0 H0 H locs) (hA : ∀ q, q < H.size → A1 q → A0 q) (hf : ∀ q, free q → A0 q) (hAX : ∀ q, q < H.size → AX q → A0 q)
    (kx : ∀ (E : String) (ce : Cell) (q9 : Addr) (u : SX) (t : State) (H1 : Heap) (locs1 : List Loc), t.heap = H1 → s.vm.Alike t.vm → px u → BX E u t → H.size ≤ H1.size → (∀ q : Nat, q < H.size → ¬ AX q → H1[q]? = H[q]?) → va_S A0 H0 H1 locs1 → H1[q9]? = some ce → ce.vm = .none → s.vm.findClass E = some ce.cls → vx_W p l e R s m args below meth c H1 locs1 (cells + mc) (slots + ms) Q (F0 m pc ls rest) q9)
    (kk : ∀ (r : Int32) (u : S) (t : State) (H1 : Heap) (locs1 : List Loc), t.heap = H1 → s.vm.Alike t.vm → post r u → B u t → H.size ≤ H1.size → (∀ q : Nat, q < H.size → ¬ A1 q → H1[q]? = H[q]?) → va_S A0 H0 H1 locs1 → W p l e R s m args below meth c H1 locs1 (cells + mc) (slots + ms) Q (F0 m (pc + 3) ls (.int r :: rest))) : W p l e R s m args below meth c H locs cells slots Q (F0 m pc ls st0) := by
  intro T hT X
  rcases hr T hT X with ⟨v, st₀, t, T', L, h0, X', hL, e1, e2, ⟨⟨r, u, hv, hp, hb⟩, hF⟩, st⟩ | ⟨q, st₀, t, T', L, E, ce, h0, X', hL, e1, e2, ⟨u, hp, hb, hF⟩, hce, hcv, hcl, st⟩
  · cases hv
    obtain ⟨k1, k2, k3⟩ := vx_keep h0 e1 hS hA hf hL hF
    obtain ⟨t2, a1, b1⟩ := kk r u t T'.heap (locs ++ L) e1.symm (by rw [← e2]; exact X'.warmed.alike) hp hb k1 k2 k3 T' rfl X'
    exact ⟨t2, st t2 a1, b1⟩
  · obtain ⟨k1, k2, k3⟩ := vx_keep h0 e1 hS hAX hf hL hF
    obtain ⟨t2, a1, b1⟩ := kx E ce q u t T'.heap (locs ++ L) e1.symm (by rw [← e2]; exact X'.warmed.alike) hp hb k1 k2 k3 (by rw [e1]; exact hce) hcv hcl T' rfl X'
    exact ⟨t2, st.trans a1, b1⟩
theorem vx_calll {S SX : Type} {post : Int64 → S → Prop} {px : SX → Prop} {B : S → State → Prop} {BX : String → SX → State → Prop} {AX : Nat → Prop} (hr : vx_Run p l e R s m args below meth c H locs cells slots mc ms (F0 m pc ls st0) rest (va_Ql post B A1 a) (vx_X px BX AX) free) (hS : va_S A0 H0 H locs) (hA : ∀ q, q < H.size → A1 q → A0 q) (hf : ∀ q, free q → A0 q) (hAX : ∀ q, q < H.size → AX q → A0 q)
    (kx : ∀ (E : String) (ce : Cell) (q9 : Addr) (u : SX) (t : State) (H1 : Heap) (locs1 : List Loc), t.heap = H1 → s.vm.Alike t.vm → px u → BX E u t → H.size ≤ H1.size → (∀ q : Nat, q < H.size → ¬ AX q → H1[q]? = H[q]?) → va_S A0 H0 H1 locs1 → H1[q9]? = some ce → ce.vm = .none → s.vm.findClass E = some ce.cls → vx_W p l e R s m args below meth c H1 locs1 (cells + mc) (slots + ms) Q (F0 m pc ls rest) q9)
    (kk : ∀ (r : Int64) (u : S) (t : State) (H1 : Heap) (locs1 : List Loc), t.heap = H1 → s.vm.Alike t.vm → post r u → B u t → H.size ≤ H1.size → (∀ q : Nat, q < H.size → ¬ A1 q → H1[q]? = H[q]?) → va_S A0 H0 H1 locs1 → W p l e R s m args below meth c H1 locs1 (cells + mc) (slots + ms) Q (F0 m (pc + 3) ls (.long r :: rest))) : W p l e R s m args below meth c H locs cells slots Q (F0 m pc ls st0) := by
  intro T hT X
  rcases hr T hT X with ⟨v, st₀, t, T', L, h0, X', hL, e1, e2, ⟨⟨r, u, hv, hp, hb⟩, hF⟩, st⟩ | ⟨q, st₀, t, T', L, E, ce, h0, X', hL, e1, e2, ⟨u, hp, hb, hF⟩, hce, hcv, hcl, st⟩
  · cases hv
    obtain ⟨k1, k2, k3⟩ := vx_keep h0 e1 hS hA hf hL hF
    obtain ⟨t2, a1, b1⟩ := kk r u t T'.heap (locs ++ L) e1.symm (by rw [← e2]; exact X'.warmed.alike) hp hb k1 k2 k3 T' rfl X'
    exact ⟨t2, st t2 a1, b1⟩
  · obtain ⟨k1, k2, k3⟩ := vx_keep h0 e1 hS hAX hf hL hF
    obtain ⟨t2, a1, b1⟩ := kx E ce q u t T'.heap (locs ++ L) e1.symm (by rw [← e2]; exact X'.warmed.alike) hp hb k1 k2 k3 (by rw [e1]; exact hce) hcv hcl T' rfl X'
    exact ⟨t2, st.trans a1, b1⟩
theorem vx_callf {S SX : Type} {post : UInt32 → S → Prop} {px : SX → Prop} {B : S → State → Prop} {BX : String → SX → State → Prop} {AX : Nat → Prop} (hr : vx_Run p l e R s m args below meth c H locs cells slots mc ms (F0 m pc ls st0) rest (va_Qf post B A1 a) (vx_X px BX AX) free) (hS : va_S A0 H0 H locs) (hA : ∀ q, q < H.size → A1 q → A0 q) (hf : ∀ q, free q → A0 q) (hAX : ∀ q, q < H.size → AX q → A0 q)
    (kx : ∀ (E : String) (ce : Cell) (q9 : Addr) (u : SX) (t : State) (H1 : Heap) (locs1 : List Loc), t.heap = H1 → s.vm.Alike t.vm → px u → BX E u t → H.size ≤ H1.size → (∀ q : Nat, q < H.size → ¬ AX q → H1[q]? = H[q]?) → va_S A0 H0 H1 locs1 → H1[q9]? = some ce → ce.vm = .none → s.vm.findClass E = some ce.cls → vx_W p l e R s m args below meth c H1 locs1 (cells + mc) (slots + ms) Q (F0 m pc ls rest) q9)
    (kk : ∀ (r : UInt32) (u : S) (t : State) (H1 : Heap) (locs1 : List Loc), t.heap = H1 → s.vm.Alike t.vm → post r u → B u t → H.size ≤ H1.size → (∀ q : Nat, q < H.size → ¬ A1 q → H1[q]? = H[q]?) → va_S A0 H0 H1 locs1 → W p l e R s m args below meth c H1 locs1 (cells + mc) (slots + ms) Q (F0 m (pc + 3) ls (.float r :: rest))) : W p l e R s m args below meth c H locs cells slots Q (F0 m pc ls st0) := by
  intro T hT X
  rcases hr T hT X with ⟨v, st₀, t, T', L, h0, X', hL, e1, e2, ⟨⟨r, u, hv, hp, hb⟩, hF⟩, st⟩ | ⟨q, st₀, t, T', L, E, ce, h0, X', hL, e1, e2, ⟨u, hp, hb, hF⟩, hce, hcv, hcl, st⟩
  · cases hv
    obtain ⟨k1, k2, k3⟩ := vx_keep h0 e1 hS hA hf hL hF
    obtain ⟨t2, a1, b1⟩ := kk r u t T'.heap (locs ++ L) e1.symm (by rw [← e2]; exact X'.warmed.alike) hp hb k1 k2 k3 T' rfl X'
    exact ⟨t2, st t2 a1, b1⟩
  · obtain ⟨k1, k2, k3⟩ := vx_keep h0 e1 hS hAX hf hL hF
    obtain ⟨t2, a1, b1⟩ := kx E ce q u t T'.heap (locs ++ L) e1.symm (by rw [← e2]; exact X'.warmed.alike) hp hb k1 k2 k3 (by rw [e1]; exact hce) hcv hcl T' rfl X'
    exact ⟨t2, st.trans a1, b1⟩
theorem vx_calld {S SX : Type} {post : UInt64 → S → Prop} {px : SX → Prop} {B : S → State → Prop} {BX : String → SX → State → Prop} {AX : Nat → Prop} (hr : vx_Run p l e R s m args below meth c H locs cells slots mc ms (F0 m pc ls st0) rest (va_Qd post B A1 a) (vx_X px BX AX) free) (hS : va_S A0 H0 H locs) (hA : ∀ q, q < H.size → A1 q → A0 q) (hf : ∀ q, free q → A0 q) (hAX : ∀ q, q < H.size → AX q → A0 q)
    (kx : ∀ (E : String) (ce : Cell) (q9 : Addr) (u : SX) (t : State) (H1 : Heap) (locs1 : List Loc), t.heap = H1 → s.vm.Alike t.vm → px u → BX E u t → H.size ≤ H1.size → (∀ q : Nat, q < H.size → ¬ AX q → H1[q]? = H[q]?) → va_S A0 H0 H1 locs1 → H1[q9]? = some ce → ce.vm = .none → s.vm.findClass E = some ce.cls → vx_W p l e R s m args below meth c H1 locs1 (cells + mc) (slots + ms) Q (F0 m pc ls rest) q9)
    (kk : ∀ (r : UInt64) (u : S) (t : State) (H1 : Heap) (locs1 : List Loc), t.heap = H1 → s.vm.Alike t.vm → post r u → B u t → H.size ≤ H1.size → (∀ q : Nat, q < H.size → ¬ A1 q → H1[q]? = H[q]?) → va_S A0 H0 H1 locs1 → W p l e R s m args below meth c H1 locs1 (cells + mc) (slots + ms) Q (F0 m (pc + 3) ls (.double r :: rest))) : W p l e R s m args below meth c H locs cells slots Q (F0 m pc ls st0) := by
  intro T hT X
  rcases hr T hT X with ⟨v, st₀, t, T', L, h0, X', hL, e1, e2, ⟨⟨r, u, hv, hp, hb⟩, hF⟩, st⟩ | ⟨q, st₀, t, T', L, E, ce, h0, X', hL, e1, e2, ⟨u, hp, hb, hF⟩, hce, hcv, hcl, st⟩
  · cases hv
    obtain ⟨k1, k2, k3⟩ := vx_keep h0 e1 hS hA hf hL hF
    obtain ⟨t2, a1, b1⟩ := kk r u t T'.heap (locs ++ L) e1.symm (by rw [← e2]; exact X'.warmed.alike) hp hb k1 k2 k3 T' rfl X'
    exact ⟨t2, st t2 a1, b1⟩
  · obtain ⟨k1, k2, k3⟩ := vx_keep h0 e1 hS hAX hf hL hF
    obtain ⟨t2, a1, b1⟩ := kx E ce q u t T'.heap (locs ++ L) e1.symm (by rw [← e2]; exact X'.warmed.alike) hp hb k1 k2 k3 (by rw [e1]; exact hce) hcv hcl T' rfl X'
    exact ⟨t2, st.trans a1, b1⟩
theorem vx_callv {S SX : Type} {post : S → Prop} {px : SX → Prop} {B : S → State → Prop} {BX : String → SX → State → Prop} {AX : Nat → Prop} (hr : vx_Run p l e R s m args below meth c H locs cells slots mc ms (F0 m pc ls st0) rest (va_Qv post B A1 a) (vx_X px BX AX) free) (hS : va_S A0 H0 H locs) (hA : ∀ q, q < H.size → A1 q → A0 q) (hf : ∀ q, free q → A0 q) (hAX : ∀ q, q < H.size → AX q → A0 q)
    (kx : ∀ (E : String) (ce : Cell) (q9 : Addr) (u : SX) (t : State) (H1 : Heap) (locs1 : List Loc), t.heap = H1 → s.vm.Alike t.vm → px u → BX E u t → H.size ≤ H1.size → (∀ q : Nat, q < H.size → ¬ AX q → H1[q]? = H[q]?) → va_S A0 H0 H1 locs1 → H1[q9]? = some ce → ce.vm = .none → s.vm.findClass E = some ce.cls → vx_W p l e R s m args below meth c H1 locs1 (cells + mc) (slots + ms) Q (F0 m pc ls rest) q9)
    (kk : ∀ (u : S) (t : State) (H1 : Heap) (locs1 : List Loc), t.heap = H1 → s.vm.Alike t.vm → post u → B u t → H.size ≤ H1.size → (∀ q : Nat, q < H.size → ¬ A1 q → H1[q]? = H[q]?) → va_S A0 H0 H1 locs1 → W p l e R s m args below meth c H1 locs1 (cells + mc) (slots + ms) Q (F0 m (pc + 3) ls (rest))) : W p l e R s m args below meth c H locs cells slots Q (F0 m pc ls st0) := by
  intro T hT X
  rcases hr T hT X with ⟨v, st₀, t, T', L, h0, X', hL, e1, e2, ⟨⟨u, hv, hp, hb⟩, hF⟩, st⟩ | ⟨q, st₀, t, T', L, E, ce, h0, X', hL, e1, e2, ⟨u, hp, hb, hF⟩, hce, hcv, hcl, st⟩
  · cases hv
    obtain ⟨k1, k2, k3⟩ := vx_keep h0 e1 hS hA hf hL hF
    obtain ⟨t2, a1, b1⟩ := kk u t T'.heap (locs ++ L) e1.symm (by rw [← e2]; exact X'.warmed.alike) hp hb k1 k2 k3 T' rfl X'
    exact ⟨t2, st t2 a1, b1⟩
  · obtain ⟨k1, k2, k3⟩ := vx_keep h0 e1 hS hAX hf hL hF
    obtain ⟨t2, a1, b1⟩ := kx E ce q u t T'.heap (locs ++ L) e1.symm (by rw [← e2]; exact X'.warmed.alike) hp hb k1 k2 k3 (by rw [e1]; exact hce) hcv hcl T' rfl X'
    exact ⟨t2, st.trans a1, b1⟩
/-- caught by the row x of this method's table; the rows ahead don't take it -/
theorem vx_catch {own name : String} {E : String} {ce : Cell} {q : Addr} (hown : s.vm.findClass own = some m.cls) (pre : List ExceptionTableEntry) (x : ExceptionTableEntry) (suf : List ExceptionTableEntry) (hsplit : c.exceptionTable.toList = pre ++ x :: suf)
    (hpass : ∀ z ∈ pre, covers z pc = false ∨ (z.catchType ≠ 0 ∧ ∃ nm : String, (Cond.classLink own z.catchType nm).before args s = true ∧ va_Nc E nm s)) (hx : covers x pc = true) (h0 : x.catchType ≠ 0)
    (hlink : (Cond.classLink own x.catchType name).before args s = true) (hcast : (Cond.castable E name).before args s = true) (hcell : H[q]? = some ce) (hv : ce.vm = .none) (hcl : s.vm.findClass E = some ce.cls)
    (kk : W p l e R s m args below meth c H locs cells slots Q (F0 m x.handlerPc ls [.ref q])) : vx_W p l e R s m args below meth c H locs cells slots Q (F0 m pc ls rest) q := by
  intro T hT X
  have hpl : e.platform.magicAccessors = ({} : Platform).magicAccessors := by rw [X.admits.platform]
  obtain ⟨c3, c4, hc3, hc4, hasg⟩ := Cond.castable_spec hcast
  cases Option.some.inj (hc3.symm.trans hcl)
  obtain ⟨c5, hc5, hcl5⟩ := Cond.classLink_spec hown hlink e.platform hpl
  cases Option.some.inj (hc4.symm.trans hc5)
  obtain ⟨vm', X', st⟩ := X.thenCaughtThrough q (g := F0 m pc ls rest) rfl (Steps.refl _) (by rw [hT]; exact hcell) (by rw [hv]; rfl) (by obtain ⟨k9, h9, -⟩ := Vm.findClass_spec hcl; exact ⟨k9, h9⟩) pre x suf hsplit
    (fun z hz => by
      rcases hpass z hz with h | ⟨hz0, nm, hl1, hn1⟩
      · exact Or.inl h
      · obtain ⟨c6, hc6, hcl6⟩ := Cond.classLink_spec hown hl1 e.platform hpl
        obtain ⟨a8, b8, h1, h2, h3⟩ := hn1
        cases Option.some.inj (h1.symm.trans hcl)
        cases Option.some.inj (h2.symm.trans hc6)
        exact Or.inr ⟨hz0, _, hcl6, h3⟩) hx (Or.inr ⟨h0, c4, hcl5, hasg⟩)
  obtain ⟨t, a1, b1⟩ := kk (T.setVm vm') hT X'
  exact ⟨t, st.trans a1, b1⟩
end Rows
section Ends
variable {p : Program} {l : Launch} {e : Env} {R : Room} {s : State} {m : MethodId} {args : Array Value} {below : List Frame} {meth : Method} {c : Code} {H : Heap} {locs : List Loc} {cells slots : Nat} {Q : State → Prop}
variable {mc ms : Nat} {free : Addr → Prop} {A0 A1 : Nat → Prop} {H0 : Heap} {a : Array Value} {ls : Array Slot} {st0 rest : List Value}
variable {Qc : Array Value → State → Outcome → State → Prop} {XC : String → State → State → Prop}
/-- what a body that may throw owes at its end -/
def vx_MQ (below : List Frame) (Qc : Array Value → State → Outcome → State → Prop) (XC : String → State → State → Prop) (a : Array Value) (s : State) (mc ms : Nat) (free : Addr → Prop) : State → Prop := fun t =>
  ∃ o, t.status = .running ∧ Ended t below o ∧ vx_Q Qc XC mc ms free a s o t
theorem vx_ret {g : JFrame} {mc ms : Nat} (k : W p l e R s m args below meth c H locs cells slots (MQ below Qc args s mc ms free) g) : W p l e R s m args below meth c H locs cells slots (vx_MQ below Qc XC args s mc ms free) g := by
  intro T hT X
  obtain ⟨t, a1, o, b1, b2, b3, b4⟩ := k T hT X
  exact ⟨t, a1, o, b1, b2, Or.inl ⟨b3, b4⟩⟩
/-- not caught here: it goes on to the caller -/
theorem vx_widen {g : JFrame} {q : Addr} {k n : Nat} (h1 : cells ≤ k) (h2 : slots ≤ n) (kk : vx_W p l e R s m args below meth c H locs k n Q g q) : vx_W p l e R s m args below meth c H locs cells slots Q g q := fun T hT X => kk T hT (stand_widen X h1 h2)
theorem vx_out {pc : Nat} {E : String} {ce : Cell} {q : Addr} {mc ms : Nat} (hout : ∀ x ∈ c.exceptionTable.toList, covers x pc = false) (hlocks : meth.locks = false) (hcell : H[q]? = some ce) (hv : ce.vm = .none) (hcl : s.vm.findClass E = some ce.cls)
    (hx : ∀ t : State, t.heap = H → s.vm.Alike t.vm → XC E s t) (hf : ∀ z ∈ locs, free z.base) (hc : cells ≤ mc) (hs : slots ≤ ms) :
    vx_W p l e R s m args below meth c H locs cells slots (vx_MQ below Qc XC args s mc ms free) (F0 m pc ls rest) q := by
  intro T hT X
  obtain ⟨st1, hrun, hend, hW, hsm⟩ := X.leaveThrown q (g := F0 m pc ls rest) rfl rfl rfl hout hlocks
  have hcell9 : (T.setFrames (.throwing q :: below)).heap[q]? = some ce := by
    show T.heap[q]? = some ce
    rw [hT]; exact hcell
  exact ⟨_, st1, .threw q, hrun, hend, Or.inr ⟨q, rfl, E, ce, locs, hx _ hT hW.alike, hcell9, hv, hcl, hW, hsm.mono hc hs, hf⟩⟩
theorem vx_frame {U : State} {k n : Nat} (h : s.sameButNew ({ U with vm := s.vm } : State) locs k n) : s.heap.size ≤ U.heap.size ∧ ∀ q : Nat, q < s.heap.size → (∀ z ∈ locs, z.base ≠ q) → U.heap[q]? = s.heap[q]? := by
  obtain ⟨-, h2, -, -, -, h6⟩ := h
  refine ⟨h2, fun q hq hz => ?_⟩
  obtain ⟨c9, e1, e2, e3, e4⟩ := h6 q _ (Array.getElem?_eq_getElem hq)
  have hs : c9.slots = (s.heap[q]).slots := Array.ext_getElem? fun i => e4 i fun hm => hz _ hm rfl
  have h9 : c9 = s.heap[q] := by
    rw [hs] at e2
    exact e2
  have e5 : U.heap[q]? = some c9 := e1
  rw [e5, h9, Array.getElem?_eq_getElem hq]
/-- the words of a throw but the four that speak of the heap -/
def vx_no (w : Cond) : Bool := decide (w ≠ .isRef (.static Bundle.tN "UNASSIGNED_STACK" Bundle.steD)) && decide (w ≠ .isRef (.static Bundle.tN "SUPPRESSED_SENTINEL" Bundle.listD)) && decide (w ≠ .laysStatic Bundle.tN "UNASSIGNED_STACK" Bundle.steD) && decide (w ≠ .laysStatic Bundle.tN "SUPPRESSED_SENTINEL" Bundle.listD)
def vx_at0 (own : String) (ic : Nat) (X : String) (names : List String) : List Cond := (Bundle.ownAtoms0 own ic X names).filter vx_no
def vx_atS (own : String) (ic : Nat) (X : String) (names : List String) : List Cond := (Bundle.ownAtoms own ic X names).filter vx_no
/-- a word that the tables alone decide, or a good one -/
def vx_ot (w : Cond) : Bool := w.onTables || goodWord w
theorem vx_ot_at {args a' : Array Value} {s U : State} {w : Cond} (hW : s.WarmedH U.vm) (hvm : s.vm = U.vm) (hg : vx_ot w = true) (h : w.before args s = true) : w.before a' U = true := by
  simp only [vx_ot, Bool.or_eq_true] at hg
  rcases hg with hg | hg
  · exact va_tabs hg hvm h
  · exact word_at hW (good_of_word hg) h
/-- a list's words: the good ones out of the method's own list, the others by premises of their own -/
theorem vx_hat {args : Array Value} {s : State} {L B : List Cond} (h1 : ∀ w ∈ L.filter goodWord, w.before args s = true) (h2 : ∀ w ∈ L.filter (fun w => !goodWord w), w ∈ B) (h3 : ∀ w ∈ B, w.before args s = true) : ∀ w ∈ L, w.before args s = true := by
  intro w hw
  by_cases g : goodWord w = true
  · exact h1 w (List.mem_filter.mpr ⟨hw, g⟩)
  · refine h3 w (h2 w (List.mem_filter.mpr ⟨hw, ?_⟩))
    show (!goodWord w) = true
    cases hgw : goodWord w
    · rfl
    · exact absurd hgw g
theorem vx_c {args : Array Value} {s : State} {w : Cond} {B : List Cond} (h : w.before args s = true) (t : ∀ w ∈ B, w.before args s = true) : ∀ w' ∈ w :: B, w'.before args s = true := fun w' h' => (List.mem_cons.mp h').elim (fun e => by rw [e]; exact h) (t w')
theorem vx_n {args : Array Value} {s : State} : ∀ w ∈ ([] : List Cond), w.before args s = true := fun _ h => nomatch h
theorem vx_own {args : Array Value} {s : State} {L : List Cond} (h1 : ∀ w ∈ L.filter vx_no, w.before args s = true)
    (hU : (Cond.isRef (.static Bundle.tN "UNASSIGNED_STACK" Bundle.steD)).before args s = true) (hN : (Cond.isRef (.static Bundle.tN "SUPPRESSED_SENTINEL" Bundle.listD)).before args s = true)
    (lU : (Cond.laysStatic Bundle.tN "UNASSIGNED_STACK" Bundle.steD).before args s = true) (lN : (Cond.laysStatic Bundle.tN "SUPPRESSED_SENTINEL" Bundle.listD).before args s = true) : ∀ w ∈ L, w.before args s = true := by
  intro w hw
  by_cases e1 : w = .isRef (.static Bundle.tN "UNASSIGNED_STACK" Bundle.steD)
  · rw [e1]; exact hU
  · by_cases e2 : w = .isRef (.static Bundle.tN "SUPPRESSED_SENTINEL" Bundle.listD)
    · rw [e2]; exact hN
    · by_cases e3 : w = .laysStatic Bundle.tN "UNASSIGNED_STACK" Bundle.steD
      · rw [e3]; exact lU
      · by_cases e4 : w = .laysStatic Bundle.tN "SUPPRESSED_SENTINEL" Bundle.listD
        · rw [e4]; exact lN
        · exact h1 w (List.mem_filter.mpr ⟨hw, by unfold vx_no; rw [decide_eq_true e1, decide_eq_true e2, decide_eq_true e3, decide_eq_true e4]; rfl⟩)
/-- where a static field lies, its class's statics cell in H -/
def vx_L (C n d : String) (A : Nat → Prop) (U : State) (H : Heap) : Prop := ∃ (c : ClassId) (k : Class) (i : Nat) (f : Field) (a : Nat) (cell : Cell), U.vm.findClass C = some c ∧ U.fieldFound? C n d = some (c, k, i, f) ∧ f.isStatic = true ∧ k.statics = some a ∧ H[a]? = some cell ∧ cell.vm.isStatics = true ∧ cell.cls = c ∧ f.slot < cell.slots.size ∧ k.staticTypes[f.slot]? = some f.type ∧ ¬ A a
theorem vx_L.moved {C n d : String} {A : Nat → Prop} {u U : State} {H : Heap} (hvm : u.vm.Alike U.vm) (h : vx_L C n d A u H) : vx_L C n d A U H := by
  obtain ⟨c, k, i, f, a, cell, h1, h2, h3, h4, h5, h6, h7, h8, h9, h10⟩ := h
  obtain ⟨k', hi', he⟩ := State.fieldFound?_setVm hvm h2
  exact ⟨c, k', i, f, a, cell, by rw [hvm.findClass]; exact h1, hi', h3, by rw [he]; exact h4, h5, h6, h7, h8, by rw [he]; exact h9, h10⟩
theorem vx_L.kept {C n d : String} {A : Nat → Prop} {U : State} {H H1 : Heap} (h : vx_L C n d A U H) (hq : ∀ a : Nat, a < H.size → ¬ A a → H1[a]? = H[a]?) : vx_L C n d A U H1 := by
  obtain ⟨c, k, i, f, a, cell, h1, h2, h3, h4, h5, h6, h7, h8, h9, h10⟩ := h
  exact ⟨c, k, i, f, a, cell, h1, h2, h3, h4, by rw [hq a (Array.getElem?_eq_some_iff.mp h5).1 h10]; exact h5, h6, h7, h8, h9, h10⟩
theorem vx_L.narrow {C n d : String} {A B : Nat → Prop} {U : State} {H : Heap} (h : vx_L C n d A U H) (hAB : ∀ q, B q → A q) : vx_L C n d B U H := by
  obtain ⟨c, k, i, f, a, cell, h1, h2, h3, h4, h5, h6, h7, h8, h9, h10⟩ := h
  exact ⟨c, k, i, f, a, cell, h1, h2, h3, h4, h5, h6, h7, h8, h9, fun z => h10 (hAB _ z)⟩
theorem vx_L.word {C n d : String} {A : Nat → Prop} {s : State} {args : Array Value} (h : vx_L C n d A s s.heap) : (Cond.laysStatic C n d).before args s = true := by
  obtain ⟨c, k, i, f, a, cell, h1, h2, h3, h4, h5, h6, h7, h8, h9, -⟩ := h
  show (Cond.laysStatic C n d).holds args s none s [] = true
  exact Cond.laysStatic_of h1 h2 h3 h4 h5 h6 h7 h8 h9
/-- .. and what it holds: null or some reference -/
def vx_Zq (C n d : String) (A : Nat → Prop) (U : State) (H : Heap) : Prop := va_Zq C n d A U H ∧ vx_L C n d A U H
theorem vx_Zq.moved {C n d : String} {A : Nat → Prop} {u U : State} {H : Heap} (hvm : u.vm.Alike U.vm) (h : vx_Zq C n d A u H) : vx_Zq C n d A U H := ⟨va_Zq.moved hvm h.1, vx_L.moved hvm h.2⟩
theorem vx_Zq.kept {C n d : String} {A : Nat → Prop} {U : State} {H H1 : Heap} (h : vx_Zq C n d A U H) (hq : ∀ a : Nat, a < H.size → ¬ A a → H1[a]? = H[a]?) : vx_Zq C n d A U H1 := ⟨va_Zq.kept h.1 hq, vx_L.kept h.2 hq⟩
theorem vx_Zq.narrow {C n d : String} {A B : Nat → Prop} {U : State} {H : Heap} (h : vx_Zq C n d A U H) (hAB : ∀ q, B q → A q) : vx_Zq C n d B U H := ⟨va_Zq.narrow h.1 hAB, vx_L.narrow h.2 hAB⟩
theorem vx_Zqof {args : Array Value} {s : State} {C n d : String} {A : Nat → Prop} (hl : (Cond.laysStatic C n d).before args s = true) (hini : (Cond.initialized C).before args s = true) (h : (Cond.isRef (.static C n d)).before args s = true) (hA : ∀ a : Nat, a < s.heap.size → ¬ A a) : vx_Zq C n d A s s.heap := by
  refine ⟨va_Zqof hl hini h hA, ?_⟩
  obtain ⟨c, k, i, f, a, cell, h1, h2, h3, h4, h5, h6, h7, h8, h9⟩ := Cond.laysStatic_spec hl
  exact ⟨c, k, i, f, a, cell, h1, h2, h3, h4, h5, h6, h7, h8, h9, hA a (Array.getElem?_eq_some_iff.mp h5).1⟩
theorem vx_isRef {C n d : String} {v : Value} {A : Nat → Prop} {s : State} {args : Array Value} (h : va_Z C n d v A s s.heap) (hv : v.isRef = true) : (Cond.isRef (.static C n d)).before args s = true := by
  obtain ⟨cf, kf, fi, f, a, cell, h1, h2, h3, h4, h5, h6, h7, -⟩ := h
  have he : (Term.static C n d).eval args s none [] s = some v := by
    simp [Term.eval, State.fieldNamed?, h1, h2, h4, h5, h6, h7]
  simp only [Cond.before, Cond.holds, Cond.value, he]
  cases v <;> simp_all [Value.isRef]
theorem vx_isRefq {C n d : String} {A : Nat → Prop} {s : State} {args : Array Value} (h : va_Zq C n d A s s.heap) : (Cond.isRef (.static C n d)).before args s = true := by
  rcases h with h | ⟨t, h⟩
  · exact vx_isRef h rfl
  · exact vx_isRef h rfl
/-- the same frame, seen from here: as if the method were called anew in this heap -/
theorem vx_rebase {T : State} (X : Stand p l e R s m args below meth c T locs cells slots) {R' : Room} (hf : R'.frames ≤ R.frames) (hl : R'.locals ≤ R.locals) (hc : cells + R'.cells ≤ R.cells) (hs : slots + R'.slots ≤ R.slots) :
    Stand p l e R' ((T.setVm s.vm).setFrames (.invoking m args :: below)) m args below meth c T [] 0 0 := by
  have htop : (T.setVm s.vm).topJava?.isSome := X.here.top
  have hF : ((T.setVm s.vm).setFrames (.invoking m args :: below)).frames = .invoking m args :: below := State.frames_setFrames _ (State.cur_lt_of_top htop)
  obtain ⟨g₀, hg0⟩ := Option.isSome_iff_exists.mp htop
  obtain ⟨r, hr⟩ := State.topJava?_eq_some.mp hg0
  have hl9 : e.platform.stackLimits (T.setVm s.vm).me = e.platform.stackLimits s.me := X.limits
  have hb9 : (T.setVm s.vm).me.stackBytes = s.me.stackBytes := X.bytes
  refine ⟨X.admits, X.cas, X.clock, hF, ?_, X.hears, X.method, X.code, X.here, X.tail, X.warmed, ?_, ?_, ?_⟩
  · have h := X.room
    have hU : ((T.setVm s.vm).setFrames (.invoking m args :: below)).localsInUse = s.localsInUse := by
      rw [State.localsInUse_invoking hF (meth := meth) (c := c) X.method X.code, State.localsInUse_invoking X.frames X.method X.code]
    simp only [State.hasRoom, Bool.and_eq_true, decide_eq_true_eq] at h ⊢
    obtain ⟨⟨⟨⟨h1, h2, h3, h4, h5, h6⟩, h7⟩, h8⟩, h9⟩ := h
    rw [X.frames, List.length_cons] at h2 h3
    have q1 := X.heapSize
    have q2 := X.used
    simp only [hF, hU, List.length_cons, State.stackLimits_setFrames, State.stackBytes_setFrames, hl9, hb9]
    refine ⟨⟨⟨⟨by omega, by omega, by omega, by omega, by omega, h6⟩, ?_⟩, ?_⟩, X.book⟩
    · show T.heap.size + R'.cells ≤ e.platform.maxCells
      omega
    · show T.slotsUsed + R'.slots ≤ e.platform.maxSlots
      omega
  · rw [State.stackLimits_setFrames]; rfl
  · rw [State.stackBytes_setFrames]; rfl
  · refine ⟨?_, Nat.le_refl _, Nat.le_refl _, ?_, ?_, fun a c9 h9 => ⟨c9, h9, rfl, rfl, fun _ _ => rfl⟩⟩
    · obtain ⟨t, ht, -⟩ := State.frames_cons hr
      show T.setVm s.vm = { ((T.setVm s.vm).setFrames (.invoking m args :: below)).setFrames (T.setVm s.vm).frames with heap := T.heap, slotsUsed := T.slotsUsed }
      rw [State.setFrames_setFrames, State.setFrames_self ht]
      rfl
    · show T.slotsUsed = T.slotsUsed + ((T.heap.toList.drop T.heap.size).map (·.slots.size)).sum
      rw [List.drop_eq_nil_of_le (Nat.le_of_eq Array.length_toList)]
      rfl
    · show ((T.heap.toList.drop T.heap.size).map (·.slots.size)).sum ≤ 0
      rw [List.drop_eq_nil_of_le (Nat.le_of_eq Array.length_toList)]
      exact Nat.le_refl _
/-- 'throw new E()': new; dup; invokespecial; athrow -/
theorem vx_throw0 {cc : ByteArray} {pc : Nat} (hexec : p.tables.exec = Jvm.exec) (hb : c.code = cc) (hl : l.stackTraces = false) {own cls : String} {names : List String} {ik ic mc ms : Nat} {A : Nat → Prop}
    (hown : s.vm.findClass own = some m.cls) (hcls : Bundle.fit cls = true) (hnames : ∀ n ∈ names, Bundle.fit n = true)
    (hk : (Cond.classLink own ik cls).before args s = true) (hini : (Cond.initialized cls).before args s = true) (hat : ∀ w ∈ vx_at0 own ic cls names, w.before args s = true)
    (hgood : ∀ w ∈ Cond.classLink own ik cls :: Cond.initialized cls :: vx_at0 own ic cls names, vx_ot w = true)
    (hU : vx_Zq Bundle.tN "UNASSIGNED_STACK" Bundle.steD A s s.heap) (hN : vx_Zq Bundle.tN "SUPPRESSED_SENTINEL" Bundle.listD A s s.heap) (hS : va_S A s.heap H locs) (hsize : ls.size = c.maxLocals)
    (d0 : decode cc pc = .ok (.new ik, 3)) (d3 : decode cc (pc + 3) = .ok (.dup, 1)) (d4 : decode cc (pc + 4) = .ok (.invokespecial ic, 3)) (d7 : decode cc (pc + 7) = .ok (.athrow, 1))
    (hout : ∀ x ∈ c.exceptionTable.toList, covers x (pc + 7) = false)
    (hRframes : names.length + 3 < R.frames) (hRlocals : (rest.map fun v => v.category).sum + (13 * (names.length + 1) + 42) ≤ R.locals) (hRcells : cells + 1 ≤ R.cells) (hRslots : slots + 6 ≤ R.slots) (hlocks : meth.locks = false)
    (hx : ∀ t : State, s.vm.Alike t.vm → H.size ≤ t.heap.size → (∀ q : Nat, q < H.size → t.heap[q]? = H[q]?) → XC cls s t)
    (hf : ∀ z ∈ locs, free z.base) (hc : cells + 1 ≤ mc) (hs : slots + 6 ≤ ms) :
    W p l e R s m args below meth c H locs cells slots (vx_MQ below Qc XC args s mc ms free) (F0 m pc ls rest) := by
  intro T hT X
  have htr : e.platform.stackTraces = false := (show e.platform.stackTraces = l.stackTraces by rw [X.admits.platform]).trans hl
  have Y := vx_rebase X (R' := { frames := R.frames, locals := R.locals, cells := 1, slots := 6 }) (Nat.le_refl _) (Nat.le_refl _) hRcells hRslots
  obtain ⟨s', hA⟩ : ∃ z, z = (T.setVm s.vm).setFrames (.invoking m args :: below) := ⟨_, rfl⟩
  rw [← hA] at Y
  have hvm : s'.vm = s.vm := by rw [hA]; rfl
  have hhp : s'.heap = H := by rw [hA]; exact hT
  have hW0 : s.WarmedH s'.vm := by rw [hvm]; exact State.WarmedH.refl s
  have hat' : ∀ w ∈ vx_at0 own ic cls names, w.before args s' = true := fun w hw => vx_ot_at hW0 hvm.symm (hgood w (List.mem_cons_of_mem _ (List.mem_cons_of_mem _ hw))) (hat w hw)
  have hk' : (Cond.classLink own ik cls).before args s' = true := vx_ot_at hW0 hvm.symm (hgood _ List.mem_cons_self) hk
  have hini' : (Cond.initialized cls).before args s' = true := vx_ot_at hW0 hvm.symm (hgood _ (List.mem_cons_of_mem _ List.mem_cons_self)) hini
  have hU' : vx_Zq Bundle.tN "UNASSIGNED_STACK" Bundle.steD A s' s'.heap := by rw [hhp]; exact vx_Zq.moved hW0.alike (hU.kept hS.2.1)
  have hN' : vx_Zq Bundle.tN "SUPPRESSED_SENTINEL" Bundle.listD A s' s'.heap := by rw [hhp]; exact vx_Zq.moved hW0.alike (hN.kept hS.2.1)
  have h : ∀ w ∈ Bundle.ownAtoms0 own ic cls names, w.before args s' = true := vx_own hat' (vx_isRefq hU'.1) (vx_isRefq hN'.1) hU'.2.word hN'.2.word
  have hown' : s'.vm.findClass own = some m.cls := by rw [hvm]; exact hown
  have hins : (Cond.instantiable cls 6).before args s' = true := h _ (by simp [Bundle.ownAtoms0])
  obtain ⟨vm₁, cX, kX, hfX, hkX, -, -, X₁, st1⟩ := Y.newCold hexec (own := own) (C := cls) (index := ik) (n := 6) hown' hk' hins hini'
    (g := F0 m pc ls rest) rfl (by rw [hb]; exact d0) (Nat.le_refl _) (Nat.le_refl _)
  generalize hT1 : (T.setVm vm₁).pushCell { cls := cX, slots := kX.instanceTypes.map defaultValue, vm := .none } = T1 at X₁ st1
  have hcat : (Value.ref T.heap.size).category = 1 := rfl
  have hcellA : T1.heap[T.heap.size]? = some (freshCell cX kX) := by rw [← hT1]; exact State.heap_pushCell_size _ _
  have d3' : decode c.code (pc + 3) = .ok (.dup, 1) := by rw [hb]; exact d3
  obtain ⟨U, hsteps, hrun, hend, hW, hsame, ce, hce, hO⟩ := X₁.ctorThrow0 hexec htr (own := own) (cls := cls) (names := names) (ic := ic) hown' hcls hnames h (fun x hx => nomatch hx) hfX hkX hcellA (by rw [hhp, hT]; exact Nat.le_refl _)
    (g := { method := m, pc := pc + 4, locals := ls, stack := .ref T.heap.size :: .ref T.heap.size :: rest, locked := none }) rfl hsize rfl rfl (rest := rest) rfl
    (by rw [hb]; exact d4) (by rw [hb]; exact d7) hout hRframes (by simp only [List.map_cons, List.sum_cons, hcat]; omega) hlocks
  obtain ⟨f1, f2⟩ := vx_frame hsame
  rw [hhp] at f1 f2
  have hWs : s.WarmedH U.vm := State.WarmedH.trans hW0 hW
  have hcl : s.vm.findClass cls = some ce.cls := by
    have h9 := hO.cls
    rw [hvm] at h9
    exact h9
  have hall : s.sameButNew ({ U with vm := s.vm } : State) locs mc ms := by
    subst hA
    obtain ⟨e1, e2⟩ := hsame
    rw [State.setFrames_setFrames] at e1
    have h2 : (T.setVm s.vm).sameButNew ({ U with vm := s.vm } : State) [] (0 + 1) (0 + 6) := ⟨e1, e2⟩
    have h3 := X.same.trans h2
    rw [List.append_nil] at h3
    exact h3.mono hc hs
  refine ⟨U, ?_, .threw T.heap.size, hrun, hend, Or.inr ⟨T.heap.size, rfl, cls, ce, locs, hx U hWs.alike f1 (fun q hq => f2 q hq (fun z hz => nomatch hz)), hce, hO.vm, hcl, hWs, hall, hf⟩⟩
  refine st1 _ ?_
  show Steps p.tables e below (T1.setTop { method := m, pc := pc + 3, locals := ls, stack := .ref T.heap.size :: rest, locked := none }) _
  jvm_step X₁.here [X₁.here.top, hexec, d3', Value.category]
  exact hsteps
/-- 'throw new E("text")': new; dup; ldc; invokespecial; athrow -/
theorem vx_throwS {cc : ByteArray} {pc : Nat} (hexec : p.tables.exec = Jvm.exec) (hb : c.code = cc) (hl : l.stackTraces = false) {own cls text : String} {names : List String} {ik is ic mc ms sa : Nat} {A : Nat → Prop}
    (hown : s.vm.findClass own = some m.cls) (hcls : Bundle.fit cls = true) (hnames : ∀ n ∈ names, Bundle.fit n = true)
    (hk : (Cond.classLink own ik cls).before args s = true) (hini : (Cond.initialized cls).before args s = true) (hstr : vk_R own is text sa s) (hat : ∀ w ∈ vx_atS own ic cls names, w.before args s = true)
    (hgood : ∀ w ∈ Cond.classLink own ik cls :: Cond.initialized cls :: vx_atS own ic cls names, vx_ot w = true)
    (hU : vx_Zq Bundle.tN "UNASSIGNED_STACK" Bundle.steD A s s.heap) (hN : vx_Zq Bundle.tN "SUPPRESSED_SENTINEL" Bundle.listD A s s.heap) (hS : va_S A s.heap H locs) (hsize : ls.size = c.maxLocals)
    (d0 : decode cc pc = .ok (.new ik, 3)) (d3 : decode cc (pc + 3) = .ok (.dup, 1)) (d4 : decode cc (pc + 4) = .ok (.ldc is, 2)) (d6 : decode cc (pc + 6) = .ok (.invokespecial ic, 3)) (d9 : decode cc (pc + 9) = .ok (.athrow, 1))
    (hout : ∀ x ∈ c.exceptionTable.toList, covers x (pc + 9) = false)
    (hRframes : names.length + 3 < R.frames) (hRlocals : (rest.map fun v => v.category).sum + (13 * (names.length + 1) + 43) ≤ R.locals) (hRcells : cells + 1 ≤ R.cells) (hRslots : slots + 6 ≤ R.slots) (hlocks : meth.locks = false)
    (hx : ∀ t : State, s.vm.Alike t.vm → H.size ≤ t.heap.size → (∀ q : Nat, q < H.size → t.heap[q]? = H[q]?) → XC cls s t)
    (hf : ∀ z ∈ locs, free z.base) (hc : cells + 1 ≤ mc) (hs : slots + 6 ≤ ms) :
    W p l e R s m args below meth c H locs cells slots (vx_MQ below Qc XC args s mc ms free) (F0 m pc ls rest) := by
  intro T hT X
  have htr : e.platform.stackTraces = false := (show e.platform.stackTraces = l.stackTraces by rw [X.admits.platform]).trans hl
  have Y := vx_rebase X (R' := { frames := R.frames, locals := R.locals, cells := 1, slots := 6 }) (Nat.le_refl _) (Nat.le_refl _) hRcells hRslots
  obtain ⟨s', hA⟩ : ∃ z, z = (T.setVm s.vm).setFrames (.invoking m args :: below) := ⟨_, rfl⟩
  rw [← hA] at Y
  have hvm : s'.vm = s.vm := by rw [hA]; rfl
  have hhp : s'.heap = H := by rw [hA]; exact hT
  have hW0 : s.WarmedH s'.vm := by rw [hvm]; exact State.WarmedH.refl s
  have hat' : ∀ w ∈ vx_atS own ic cls names, w.before args s' = true := fun w hw => vx_ot_at hW0 hvm.symm (hgood w (List.mem_cons_of_mem _ (List.mem_cons_of_mem _ hw))) (hat w hw)
  have hk' : (Cond.classLink own ik cls).before args s' = true := vx_ot_at hW0 hvm.symm (hgood _ List.mem_cons_self) hk
  have hini' : (Cond.initialized cls).before args s' = true := vx_ot_at hW0 hvm.symm (hgood _ (List.mem_cons_of_mem _ List.mem_cons_self)) hini
  have hU' : vx_Zq Bundle.tN "UNASSIGNED_STACK" Bundle.steD A s' s'.heap := by rw [hhp]; exact vx_Zq.moved hW0.alike (hU.kept hS.2.1)
  have hN' : vx_Zq Bundle.tN "SUPPRESSED_SENTINEL" Bundle.listD A s' s'.heap := by rw [hhp]; exact vx_Zq.moved hW0.alike (hN.kept hS.2.1)
  have h : ∀ w ∈ Bundle.ownAtoms own ic cls names, w.before args s' = true := vx_own hat' (vx_isRefq hU'.1) (vx_isRefq hN'.1) hU'.2.word hN'.2.word
  have hown' : s'.vm.findClass own = some m.cls := by rw [hvm]; exact hown
  have hins : (Cond.instantiable cls 6).before args s' = true := h _ (by simp [Bundle.ownAtoms])
  obtain ⟨vm₁, cX, kX, hfX, hkX, -, -, X₁, st1⟩ := Y.newCold hexec (own := own) (C := cls) (index := ik) (n := 6) hown' hk' hins hini'
    (g := F0 m pc ls rest) rfl (by rw [hb]; exact d0) (Nat.le_refl _) (Nat.le_refl _)
  generalize hT1 : (T.setVm vm₁).pushCell { cls := cX, slots := kX.instanceTypes.map defaultValue, vm := .none } = T1 at X₁ st1
  have hcat : (Value.ref T.heap.size).category = 1 := rfl
  have hcellA : T1.heap[T.heap.size]? = some (freshCell cX kX) := by rw [← hT1]; exact State.heap_pushCell_size _ _
  have d3' : decode c.code (pc + 3) = .ok (.dup, 1) := by rw [hb]; exact d3
  have d4' : decode c.code (pc + 4) = .ok (.ldc is, 2) := by rw [hb]; exact d4
  have hstr' : vk_R own is text sa s' := vk_R.warm hW0 hstr
  obtain ⟨U, hsteps, hrun, hend, hW, hsame, ce, hce, hO⟩ := X₁.ctorThrowS hexec htr (own := own) (cls := cls) (names := names) (ic := ic) hown' hcls hnames h (fun x hx => nomatch hx) hfX hkX hcellA (by rw [hhp, hT]; exact Nat.le_refl _) (msg := .ref sa) rfl
    (g := { method := m, pc := pc + 6, locals := ls, stack := .ref sa :: .ref T.heap.size :: .ref T.heap.size :: rest, locked := none }) rfl hsize rfl rfl (rest := rest) rfl
    (by rw [hb]; exact d6) (by rw [hb]; exact d9) hout hRframes (by simp only [List.map_cons, List.sum_cons, hcat]; omega) hlocks
  obtain ⟨f1, f2⟩ := vx_frame hsame
  rw [hhp] at f1 f2
  have hWs : s.WarmedH U.vm := State.WarmedH.trans hW0 hW
  have hcl : s.vm.findClass cls = some ce.cls := by
    have h9 := hO.cls
    rw [hvm] at h9
    exact h9
  have hall : s.sameButNew ({ U with vm := s.vm } : State) locs mc ms := by
    subst hA
    obtain ⟨e1, e2⟩ := hsame
    rw [State.setFrames_setFrames] at e1
    have h2 : (T.setVm s.vm).sameButNew ({ U with vm := s.vm } : State) [] (0 + 1) (0 + 6) := ⟨e1, e2⟩
    have h3 := X.same.trans h2
    rw [List.append_nil] at h3
    exact h3.mono hc hs
  refine ⟨U, ?_, .threw T.heap.size, hrun, hend, Or.inr ⟨T.heap.size, rfl, cls, ce, locs, hx U hWs.alike f1 (fun q hq => f2 q hq (fun z hz => nomatch hz)), hce, hO.vm, hcl, hWs, hall, hf⟩⟩
  refine st1 _ ?_
  show Steps p.tables e below (T1.setTop { method := m, pc := pc + 3, locals := ls, stack := .ref T.heap.size :: rest, locked := none }) _
  jvm_step X₁.here [X₁.here.top, hexec, d3', Value.category]
  exact X₁.ldcString hexec (own := own) (text := text) (index := is) (a := sa) hown' hstr'.1 hstr'.2
    (g := { method := m, pc := pc + 4, locals := ls, stack := .ref T.heap.size :: .ref T.heap.size :: rest, locked := none }) rfl d4' _ hsteps
/-- 'throw new E("text")', the text by a wide index -/
theorem vx_throwSW {cc : ByteArray} {pc : Nat} (hexec : p.tables.exec = Jvm.exec) (hb : c.code = cc) (hl : l.stackTraces = false) {own cls text : String} {names : List String} {ik is ic mc ms sa : Nat} {A : Nat → Prop}
    (hown : s.vm.findClass own = some m.cls) (hcls : Bundle.fit cls = true) (hnames : ∀ n ∈ names, Bundle.fit n = true)
    (hk : (Cond.classLink own ik cls).before args s = true) (hini : (Cond.initialized cls).before args s = true) (hstr : vk_R own is text sa s) (hat : ∀ w ∈ vx_atS own ic cls names, w.before args s = true)
    (hgood : ∀ w ∈ Cond.classLink own ik cls :: Cond.initialized cls :: vx_atS own ic cls names, vx_ot w = true)
    (hU : vx_Zq Bundle.tN "UNASSIGNED_STACK" Bundle.steD A s s.heap) (hN : vx_Zq Bundle.tN "SUPPRESSED_SENTINEL" Bundle.listD A s s.heap) (hS : va_S A s.heap H locs) (hsize : ls.size = c.maxLocals)
    (d0 : decode cc pc = .ok (.new ik, 3)) (d3 : decode cc (pc + 3) = .ok (.dup, 1)) (d4 : decode cc (pc + 4) = .ok (.ldc_w is, 3)) (d7 : decode cc (pc + 7) = .ok (.invokespecial ic, 3)) (d10 : decode cc (pc + 10) = .ok (.athrow, 1))
    (hout : ∀ x ∈ c.exceptionTable.toList, covers x (pc + 10) = false)
    (hRframes : names.length + 3 < R.frames) (hRlocals : (rest.map fun v => v.category).sum + (13 * (names.length + 1) + 43) ≤ R.locals) (hRcells : cells + 1 ≤ R.cells) (hRslots : slots + 6 ≤ R.slots) (hlocks : meth.locks = false)
    (hx : ∀ t : State, s.vm.Alike t.vm → H.size ≤ t.heap.size → (∀ q : Nat, q < H.size → t.heap[q]? = H[q]?) → XC cls s t)
    (hf : ∀ z ∈ locs, free z.base) (hc : cells + 1 ≤ mc) (hs : slots + 6 ≤ ms) :
    W p l e R s m args below meth c H locs cells slots (vx_MQ below Qc XC args s mc ms free) (F0 m pc ls rest) := by
  intro T hT X
  have htr : e.platform.stackTraces = false := (show e.platform.stackTraces = l.stackTraces by rw [X.admits.platform]).trans hl
  have Y := vx_rebase X (R' := { frames := R.frames, locals := R.locals, cells := 1, slots := 6 }) (Nat.le_refl _) (Nat.le_refl _) hRcells hRslots
  obtain ⟨s', hA⟩ : ∃ z, z = (T.setVm s.vm).setFrames (.invoking m args :: below) := ⟨_, rfl⟩
  rw [← hA] at Y
  have hvm : s'.vm = s.vm := by rw [hA]; rfl
  have hhp : s'.heap = H := by rw [hA]; exact hT
  have hW0 : s.WarmedH s'.vm := by rw [hvm]; exact State.WarmedH.refl s
  have hat' : ∀ w ∈ vx_atS own ic cls names, w.before args s' = true := fun w hw => vx_ot_at hW0 hvm.symm (hgood w (List.mem_cons_of_mem _ (List.mem_cons_of_mem _ hw))) (hat w hw)
  have hk' : (Cond.classLink own ik cls).before args s' = true := vx_ot_at hW0 hvm.symm (hgood _ List.mem_cons_self) hk
  have hini' : (Cond.initialized cls).before args s' = true := vx_ot_at hW0 hvm.symm (hgood _ (List.mem_cons_of_mem _ List.mem_cons_self)) hini
  have hU' : vx_Zq Bundle.tN "UNASSIGNED_STACK" Bundle.steD A s' s'.heap := by rw [hhp]; exact vx_Zq.moved hW0.alike (hU.kept hS.2.1)
  have hN' : vx_Zq Bundle.tN "SUPPRESSED_SENTINEL" Bundle.listD A s' s'.heap := by rw [hhp]; exact vx_Zq.moved hW0.alike (hN.kept hS.2.1)
  have h : ∀ w ∈ Bundle.ownAtoms own ic cls names, w.before args s' = true := vx_own hat' (vx_isRefq hU'.1) (vx_isRefq hN'.1) hU'.2.word hN'.2.word
  have hown' : s'.vm.findClass own = some m.cls := by rw [hvm]; exact hown
  have hins : (Cond.instantiable cls 6).before args s' = true := h _ (by simp [Bundle.ownAtoms])
  obtain ⟨vm₁, cX, kX, hfX, hkX, -, -, X₁, st1⟩ := Y.newCold hexec (own := own) (C := cls) (index := ik) (n := 6) hown' hk' hins hini'
    (g := F0 m pc ls rest) rfl (by rw [hb]; exact d0) (Nat.le_refl _) (Nat.le_refl _)
  generalize hT1 : (T.setVm vm₁).pushCell { cls := cX, slots := kX.instanceTypes.map defaultValue, vm := .none } = T1 at X₁ st1
  have hcat : (Value.ref T.heap.size).category = 1 := rfl
  have hcellA : T1.heap[T.heap.size]? = some (freshCell cX kX) := by rw [← hT1]; exact State.heap_pushCell_size _ _
  have d3' : decode c.code (pc + 3) = .ok (.dup, 1) := by rw [hb]; exact d3
  have d4' : decode c.code (pc + 4) = .ok (.ldc_w is, 3) := by rw [hb]; exact d4
  have hstr' : vk_R own is text sa s' := vk_R.warm hW0 hstr
  obtain ⟨U, hsteps, hrun, hend, hW, hsame, ce, hce, hO⟩ := X₁.ctorThrowS hexec htr (own := own) (cls := cls) (names := names) (ic := ic) hown' hcls hnames h (fun x hx => nomatch hx) hfX hkX hcellA (by rw [hhp, hT]; exact Nat.le_refl _) (msg := .ref sa) rfl
    (g := { method := m, pc := pc + 7, locals := ls, stack := .ref sa :: .ref T.heap.size :: .ref T.heap.size :: rest, locked := none }) rfl hsize rfl rfl (rest := rest) rfl
    (by rw [hb]; exact d7) (by rw [hb]; exact d10) hout hRframes (by simp only [List.map_cons, List.sum_cons, hcat]; omega) hlocks
  obtain ⟨f1, f2⟩ := vx_frame hsame
  rw [hhp] at f1 f2
  have hWs : s.WarmedH U.vm := State.WarmedH.trans hW0 hW
  have hcl : s.vm.findClass cls = some ce.cls := by
    have h9 := hO.cls
    rw [hvm] at h9
    exact h9
  have hall : s.sameButNew ({ U with vm := s.vm } : State) locs mc ms := by
    subst hA
    obtain ⟨e1, e2⟩ := hsame
    rw [State.setFrames_setFrames] at e1
    have h2 : (T.setVm s.vm).sameButNew ({ U with vm := s.vm } : State) [] (0 + 1) (0 + 6) := ⟨e1, e2⟩
    have h3 := X.same.trans h2
    rw [List.append_nil] at h3
    exact h3.mono hc hs
  refine ⟨U, ?_, .threw T.heap.size, hrun, hend, Or.inr ⟨T.heap.size, rfl, cls, ce, locs, hx U hWs.alike f1 (fun q hq => f2 q hq (fun z hz => nomatch hz)), hce, hO.vm, hcl, hWs, hall, hf⟩⟩
  refine st1 _ ?_
  show Steps p.tables e below (T1.setTop { method := m, pc := pc + 3, locals := ls, stack := .ref T.heap.size :: rest, locked := none }) _
  jvm_step X₁.here [X₁.here.top, hexec, d3', Value.category]
  exact X₁.ldcStringW hexec (own := own) (text := text) (index := is) (a := sa) hown' hstr'.1 hstr'.2
    (g := { method := m, pc := pc + 4, locals := ls, stack := .ref T.heap.size :: .ref T.heap.size :: rest, locked := none }) rfl d4' _ hsteps
end Ends
section Bodies
variable {l : Launch}
theorem vx_ofW {y : MethodName} {ws ws' : List Cond} {rm : Room} {Pc : Array Value → State → Prop} {Qc : Array Value → State → Outcome → State → Prop} {XC : String → State → State → Prop} {mc ms : Nat} {free : Addr → Prop} {cc : ByteArray} {maxL : Nat} {ret : Option FieldType}
    (hy : plainName y.cls = true) (hw : ws = Cond.code y cc maxL ret :: ws')
    (body : ∀ p e s m args below meth c s₁, BodyLoose p l y (headSpec ws rm) cc maxL ret e s m args below meth c s₁ → c.maxLocals = maxL → (∀ x ∈ c.exceptionTable.toList, False) → Pc args s →
      W p l e (headSpec ws rm).room s m args below meth c s.heap [] 0 0 (vx_MQ below Qc XC args s mc ms free) (entryFrame m args maxL)) : vx_Met l y ws rm Pc Qc XC mc ms free := by
  refine MetFree.of_bodyS (code := cc) (maxLocals := maxL) (ret := ret) hy ?_ ?_
  · intro args s m h hn
    obtain ⟨meth, c, h1, h2, h3, h4, h5, h6, -, -⟩ := Cond.code_spec hn (atoms_spec (ws := ws) h _ (by rw [hw]; exact List.mem_cons_self))
    exact ⟨meth, c, h1, h2, h3, h4, h5, h6⟩
  · intro p e s m args below meth c s₁ B hml hP _
    have hh0 : s₁.heap = s.heap := by rw [B.state]; rfl
    have ht : ∀ x ∈ c.exceptionTable.toList, False := by
      obtain ⟨meth9, c9, h1, h2, -, -, -, -, h7, -⟩ := Cond.code_spec B.named (atoms_spec (ws := ws) B.pre _ (by rw [hw]; exact List.mem_cons_self))
      cases Option.some.inj (h1.symm.trans B.method)
      cases Option.some.inj (h2.symm.trans (Stand.of_body B).code)
      intro x hx
      rw [Array.isEmpty_iff.mp h7] at hx
      cases hx
    obtain ⟨t, a1, o, b1, b2, b3⟩ := body p e s m args below meth c s₁ B hml ht hP s₁ hh0 (Stand.of_body B)
    exact ⟨t, o, a1, b1, b2, b3⟩
/-- the table of a body with handlers -/
theorem vx_table {p : Program} {x y : MethodName} {S : Spec} {cc bytes : ByteArray} {maxL maxL' : Nat} {ret ret' : Option FieldType} {e : Env} {s s₁ : State} {m : MethodId} {args : Array Value} {below : List Frame} {meth : Method} {c : Code} {hh : List (Nat × Nat × Nat × Nat)}
    (B : BodyLoose p l y S cc maxL ret e s m args below meth c s₁) (h : (Cond.codeWith y bytes maxL' ret' hh).before args s = true) : c.exceptionTable.toList = tableOf hh := by
  obtain ⟨m9, meth9, c9, hn9, h1, h2, -, -, h6, -⟩ := Cond.codeWith_spec h
  cases Option.some.inj (hn9.symm.trans B.named)
  cases Option.some.inj (h1.symm.trans B.method)
  cases Option.some.inj (h2.symm.trans (Stand.of_body B).code)
  rw [← h6, table_eq]
end Bodies
end VXA
/-! ===== END ===== -/
/-! ===== BEGIN a static call of a method with an exception table ===== -/
section VXS
variable {p : Program} {l : Launch} {e : Env} {R : Room} {s : State} {m : MethodId} {args : Array Value} {below : List Frame} {meth : Method} {c : Code} {T : State} {H : Heap} {locs : List Loc} {cells slots : Nat}
abbrev vx_CSW (R : Room) (s : State) (args : Array Value) (own : String) (index : Nat) (y : MethodName) (bytes : ByteArray) (maxL : Nat) (ret : Option FieldType) (hh : List (Nat × Nat × Nat × Nat)) (ws : List Cond) (rm : Room) (mc ms n : Nat) : Prop :=
  (rm.cells = mc ∧ rm.slots = ms ∧ rm.frames + 1 ≤ R.frames ∧ 8 + (maxL + 11) + rm.locals ≤ R.locals ∧ (∀ w ∈ ws, ∀ (a' : Array Value) (U : State), s.WarmedH U.vm → w.before a' U = true) ∧ Cond.codeWith y bytes maxL ret hh ∈ ws) ∧
  (Cond.codeWith y bytes maxL ret hh).before args s = true ∧ (Cond.initialized y.cls).before args s = true ∧ (y.cls ≠ "java/lang/invoke/MethodHandle" ∧ y.cls ≠ "java/lang/invoke/VarHandle") ∧
  (∀ sig, parseMethodDescriptor y.desc = some sig → n = sig.parameters.length) ∧ (Cond.methodLink own index y).before args s = true ∧ (Cond.static y).before args s = true
theorem vx_cwSW {own : String} {index maxL mc ms : Nat} {y : MethodName} {bytes : ByteArray} {ret : Option FieldType} {hh : List (Nat × Nat × Nat × Nat)} {Ts ws ws' : List Cond} {rm : Room} (n : Nat) (ht : ∀ w ∈ Ts, w.before args s = true) (hT : GoodIn Ts (va_wsS own index y ws)) (hw : ws = Cond.codeWith y bytes maxL ret hh :: ws') (hrc : rm.cells = mc) (hrs : rm.slots = ms)
    (hd : y.cls ≠ "java/lang/invoke/MethodHandle" ∧ y.cls ≠ "java/lang/invoke/VarHandle" ∧ (parseMethodDescriptor y.desc).map (fun d => d.parameters.length) = some n) (hR : rm.frames + 1 ≤ R.frames ∧ 8 + (maxL + 11) + rm.locals ≤ R.locals) :
    vx_CSW R s args own index y bytes maxL ret hh ws rm mc ms n := by
  have ok : ∀ w ∈ va_wsS own index y ws, w.before args s = true := fun w h => ht w (hT w h).1
  have hG : GoodIn Ts ws := fun w h => hT w (by unfold va_wsS; exact List.mem_append_right _ h)
  have hc : Cond.codeWith y bytes maxL ret hh ∈ ws := by rw [hw]; exact List.mem_cons_self
  refine ⟨⟨hrc, hrs, hR.1, hR.2, pay_in ht hG, hc⟩, ht _ (hG _ hc).1, ok _ (by simp [va_wsS]), ⟨hd.1, hd.2.1⟩, fun sig h => ?_, ok _ (by simp [va_wsS]), ok _ (by simp [va_wsS])⟩
  have h2 := hd.2.2
  rw [h] at h2
  exact (Option.some.inj h2).symm
theorem vx_callSW (X : Stand p l e R s m args below meth c T locs cells slots) (hexec : p.tables.exec = Jvm.exec) {own : String} {index : Nat} {y : MethodName} {bytes : ByteArray} {maxL : Nat} {ret : Option FieldType} {hh : List (Nat × Nat × Nat × Nat)}
    (hown : s.vm.findClass own = some m.cls) (hlink : (Cond.methodLink own index y).before args s = true) (hstat : (Cond.static y).before args s = true) (hinit : (Cond.initialized y.cls).before args s = true)
    (hcode : (Cond.codeWith y bytes maxL ret hh).before args s = true) (hy : y.cls ≠ "java/lang/invoke/MethodHandle" ∧ y.cls ≠ "java/lang/invoke/VarHandle")
    {W9 : Nat} {Pre : Pt → Array Value → Prop} {Post : Pt → Array Value → Option Value → Pt → Prop} (hK : Back l R p e below s args y 3 W9 Pre Post)
    {g : JFrame} (hg : g.method = m) (hsize : g.locals.size = c.maxLocals) {argsL rest : List Value} (hlen : ∀ sig, parseMethodDescriptor y.desc = some sig → argsL.length = sig.parameters.length)
    (hstack : g.stack = argsL.reverse ++ rest) (hW : 2 * g.monitorRoom + (rest.map fun v => v.category).sum ≤ W9) (hdg : decode c.code g.pc = .ok (.invokestatic index, 3))
    (hpre : ∀ vm₁, s.WarmedH vm₁ → Pre ⟨T.setVm vm₁, locs, cells, slots⟩ argsL.toArray) :
    ∃ (v : Option Value) (vm₁ : Vm) (B : Pt), s.WarmedH vm₁ ∧ Stand p l e R s m args below meth c B.U B.locs B.cells B.slots ∧ Post ⟨T.setVm vm₁, locs, cells, slots⟩ argsL.toArray v B ∧
      ∀ target, Steps p.tables e below (B.U.setTop { g with pc := g.pc + 3, stack := v.toList ++ rest }) target → Steps p.tables e below (T.setTop g) target := by
  obtain ⟨mk, methM, cM, hnamed, hmethM, -, -, -, -, -, -, hsigM⟩ := Cond.codeWith_spec hcode
  have hstatic : methM.isStatic = true := Cond.static_spec hnamed hmethM hstat
  obtain ⟨kP, hkP, -⟩ := className_of_methodNamed hnamed
  have hinitP : kP.init = .initialized := Cond.initialized_spec (findClass_of_methodNamed hnamed) hkP hinit
  obtain ⟨vm₁, X₁, hstep₁⟩ := X.invokestatic hexec hown hlink hnamed hmethM hstatic hkP hinitP hy (g := g) hg (argsL := argsL) (rest := rest) (hlen _ hsigM) hstack hdg
  obtain ⟨v, B, X', hpost, hsteps⟩ := hK m meth c ⟨T.setVm vm₁, locs, cells, slots⟩ { g with stack := rest } (.invokestatic index) mk argsL.toArray X₁ hg hsize hdg hW (X₁.named hnamed) (hpre vm₁ X₁.warmed)
  exact ⟨v, vm₁, B, X₁.warmed, X', hpost, fun target h => hstep₁ _ fun acts => by rw [doInvoke_state]; exact hsteps.trans h⟩
theorem vx_runSW {y : MethodName} {bytes cc : ByteArray} {maxL nL mc ms n index : Nat} {ret : Option FieldType} {hh : List (Nat × Nat × Nat × Nat)} {ws : List Cond} {rm : Room} {Pc : Array Value → State → Prop} {Qc : Array Value → State → Outcome → State → Prop} {free : Addr → Prop} {Ts : List Cond} {own : String} {As rest : List Value} {g : JFrame}
    (S : CallFix p m c cc nL s args Ts own) (hM : Met l y ws rm Pc Qc mc ms free) (cw : vx_CSW R s args own index y bytes maxL ret hh ws rm mc ms n) (hp : PreS s H Pc As)
    (hg : g.method = m) (hn : As.length = n) (hsize : g.locals.size = nL) (hstack : g.stack = As.reverse ++ rest) (hW : 2 * g.monitorRoom + (rest.map fun v => v.category).sum ≤ 8) (hdg : decode cc g.pc = .ok (.invokestatic index, 3)) (hf : cells + mc ≤ R.cells ∧ slots + ms ≤ R.slots) :
    va_Run p l e R s m args below meth c H locs cells slots mc ms g rest (Qc As.toArray) (free) := by
  obtain ⟨⟨hrc, hrs, hfr, hlo, hws, hcw⟩, hcode, hini, hy, hlen, hl, hstt⟩ := cw
  have hK : Back l R p e below s args y 3 8 (PreOf R mc ms Pc) (PostOf Qc mc ms free) := va_backW (hh := hh) (bytes := bytes) (maxL := maxL) (ret := ret) hM hp.1 hrc hrs hfr hlo hws hcw (fun a' U hW => word_at hW (Or.inl (by first | rfl | simp [Cond.onTables, Cond.keeps, Cond.steady])) hini)
  obtain ⟨hx, hb, hml, ho, -⟩ := S
  intro T hT X
  obtain ⟨v, vm₁, ⟨U', l2, c2, s2⟩, hW₁, X', ⟨g', mk, t, L, e1, e2, hq, h1, hL, h2, h3⟩, st⟩ := vx_callSW X hx (hh := hh) (bytes := bytes) (maxL := maxL) (ret := ret) ho hl hstt hini hcode hy hK hg (hsize.trans hml.symm) (argsL := As) (rest := rest) (fun sig h => hn.trans (hlen sig h)) hstack hW (by rw [hb]; exact hdg)
    (fun vm₁ hW₁ => ⟨hf.1, hf.2, hp.2 (T.setVm vm₁) hT hW₁⟩)
  dsimp only [Pt.U, Pt.locs, Pt.cells, Pt.slots] at X' e1 e2 h1 h2 h3 st
  subst h1; subst h2; subst h3
  exact ⟨v, (T.setVm vm₁).calling g' mk As.toArray, t, U', L, hT, X', hL, e1, e2, hq, st⟩
/-- not caught here, past rows that name other classes: it goes on to the caller -/
theorem vx_outP {p : Program} {l : Launch} {e : Env} {R : Room} {s : State} {m : MethodId} {args : Array Value} {below : List Frame} {meth : Method} {c : Code} {H : Heap} {locs : List Loc} {cells slots : Nat} {free : Addr → Prop} {ls : Array Slot} {rest : List Value} {Qc : Array Value → State → Outcome → State → Prop} {XC : String → State → State → Prop}
    {pc : Nat} {own E : String} {ce : Cell} {q : Addr} {mc ms : Nat} (hown : s.vm.findClass own = some m.cls) (hlocks : meth.locks = false)
    (hpass : ∀ z ∈ c.exceptionTable.toList, covers z pc = false ∨ (z.catchType ≠ 0 ∧ ∃ nm : String, (Cond.classLink own z.catchType nm).before args s = true ∧ va_Nc E nm s)) (hcell : H[q]? = some ce) (hv : ce.vm = .none) (hcl : s.vm.findClass E = some ce.cls)
    (hx : ∀ t : State, t.heap = H → s.vm.Alike t.vm → XC E s t) (hf : ∀ z ∈ locs, free z.base) (hc : cells ≤ mc) (hs : slots ≤ ms) :
    vx_W p l e R s m args below meth c H locs cells slots (vx_MQ below Qc XC args s mc ms free) (F0 m pc ls rest) q := by
  intro T hT X
  have hpl : e.platform.magicAccessors = ({} : Platform).magicAccessors := by rw [X.admits.platform]
  obtain ⟨vm', hW', X', st⟩ := X.outThrough hlocks q (g := F0 m pc ls rest) rfl rfl rfl (cell := ce) (by rw [hT]; exact hcell) (by rw [hv]; rfl)
    (by obtain ⟨k9, h9, -⟩ := Vm.findClass_spec hcl; exact ⟨k9, h9⟩) (fun z hz => by
      rcases hpass z hz with h | ⟨hz0, nm, hl1, hn1⟩
      · exact Or.inl h
      · obtain ⟨c6, hc6, hcl6⟩ := Cond.classLink_spec hown hl1 e.platform hpl
        obtain ⟨a8, b8, h1, h2, h3⟩ := hn1
        cases Option.some.inj (h1.symm.trans hcl)
        cases Option.some.inj (h2.symm.trans hc6)
        exact Or.inr ⟨hz0, _, hcl6, h3⟩)
  obtain ⟨g₀, hfr⟩ := X'.frames_eq
  have hcell9 : ((T.setVm vm').setFrames (.throwing q :: below)).heap[q]? = some ce := by
    show T.heap[q]? = some ce
    rw [hT]; exact hcell
  have hend : Ended ((T.setVm vm').setFrames (.throwing q :: below)) below (.threw q) := State.frames_setFrames _ (State.cur_lt_of_frames hfr)
  refine ⟨(T.setVm vm').setFrames (.throwing q :: below), ?_, .threw q, X'.here.running, hend, Or.inr ⟨q, rfl, E, ce, locs, hx _ hT (X'.ends _).1.alike, hcell9, hv, hcl, (X'.ends _).1, (X'.ends _).2.mono hc hs, hf⟩⟩
  rw [X.pushThrowing_eq]
  exact st
/-- a thing of a world lies in the heap -/
theorem vx_lt {D : va_G} {cl : List vw_C} {ws : va_W} {H1 : Heap} (h : va_P D cl ws H1) {k : Nat} {q : Nat × va_E} (hk : ws[k]? = some q) : q.1 < H1.size := (h k q hk).lt
end VXS
/-! ===== END ===== -/
/-! ===== BEGIN methods with a table of their own: called by a name, returning or throwing ===== -/
section VXH
/-! vx_backW, vx_callVX, vx_callSX, vx_callVW, vx_runVW, vx_runVX, vx_runSX, vx_ofWH follow the same proofs as their sisters above (Free/Laws.lean, Shelf42/LK1.lean); vx_outP calls Shelf42/NT130.lean (outThrough). -/
section
variable {l : Launch} {R : Room} {p : Program} {e : Env} {below : List Frame} {s : State} {sargs : Array Value} {y : MethodName} {len W9 : Nat}
theorem vx_backW {ws : List Cond} {rm : Room} {Pc : Array Value → State → Prop} {Qc : Array Value → State → Outcome → State → Prop} {XC : String → State → State → Prop} {mc ms : Nat} {free : Addr → Prop} {bytes : ByteArray} {maxL : Nat} {ret : Option FieldType} {hh : List (Nat × Nat × Nat × Nat)}
    (hM : vx_Met l y ws rm Pc Qc XC mc ms free) (hblind : FrameBlind Pc) (hrc : rm.cells = mc) (hrs : rm.slots = ms)
    (hframes : rm.frames + 1 ≤ R.frames) (hlocals : W9 + (maxL + 11) + rm.locals ≤ R.locals)
    (hws : ∀ w ∈ ws, ∀ a' U, s.WarmedH U.vm → w.before a' U = true) (hcode : Cond.codeWith y bytes maxL ret hh ∈ ws) (hinit : ∀ a' U, s.WarmedH U.vm → (Cond.initialized y.cls).before a' U = true) :
    vx_Back l R p e below s sargs y len W9 (PreOf R mc ms Pc) (PostOf Qc mc ms free) (vx_Post XC mc ms free) := by
  intro m meth c A g ig mk a X hg hsize hdg hW hn hp
  have h1 : (headSpec ws rm).pre.before a A.U = true := atoms_intro fun w hw => hws w hw _ _ X.warmed
  have h2 : (Cond.codeWith y bytes maxL ret hh).before a A.U = true := hws _ hcode _ _ X.warmed
  have h3 : (Cond.initialized y.cls).before a A.U = true := hinit _ _ X.warmed
  have h4 : A.cells + (headSpec ws rm).room.cells ≤ R.cells := by rw [show (headSpec ws rm).room.cells = mc from hrc]; exact hp.1
  have h5 : A.slots + (headSpec ws rm).room.slots ≤ R.slots := by rw [show (headSpec ws rm).room.slots = ms from hrs]; exact hp.2.1
  have hPc : Pc a (A.U.calling g mk a) := hblind _ _ _ _ hp.2.2
  obtain ⟨U, Ls, c0, s0⟩ := A
  dsimp only [Pt.U, Pt.locs, Pt.cells, Pt.slots] at h1 h2 h3 h4 h5 X hn hPc ⊢
  obtain ⟨m9, methY, cY, hn9, hmY, hcY, -, hlY, -⟩ := Cond.codeWith_spec h2
  cases Option.some.inj (hn9.symm.trans hn)
  obtain ⟨kY, hkY, -⟩ := className_of_methodNamed hn
  have hinitY : kY.init = .initialized := Cond.initialized_spec (findClass_of_methodNamed hn) hkY h3
  have h : At U g.method c below := by rw [hg]; exact X.here
  have hlocals9 : W9 + (maxL + 11) + (headSpec ws rm).room.locals ≤ R.locals := hlocals
  have happ : (headSpec ws rm).appliesLoose y e.platform (U.calling g mk a) = true :=
    Spec.appliesLoose_calling (g := g) h hdg hn hkY hinitY
      (X.room_calling (g := g) (R' := (headSpec ws rm).room) hsize hmY hcY hframes (by rw [hlY]; omega) h4 h5) h1
  obtain ⟨mid, hmid⟩ := h.above
  have hfr : (U.setTop g).frames = (.java g :: mid) ++ below := by rw [State.frames_setTop' g h.top, hmid]; rfl
  obtain ⟨o, s₂, hsteps, -, hend, hq⟩ := Steps.callFree hM p X.admits X.cas X.clock (acts := []) hfr happ hPc trivial
  have hq' : vx_Q Qc XC mc ms free a (U.calling g mk a) o s₂ := hq
  rw [State.frames_setTop' g h.top] at hend
  obtain ⟨g₀, hg0⟩ := Option.isSome_iff_exists.mp h.top
  obtain ⟨r, hr⟩ := State.topJava?_eq_some.mp hg0
  have hr' : (({ U with heap := s₂.heap, slotsUsed := s₂.slotsUsed } : State).setVm s₂.vm).frames = .java g₀ :: r := hr
  rcases hq' with ⟨hqc, L, hfe, hL⟩ | ⟨q, rfl, E, ce, L, hx, hce, hcv, hcl, hW₂, hsm, hL⟩
  · obtain ⟨⟨v, rfl⟩, hW₂, e2, q2, q3, q4, q5, q6⟩ := id hfe
    have e3 : s₂ = ({ (U.calling g mk a).setFrames s₂.frames with heap := s₂.heap, slotsUsed := s₂.slotsUsed } : State).setVm s₂.vm := by
      have : s₂ = ({ s₂ with vm := (U.calling g mk a).vm } : State).setVm s₂.vm := rfl
      rw [e2] at this
      exact this
    obtain ⟨c₂, i₂, len₂, hc₂, hd₂, hf₂⟩ := hend
    have hW' : U.WarmedH s₂.vm := hW₂
    have hcc : c₂ = c := by
      have h1 : s₂.code? g.method = U.code? g.method := by
        rw [State.code?_eq, State.code?_eq, hW'.alike.method?]
      exact Option.some.inj (hc₂.symm.trans (h1.trans h.code))
    subst hcc
    have hlen : len₂ = len := by rw [hdg] at hd₂; cases hd₂; rfl
    subst hlen
    have hs₂ : s₂ = (({ U with heap := s₂.heap, slotsUsed := s₂.slotsUsed } : State).setVm s₂.vm).setTop { g with pc := g.pc + len₂, stack := v.toList ++ g.stack } := by
      refine e3.trans ?_
      rw [hf₂, State.calling_eq h.top, State.setFrames_setFrames, State.setTop_of_frames _ hr', hr]
      rfl
    have hsame : U.sameButNew ({ U with heap := s₂.heap, slotsUsed := s₂.slotsUsed } : State) L mc ms := by
      refine ⟨?_, q2, q3, q4, q5, q6⟩
      obtain ⟨t, ht, -⟩ := State.frames_cons hr
      show ({ U with heap := s₂.heap, slotsUsed := s₂.slotsUsed } : State) = { U.setFrames U.frames with heap := s₂.heap, slotsUsed := s₂.slotsUsed }
      rw [State.setFrames_self ht]
    subst hg
    refine Or.inl ⟨v, ⟨(({ U with heap := s₂.heap, slotsUsed := s₂.slotsUsed } : State).setVm s₂.vm), Ls ++ L, c0 + mc, s0 + ms⟩,
      ⟨X.admits, X.cas, X.clock, X.frames, X.room, X.hears, X.method, X.code, (X.here.setHeapUsed s₂.heap s₂.slotsUsed).setVm hW'.alike, X.tail, State.WarmedH.trans X.warmed hW', X.limits, X.bytes, X.same.trans (hsame.setVm s.vm)⟩,
      ⟨g, mk, s₂, L, rfl, rfl, hqc, rfl, hL, rfl, rfl⟩, ?_⟩
    show Steps p.tables e below _ ((({ U with heap := s₂.heap, slotsUsed := s₂.slotsUsed } : State).setVm s₂.vm).setTop { g with pc := g.pc + len₂, stack := v.toList ++ g.stack })
    rw [← hs₂]
    exact hsteps
  · obtain ⟨e2, q2, q3, q4, q5, q6⟩ := id hsm
    have e3 : s₂ = ({ (U.calling g mk a).setFrames s₂.frames with heap := s₂.heap, slotsUsed := s₂.slotsUsed } : State).setVm s₂.vm := by
      have : s₂ = ({ s₂ with vm := (U.calling g mk a).vm } : State).setVm s₂.vm := rfl
      rw [e2] at this
      exact this
    have hf₂ : s₂.frames = .throwing q :: .java g :: U.frames.tail := hend
    have hW' : U.WarmedH s₂.vm := hW₂
    have hs₂ : s₂ = ((({ U with heap := s₂.heap, slotsUsed := s₂.slotsUsed } : State).setVm s₂.vm).setTop g).pushFrame (.throwing q) := by
      refine e3.trans ?_
      rw [hf₂, State.calling_eq h.top, State.setFrames_setFrames, State.pushFrame, State.frames_setTop _ hr', State.setTop_of_frames _ hr', State.setFrames_setFrames, hr]
      rfl
    have hsame : U.sameButNew ({ U with heap := s₂.heap, slotsUsed := s₂.slotsUsed } : State) L mc ms := by
      refine ⟨?_, q2, q3, q4, q5, q6⟩
      obtain ⟨t, ht, -⟩ := State.frames_cons hr
      show ({ U with heap := s₂.heap, slotsUsed := s₂.slotsUsed } : State) = { U.setFrames U.frames with heap := s₂.heap, slotsUsed := s₂.slotsUsed }
      rw [State.setFrames_self ht]
    subst hg
    refine Or.inr ⟨q, ⟨(({ U with heap := s₂.heap, slotsUsed := s₂.slotsUsed } : State).setVm s₂.vm), Ls ++ L, c0 + mc, s0 + ms⟩,
      ⟨X.admits, X.cas, X.clock, X.frames, X.room, X.hears, X.method, X.code, (X.here.setHeapUsed s₂.heap s₂.slotsUsed).setVm hW'.alike, X.tail, State.WarmedH.trans X.warmed hW', X.limits, X.bytes, X.same.trans (hsame.setVm s.vm)⟩,
      ⟨g, mk, s₂, L, E, ce, rfl, rfl, hx, hce, hcv, hcl, rfl, hL, rfl, rfl⟩, ?_⟩
    show Steps p.tables e below _ (((({ U with heap := s₂.heap, slotsUsed := s₂.slotsUsed } : State).setVm s₂.vm).setTop g).pushFrame (.throwing q))
    rw [← hs₂]
    exact hsteps
end
variable {p : Program} {l : Launch} {e : Env} {R : Room} {s : State} {m : MethodId} {args : Array Value} {below : List Frame} {meth : Method} {c : Code} {T : State} {H : Heap} {locs : List Loc} {cells slots : Nat}
theorem vx_callVX (X : Stand p l e R s m args below meth c T locs cells slots) (hexec : p.tables.exec = Jvm.exec) {own C : String} {index : Nat} {y : MethodName} {bytes : ByteArray} {maxL : Nat} {ret : Option FieldType} {hh : List (Nat × Nat × Nat × Nat)}
    (hown : s.vm.findClass own = some m.cls) (hlink : (Cond.methodLink own index y).before args s = true) (hinst : (Cond.instanceMethod y).before args s = true) (hsel : (Cond.selects C y y).before args s = true)
    (hcode : (Cond.codeWith y bytes maxL ret hh).before args s = true) (hy : y.cls ≠ "java/lang/invoke/MethodHandle" ∧ y.cls ≠ "java/lang/invoke/VarHandle")
    {W9 : Nat} {Pre : Pt → Array Value → Prop} {Post : Pt → Array Value → Option Value → Pt → Prop} {PostX : Pt → Array Value → Addr → Pt → Prop} (hK : vx_Back l R p e below s args y 3 W9 Pre Post PostX)
    {b : Addr} {cellB : Cell} (hcell : T.heap[b]? = some cellB) (hobj : cellB.vm.isStatics = false) (hcls : s.vm.findClass C = some cellB.cls)
    {g : JFrame} (hg : g.method = m) (hsize : g.locals.size = c.maxLocals) {argsL rest : List Value} (hlen : ∀ sig, parseMethodDescriptor y.desc = some sig → argsL.length = sig.parameters.length)
    (hstack : g.stack = argsL.reverse ++ .ref b :: rest) (hW : 2 * g.monitorRoom + (rest.map fun v => v.category).sum ≤ W9) (hdg : decode c.code g.pc = .ok (.invokevirtual index, 3))
    (hpre : ∀ vm₁, s.WarmedH vm₁ → Pre ⟨T.setVm vm₁, locs, cells, slots⟩ (Value.ref b :: argsL).toArray) :
    (∃ (v : Option Value) (vm₁ : Vm) (B : Pt), s.WarmedH vm₁ ∧ Stand p l e R s m args below meth c B.U B.locs B.cells B.slots ∧ Post ⟨T.setVm vm₁, locs, cells, slots⟩ (Value.ref b :: argsL).toArray v B ∧
      ∀ target, Steps p.tables e below (B.U.setTop { g with pc := g.pc + 3, stack := v.toList ++ rest }) target → Steps p.tables e below (T.setTop g) target) ∨
    (∃ (q : Addr) (vm₁ : Vm) (B : Pt), s.WarmedH vm₁ ∧ Stand p l e R s m args below meth c B.U B.locs B.cells B.slots ∧ PostX ⟨T.setVm vm₁, locs, cells, slots⟩ (Value.ref b :: argsL).toArray q B ∧
      Steps p.tables e below (T.setTop g) ((B.U.setTop { g with stack := rest }).pushFrame (.throwing q))) := by
  obtain ⟨mk, methM, hnamed, hmethM, hstM, habM⟩ := Cond.instanceMethod_spec hinst
  obtain ⟨m8, methM', cM, hn8, hmethM', -, -, -, -, -, -, hsigM⟩ := Cond.codeWith_spec hcode
  cases Option.some.inj (hn8.symm.trans hnamed)
  cases hmethM.symm.trans hmethM'
  obtain ⟨c2, r2, m2, q1, q2, q3, q4, kP, hkP, hkPi⟩ := Cond.selects_spec hsel
  cases hcls.symm.trans q1
  cases (State.methodFound?_of_named hnamed hy).symm.trans q2
  cases hnamed.symm.trans q3
  have hselP : selectMethod e.platform s.vm cellB.cls mk = .method mk := by rw [Launch.admits_selectMethod X.admits]; exact q4
  obtain ⟨vm₁, X₁, hstep₁⟩ := X.invokevirtual hexec hown hlink hnamed hmethM hstM hkP hkPi hy (a := b) (cell := cellB) hcell
    (fun z h => by rw [h] at hobj; cases hobj) hselP hmethM habM hkP hkPi (g := g) hg (argsL := argsL) (rest := rest) (hlen _ hsigM) hstack hdg
  rcases hK m meth c ⟨T.setVm vm₁, locs, cells, slots⟩ { g with stack := rest } (.invokevirtual index) mk (Value.ref b :: argsL).toArray X₁ hg hsize hdg hW (X₁.named hnamed) (hpre vm₁ X₁.warmed) with ⟨v, B, X', hpost, hsteps⟩ | ⟨q, B, X', hpost, hsteps⟩
  · exact Or.inl ⟨v, vm₁, B, X₁.warmed, X', hpost, fun target h => hstep₁ _ fun acts => by rw [doInvoke_state]; exact hsteps.trans h⟩
  · exact Or.inr ⟨q, vm₁, B, X₁.warmed, X', hpost, hstep₁ _ fun acts => by rw [doInvoke_state]; exact hsteps⟩
theorem vx_callSX (X : Stand p l e R s m args below meth c T locs cells slots) (hexec : p.tables.exec = Jvm.exec) {own : String} {index : Nat} {y : MethodName} {bytes : ByteArray} {maxL : Nat} {ret : Option FieldType} {hh : List (Nat × Nat × Nat × Nat)}
    (hown : s.vm.findClass own = some m.cls) (hlink : (Cond.methodLink own index y).before args s = true) (hstat : (Cond.static y).before args s = true) (hinit : (Cond.initialized y.cls).before args s = true)
    (hcode : (Cond.codeWith y bytes maxL ret hh).before args s = true) (hy : y.cls ≠ "java/lang/invoke/MethodHandle" ∧ y.cls ≠ "java/lang/invoke/VarHandle")
    {W9 : Nat} {Pre : Pt → Array Value → Prop} {Post : Pt → Array Value → Option Value → Pt → Prop} {PostX : Pt → Array Value → Addr → Pt → Prop} (hK : vx_Back l R p e below s args y 3 W9 Pre Post PostX)
    {g : JFrame} (hg : g.method = m) (hsize : g.locals.size = c.maxLocals) {argsL rest : List Value} (hlen : ∀ sig, parseMethodDescriptor y.desc = some sig → argsL.length = sig.parameters.length)
    (hstack : g.stack = argsL.reverse ++ rest) (hW : 2 * g.monitorRoom + (rest.map fun v => v.category).sum ≤ W9) (hdg : decode c.code g.pc = .ok (.invokestatic index, 3))
    (hpre : ∀ vm₁, s.WarmedH vm₁ → Pre ⟨T.setVm vm₁, locs, cells, slots⟩ argsL.toArray) :
    (∃ (v : Option Value) (vm₁ : Vm) (B : Pt), s.WarmedH vm₁ ∧ Stand p l e R s m args below meth c B.U B.locs B.cells B.slots ∧ Post ⟨T.setVm vm₁, locs, cells, slots⟩ argsL.toArray v B ∧
      ∀ target, Steps p.tables e below (B.U.setTop { g with pc := g.pc + 3, stack := v.toList ++ rest }) target → Steps p.tables e below (T.setTop g) target) ∨
    (∃ (q : Addr) (vm₁ : Vm) (B : Pt), s.WarmedH vm₁ ∧ Stand p l e R s m args below meth c B.U B.locs B.cells B.slots ∧ PostX ⟨T.setVm vm₁, locs, cells, slots⟩ argsL.toArray q B ∧
      Steps p.tables e below (T.setTop g) ((B.U.setTop { g with stack := rest }).pushFrame (.throwing q))) := by
  obtain ⟨mk, methM, cM, hnamed, hmethM, -, -, -, -, -, -, hsigM⟩ := Cond.codeWith_spec hcode
  have hstatic : methM.isStatic = true := Cond.static_spec hnamed hmethM hstat
  obtain ⟨kP, hkP, -⟩ := className_of_methodNamed hnamed
  have hinitP : kP.init = .initialized := Cond.initialized_spec (findClass_of_methodNamed hnamed) hkP hinit
  obtain ⟨vm₁, X₁, hstep₁⟩ := X.invokestatic hexec hown hlink hnamed hmethM hstatic hkP hinitP hy (g := g) hg (argsL := argsL) (rest := rest) (hlen _ hsigM) hstack hdg
  rcases hK m meth c ⟨T.setVm vm₁, locs, cells, slots⟩ { g with stack := rest } (.invokestatic index) mk argsL.toArray X₁ hg hsize hdg hW (X₁.named hnamed) (hpre vm₁ X₁.warmed) with ⟨v, B, X', hpost, hsteps⟩ | ⟨q, B, X', hpost, hsteps⟩
  · exact Or.inl ⟨v, vm₁, B, X₁.warmed, X', hpost, fun target h => hstep₁ _ fun acts => by rw [doInvoke_state]; exact hsteps.trans h⟩
  · exact Or.inr ⟨q, vm₁, B, X₁.warmed, X', hpost, hstep₁ _ fun acts => by rw [doInvoke_state]; exact hsteps⟩
theorem vx_callVW (X : Stand p l e R s m args below meth c T locs cells slots) (hexec : p.tables.exec = Jvm.exec) {own C : String} {index : Nat} {y : MethodName} {bytes : ByteArray} {maxL : Nat} {ret : Option FieldType} {hh : List (Nat × Nat × Nat × Nat)}
    (hown : s.vm.findClass own = some m.cls) (hlink : (Cond.methodLink own index y).before args s = true) (hinst : (Cond.instanceMethod y).before args s = true) (hsel : (Cond.selects C y y).before args s = true)
    (hcode : (Cond.codeWith y bytes maxL ret hh).before args s = true) (hy : y.cls ≠ "java/lang/invoke/MethodHandle" ∧ y.cls ≠ "java/lang/invoke/VarHandle")
    {W9 : Nat} {Pre : Pt → Array Value → Prop} {Post : Pt → Array Value → Option Value → Pt → Prop} (hK : Back l R p e below s args y 3 W9 Pre Post)
    {b : Addr} {cellB : Cell} (hcell : T.heap[b]? = some cellB) (hobj : cellB.vm.isStatics = false) (hcls : s.vm.findClass C = some cellB.cls)
    {g : JFrame} (hg : g.method = m) (hsize : g.locals.size = c.maxLocals) {argsL rest : List Value} (hlen : ∀ sig, parseMethodDescriptor y.desc = some sig → argsL.length = sig.parameters.length)
    (hstack : g.stack = argsL.reverse ++ .ref b :: rest) (hW : 2 * g.monitorRoom + (rest.map fun v => v.category).sum ≤ W9) (hdg : decode c.code g.pc = .ok (.invokevirtual index, 3))
    (hpre : ∀ vm₁, s.WarmedH vm₁ → Pre ⟨T.setVm vm₁, locs, cells, slots⟩ (Value.ref b :: argsL).toArray) :
    ∃ (v : Option Value) (vm₁ : Vm) (B : Pt), s.WarmedH vm₁ ∧ Stand p l e R s m args below meth c B.U B.locs B.cells B.slots ∧ Post ⟨T.setVm vm₁, locs, cells, slots⟩ (Value.ref b :: argsL).toArray v B ∧
      ∀ target, Steps p.tables e below (B.U.setTop { g with pc := g.pc + 3, stack := v.toList ++ rest }) target → Steps p.tables e below (T.setTop g) target := by
  obtain ⟨mk, methM, hnamed, hmethM, hstM, habM⟩ := Cond.instanceMethod_spec hinst
  obtain ⟨m8, methM', cM, hn8, hmethM', -, -, -, -, -, -, hsigM⟩ := Cond.codeWith_spec hcode
  cases Option.some.inj (hn8.symm.trans hnamed)
  cases hmethM.symm.trans hmethM'
  obtain ⟨c2, r2, m2, q1, q2, q3, q4, kP, hkP, hkPi⟩ := Cond.selects_spec hsel
  cases hcls.symm.trans q1
  cases (State.methodFound?_of_named hnamed hy).symm.trans q2
  cases hnamed.symm.trans q3
  have hselP : selectMethod e.platform s.vm cellB.cls mk = .method mk := by rw [Launch.admits_selectMethod X.admits]; exact q4
  obtain ⟨vm₁, X₁, hstep₁⟩ := X.invokevirtual hexec hown hlink hnamed hmethM hstM hkP hkPi hy (a := b) (cell := cellB) hcell
    (fun z h => by rw [h] at hobj; cases hobj) hselP hmethM habM hkP hkPi (g := g) hg (argsL := argsL) (rest := rest) (hlen _ hsigM) hstack hdg
  obtain ⟨v, B, X', hpost, hsteps⟩ := hK m meth c ⟨T.setVm vm₁, locs, cells, slots⟩ { g with stack := rest } (.invokevirtual index) mk (Value.ref b :: argsL).toArray X₁ hg hsize hdg hW (X₁.named hnamed) (hpre vm₁ X₁.warmed)
  exact ⟨v, vm₁, B, X₁.warmed, X', hpost, fun target h => hstep₁ _ fun acts => by rw [doInvoke_state]; exact hsteps.trans h⟩
abbrev vx_CVW (R : Room) (s : State) (args : Array Value) (own C : String) (index : Nat) (y : MethodName) (bytes : ByteArray) (maxL : Nat) (ret : Option FieldType) (hh : List (Nat × Nat × Nat × Nat)) (ws : List Cond) (rm : Room) (mc ms n : Nat) : Prop :=
  (rm.cells = mc ∧ rm.slots = ms ∧ rm.frames + 1 ≤ R.frames ∧ 8 + (maxL + 11) + rm.locals ≤ R.locals ∧ (∀ w ∈ ws, ∀ (a' : Array Value) (U : State), s.WarmedH U.vm → w.before a' U = true) ∧ Cond.codeWith y bytes maxL ret hh ∈ ws) ∧
  (Cond.codeWith y bytes maxL ret hh).before args s = true ∧ (Cond.initialized y.cls).before args s = true ∧ (y.cls ≠ "java/lang/invoke/MethodHandle" ∧ y.cls ≠ "java/lang/invoke/VarHandle") ∧
  (∀ sig, parseMethodDescriptor y.desc = some sig → n = sig.parameters.length) ∧ (Cond.methodLink own index y).before args s = true ∧ (Cond.instanceMethod y).before args s = true ∧ (Cond.selects C y y).before args s = true
theorem vx_cwVW {own C : String} {index maxL mc ms : Nat} {y : MethodName} {bytes : ByteArray} {ret : Option FieldType} {hh : List (Nat × Nat × Nat × Nat)} {Ts ws ws' : List Cond} {rm : Room} (n : Nat) (ht : ∀ w ∈ Ts, w.before args s = true) (hT : GoodIn Ts (wsV own index C y ws)) (hw : ws = Cond.codeWith y bytes maxL ret hh :: ws') (hrc : rm.cells = mc) (hrs : rm.slots = ms)
    (hd : y.cls = C ∧ y.cls ≠ "java/lang/invoke/MethodHandle" ∧ y.cls ≠ "java/lang/invoke/VarHandle" ∧ (parseMethodDescriptor y.desc).map (fun d => d.parameters.length) = some n) (hR : rm.frames + 1 ≤ R.frames ∧ 8 + (maxL + 11) + rm.locals ≤ R.locals) :
    vx_CVW R s args own C index y bytes maxL ret hh ws rm mc ms n := by
  obtain ⟨hC, hd⟩ := hd
  subst hC
  have ok : ∀ w ∈ wsV own index y.cls y ws, w.before args s = true := fun w h => ht w (hT w h).1
  have hG : GoodIn Ts ws := fun w h => hT w (by unfold wsV; exact List.mem_append_right _ h)
  have hc : Cond.codeWith y bytes maxL ret hh ∈ ws := by rw [hw]; exact List.mem_cons_self
  refine ⟨⟨hrc, hrs, hR.1, hR.2, pay_in ht hG, hc⟩, ht _ (hG _ hc).1, ok _ (by simp [wsV]), ⟨hd.1, hd.2.1⟩, fun sig h => ?_, ok _ (by simp [wsV]), ok _ (by simp [wsV]), ok _ (by simp [wsV])⟩
  have h2 := hd.2.2
  rw [h] at h2
  exact (Option.some.inj h2).symm
theorem vx_runVW {y : MethodName} {bytes cc : ByteArray} {maxL nL mc ms n index : Nat} {ret : Option FieldType} {hh : List (Nat × Nat × Nat × Nat)} {ws : List Cond} {rm : Room} {Pc : Array Value → State → Prop} {Qc : Array Value → State → Outcome → State → Prop} {free : Addr → Prop} {Ts : List Cond} {own C : String} {b : Addr} {As rest : List Value} {g : JFrame}
    (S : CallFix p m c cc nL s args Ts own) (hM : Met l y ws rm Pc Qc mc ms free) (cw : vx_CVW R s args own C index y bytes maxL ret hh ws rm mc ms n) (hp : PreV s H C b Pc As)
    (hg : g.method = m) (hn : As.length = n) (hsize : g.locals.size = nL) (hstack : g.stack = As.reverse ++ .ref b :: rest) (hW : 2 * g.monitorRoom + (rest.map fun v => v.category).sum ≤ 8) (hdg : decode cc g.pc = .ok (.invokevirtual index, 3)) (hf : cells + mc ≤ R.cells ∧ slots + ms ≤ R.slots) :
    va_Run p l e R s m args below meth c H locs cells slots mc ms g rest (Qc (Value.ref b :: As).toArray) free := by
  obtain ⟨⟨hrc, hrs, hfr, hlo, hws, hcw⟩, hcode, hini, hy, hlen, hl, hin, hse⟩ := cw
  have hK : Back l R p e below s args y 3 8 (PreOf R mc ms Pc) (PostOf Qc mc ms free) := va_backW (hh := hh) (bytes := bytes) (maxL := maxL) (ret := ret) hM hp.1 hrc hrs hfr hlo hws hcw (fun a' U hW => word_at hW (Or.inl (by first | rfl | simp [Cond.onTables, Cond.keeps, Cond.steady])) hini)
  obtain ⟨hx, hb, hml, ho, -⟩ := S
  obtain ⟨-, ⟨cellB, hcB, hoB, hclB⟩, hPc⟩ := hp
  intro T hT X
  obtain ⟨v, vm₁, ⟨U', l2, c2, s2⟩, hW₁, X', ⟨g', mk, t, L, e1, e2, hq, h1, hL, h2, h3⟩, st⟩ := vx_callVW X hx (C := C) (hh := hh) (bytes := bytes) (maxL := maxL) (ret := ret) ho hl hin hse hcode hy hK (by rw [hT]; exact hcB) hoB hclB hg (hsize.trans hml.symm) (argsL := As) (rest := rest) (fun sig h => hn.trans (hlen sig h)) hstack hW (by rw [hb]; exact hdg)
    (fun vm₁ hW₁ => ⟨hf.1, hf.2, hPc (T.setVm vm₁) hT hW₁⟩)
  dsimp only [Pt.U, Pt.locs, Pt.cells, Pt.slots] at X' e1 e2 h1 h2 h3 st
  subst h1; subst h2; subst h3
  exact ⟨v, (T.setVm vm₁).calling g' mk (Value.ref b :: As).toArray, t, U', L, hT, X', hL, e1, e2, hq, st⟩
section
variable {y : MethodName} {bytes cc : ByteArray} {maxL nL mc ms n index : Nat} {ret : Option FieldType} {ws : List Cond} {rm : Room} {Pc : Array Value → State → Prop} {Qc : Array Value → State → Outcome → State → Prop} {XC : String → State → State → Prop} {free : Addr → Prop} {Ts : List Cond} {own C : String} {b : Addr} {As rest : List Value} {g : JFrame}
theorem vx_runVX {hh : List (Nat × Nat × Nat × Nat)} (S : CallFix p m c cc nL s args Ts own) (hM : vx_Met l y ws rm Pc Qc XC mc ms free) (cw : vx_CVW R s args own C index y bytes maxL ret hh ws rm mc ms n) (hp : PreV s H C b Pc As)
    (hg : g.method = m) (hn : As.length = n) (hsize : g.locals.size = nL) (hstack : g.stack = As.reverse ++ .ref b :: rest) (hW : 2 * g.monitorRoom + (rest.map fun v => v.category).sum ≤ 8) (hdg : decode cc g.pc = .ok (.invokevirtual index, 3)) (hf : cells + mc ≤ R.cells ∧ slots + ms ≤ R.slots) :
    vx_Run p l e R s m args below meth c H locs cells slots mc ms g rest (Qc (Value.ref b :: As).toArray) XC free := by
  obtain ⟨⟨hrc, hrs, hfr, hlo, hws, hcw⟩, hcode, hini, hy, hlen, hl, hin, hse⟩ := cw
  have hK : vx_Back l R p e below s args y 3 8 (PreOf R mc ms Pc) (PostOf Qc mc ms free) (vx_Post XC mc ms free) := vx_backW (hh := hh) (bytes := bytes) (maxL := maxL) (ret := ret) hM hp.1 hrc hrs hfr hlo hws hcw (fun a' U hW => word_at hW (Or.inl (by first | rfl | simp [Cond.onTables, Cond.keeps, Cond.steady])) hini)
  obtain ⟨hx, hb, hml, ho, -⟩ := S
  obtain ⟨-, ⟨cellB, hcB, hoB, hclB⟩, hPc⟩ := hp
  intro T hT X
  rcases vx_callVX X hx (C := C) (hh := hh) (bytes := bytes) (maxL := maxL) (ret := ret) ho hl hin hse hcode hy hK (by rw [hT]; exact hcB) hoB hclB hg (hsize.trans hml.symm) (argsL := As) (rest := rest) (fun sig h => hn.trans (hlen sig h)) hstack hW (by rw [hb]; exact hdg)
    (fun vm₁ hW₁ => ⟨hf.1, hf.2, hPc (T.setVm vm₁) hT hW₁⟩) with ⟨v, vm₁, ⟨U', l2, c2, s2⟩, hW₁, X', ⟨g', mk, t, L, e1, e2, hq, h1, hL, h2, h3⟩, st⟩ | ⟨q, vm₁, ⟨U', l2, c2, s2⟩, hW₁, X', ⟨g', mk, t, L, E, ce, e1, e2, hq, hce, hcv, hcl, h1, hL, h2, h3⟩, st⟩
  · dsimp only [Pt.U, Pt.locs, Pt.cells, Pt.slots] at X' e1 e2 h1 h2 h3 st
    subst h1; subst h2; subst h3
    exact Or.inl ⟨v, (T.setVm vm₁).calling g' mk (Value.ref b :: As).toArray, t, U', L, hT, X', hL, e1, e2, hq, st⟩
  · dsimp only [Pt.U, Pt.locs, Pt.cells, Pt.slots] at X' e1 e2 h1 h2 h3 st hcl
    subst h1; subst h2; subst h3
    exact Or.inr ⟨q, (T.setVm vm₁).calling g' mk (Value.ref b :: As).toArray, t, U', L, E, ce, hT, X', hL, e1, e2, hq, hce, hcv, vx_cls hW₁ hcl, st⟩
theorem vx_runSX {hh : List (Nat × Nat × Nat × Nat)} (S : CallFix p m c cc nL s args Ts own) (hM : vx_Met l y ws rm Pc Qc XC mc ms free) (cw : vx_CSW R s args own index y bytes maxL ret hh ws rm mc ms n) (hp : PreS s H Pc As)
    (hg : g.method = m) (hn : As.length = n) (hsize : g.locals.size = nL) (hstack : g.stack = As.reverse ++ rest) (hW : 2 * g.monitorRoom + (rest.map fun v => v.category).sum ≤ 8) (hdg : decode cc g.pc = .ok (.invokestatic index, 3)) (hf : cells + mc ≤ R.cells ∧ slots + ms ≤ R.slots) :
    vx_Run p l e R s m args below meth c H locs cells slots mc ms g rest (Qc As.toArray) XC free := by
  obtain ⟨⟨hrc, hrs, hfr, hlo, hws, hcw⟩, hcode, hini, hy, hlen, hl, hstt⟩ := cw
  have hK : vx_Back l R p e below s args y 3 8 (PreOf R mc ms Pc) (PostOf Qc mc ms free) (vx_Post XC mc ms free) := vx_backW (hh := hh) (bytes := bytes) (maxL := maxL) (ret := ret) hM hp.1 hrc hrs hfr hlo hws hcw (fun a' U hW => word_at hW (Or.inl (by first | rfl | simp [Cond.onTables, Cond.keeps, Cond.steady])) hini)
  obtain ⟨hx, hb, hml, ho, -⟩ := S
  intro T hT X
  rcases vx_callSX X hx (hh := hh) (bytes := bytes) (maxL := maxL) (ret := ret) ho hl hstt hini hcode hy hK hg (hsize.trans hml.symm) (argsL := As) (rest := rest) (fun sig h => hn.trans (hlen sig h)) hstack hW (by rw [hb]; exact hdg)
    (fun vm₁ hW₁ => ⟨hf.1, hf.2, hp.2 (T.setVm vm₁) hT hW₁⟩) with ⟨v, vm₁, ⟨U', l2, c2, s2⟩, hW₁, X', ⟨g', mk, t, L, e1, e2, hq, h1, hL, h2, h3⟩, st⟩ | ⟨q, vm₁, ⟨U', l2, c2, s2⟩, hW₁, X', ⟨g', mk, t, L, E, ce, e1, e2, hq, hce, hcv, hcl, h1, hL, h2, h3⟩, st⟩
  · dsimp only [Pt.U, Pt.locs, Pt.cells, Pt.slots] at X' e1 e2 h1 h2 h3 st
    subst h1; subst h2; subst h3
    exact Or.inl ⟨v, (T.setVm vm₁).calling g' mk As.toArray, t, U', L, hT, X', hL, e1, e2, hq, st⟩
  · dsimp only [Pt.U, Pt.locs, Pt.cells, Pt.slots] at X' e1 e2 h1 h2 h3 st hcl
    subst h1; subst h2; subst h3
    exact Or.inr ⟨q, (T.setVm vm₁).calling g' mk As.toArray, t, U', L, E, ce, hT, X', hL, e1, e2, hq, hce, hcv, vx_cls hW₁ hcl, st⟩
end
end VXH
theorem vx_ofWH {l : Launch} {y : MethodName} {ws ws' : List Cond} {rm : Room} {Pc : Array Value → State → Prop} {Qc : Array Value → State → Outcome → State → Prop} {XC : String → State → State → Prop} {mc ms : Nat} {free : Addr → Prop} {cc : ByteArray} {maxL : Nat} {ret : Option FieldType} {hh : List (Nat × Nat × Nat × Nat)}
    (hy : plainName y.cls = true) (hw : ws = Cond.codeWith y cc maxL ret hh :: ws')
    (body : ∀ p e s m args below meth c s₁, BodyLoose p l y (headSpec ws rm) cc maxL ret e s m args below meth c s₁ → c.maxLocals = maxL → Pc args s →
      W p l e (headSpec ws rm).room s m args below meth c s.heap [] 0 0 (vx_MQ below Qc XC args s mc ms free) (entryFrame m args maxL)) : vx_Met l y ws rm Pc Qc XC mc ms free := by
  refine MetFree.of_bodyS (code := cc) (maxLocals := maxL) (ret := ret) hy ?_ ?_
  · intro args s m h hn
    obtain ⟨m9, meth, c, hn9, h1, h2, h3, h4, -, h5, h6, -⟩ := Cond.codeWith_spec (atoms_spec (ws := ws) h _ (by rw [hw]; exact List.mem_cons_self))
    cases hn.symm.trans hn9
    exact ⟨meth, c, h1, h2, h3, h4, h5, h6⟩
  · intro p e s m args below meth c s₁ B hml hP _
    have hh0 : s₁.heap = s.heap := by rw [B.state]; rfl
    obtain ⟨t, a1, o, b1, b2, b3⟩ := body p e s m args below meth c s₁ B hml hP s₁ hh0 (Stand.of_body B)
    exact ⟨t, o, a1, b1, b2, b3⟩
/-! ===== END ===== -/

/-! ===== BEGIN printed: names, fields, word lists, decode rows ===== -/
def RX0 : String := "PegBox$ClaimBook"
def TX0 : u_T := fun k => match k with
  | 0 => ("PegBox$ClaimBook", "kinds", "[I", true)
  | 1 => ("PegBox$ClaimBook", "amounts", "[I", true)
  | 2 => ("PegBox$ClaimBook", "offers", "[I", true)
  | 3 => ("PegBox$ClaimBook", "settled", "[I", true)
  | _ => ("PegBox$ClaimBook", "count", "I", false)
def tyX0 : Nat → FieldType := fun k => match k with
  | 0 => .array .int
  | 1 => .array .int
  | 2 => .array .int
  | 3 => .array .int
  | _ => .int
abbrev wsX00 : List Cond := u_ws RX0 TX0 5
theorem nmX0 : ∀ a, a < 5 → ∀ b, b < 5 → a ≠ b → (TX0 a).2.1 ≠ (TX0 b).2.1 := by decide +kernel
theorem tyX0_ok : ∀ k, k < 5 → parseFieldDescriptor (TX0 k).2.2.1 = some (tyX0 k) := by decide +kernel
abbrev cX0_init : ByteArray := prog_2_method_1_code
def yX0_init : MethodName := ⟨RX0, "<init>", "()V"⟩
abbrev cX0_settledSum : ByteArray := prog_2_method_2_code
def yX0_settledSum : MethodName := ⟨RX0, "settledSum", "(II)I"⟩
abbrev cX0_openSum : ByteArray := prog_2_method_3_code
def yX0_openSum : MethodName := ⟨RX0, "openSum", "()I"⟩
def RX1 : String := "PegBox$EarnOut"
def TX1 : u_T := fun k => match k with
  | 0 => ("PegBox$EarnOut", "targets", "[I", true)
  | 1 => ("PegBox$EarnOut", "amounts", "[I", true)
  | 2 => ("PegBox$EarnOut", "met", "[Z", true)
  | 3 => ("PegBox$EarnOut", "isCarried", "Z", false)
  | 4 => ("PegBox$EarnOut", "isSpedUp", "Z", false)
  | 5 => ("PegBox$EarnOut", "told", "I", false)
  | 6 => ("PegBox$EarnOut", "resultSum", "I", false)
  | _ => ("PegBox$EarnOut", "targetSum", "I", false)
def tyX1 : Nat → FieldType := fun k => match k with
  | 0 => .array .int
  | 1 => .array .int
  | 2 => .array .boolean
  | 3 => .boolean
  | 4 => .boolean
  | 5 => .int
  | 6 => .int
  | _ => .int
abbrev wsX10 : List Cond := u_ws RX1 TX1 8
theorem nmX1 : ∀ a, a < 8 → ∀ b, b < 8 → a ≠ b → (TX1 a).2.1 ≠ (TX1 b).2.1 := by decide +kernel
theorem tyX1_ok : ∀ k, k < 8 → parseFieldDescriptor (TX1 k).2.2.1 = some (tyX1 k) := by decide +kernel
abbrev cX1_init : ByteArray := prog_3_method_1_code
def yX1_init : MethodName := ⟨RX1, "<init>", "()V"⟩
abbrev cX1_tell : ByteArray := prog_3_method_2_code
def yX1_tell : MethodName := ⟨RX1, "tell", "(I)I"⟩
abbrev cX1_hasten : ByteArray := prog_3_method_3_code
def yX1_hasten : MethodName := ⟨RX1, "hasten", "()I"⟩
abbrev cX1_meet : ByteArray := prog_3_method_4_code
def yX1_meet : MethodName := ⟨RX1, "meet", "(II)I"⟩
def RX2 : String := "PegBox$Escrow"
def TX2 : u_T := fun k => match k with
  | 0 => ("PegBox$Escrow", "amounts", "[I", true)
  | _ => ("PegBox$Escrow", "days", "[I", true)
def tyX2 : Nat → FieldType := fun k => match k with
  | 0 => .array .int
  | _ => .array .int
abbrev wsX20 : List Cond := u_ws RX2 TX2 2
theorem nmX2 : ∀ a, a < 2 → ∀ b, b < 2 → a ≠ b → (TX2 a).2.1 ≠ (TX2 b).2.1 := by decide +kernel
theorem tyX2_ok : ∀ k, k < 2 → parseFieldDescriptor (TX2 k).2.2.1 = some (tyX2 k) := by decide +kernel
abbrev cX2_init : ByteArray := prog_4_method_1_code
def yX2_init : MethodName := ⟨RX2, "<init>", "()V"⟩
abbrev cX2_total : ByteArray := prog_4_method_2_code
def yX2_total : MethodName := ⟨RX2, "total", "()I"⟩
abbrev cX2_totalAfter : ByteArray := prog_4_method_3_code
def yX2_totalAfter : MethodName := ⟨RX2, "totalAfter", "(I)I"⟩
def RX3 : String := "PegBox$Kinds"
def TX3 : u_T := fun k => match k with
  | 0 => ("PegBox$Kinds", "leasts", "[I", true)
  | 1 => ("PegBox$Kinds", "baskets", "[I", true)
  | 2 => ("PegBox$Kinds", "wholes", "[Z", true)
  | 3 => ("PegBox$Kinds", "caps", "[I", true)
  | _ => ("PegBox$Kinds", "lastDays", "[I", true)
def tyX3 : Nat → FieldType := fun k => match k with
  | 0 => .array .int
  | 1 => .array .int
  | 2 => .array .boolean
  | 3 => .array .int
  | _ => .array .int
abbrev wsX30 : List Cond := u_ws RX3 TX3 5
theorem nmX3 : ∀ a, a < 5 → ∀ b, b < 5 → a ≠ b → (TX3 a).2.1 ≠ (TX3 b).2.1 := by decide +kernel
theorem tyX3_ok : ∀ k, k < 5 → parseFieldDescriptor (TX3 k).2.2.1 = some (tyX3 k) := by decide +kernel
abbrev cX3_init : ByteArray := prog_5_method_1_code
def yX3_init : MethodName := ⟨RX3, "<init>", "()V"⟩
abbrev cX3_limit : ByteArray := prog_5_method_2_code
def yX3_limit : MethodName := ⟨RX3, "limit", "(II)I"⟩
abbrev cX3_pastBasket : ByteArray := prog_5_method_3_code
def yX3_pastBasket : MethodName := ⟨RX3, "pastBasket", "(II)I"⟩
def RX4 : String := "PegBox"
def TX4 : u_T := fun k => match k with
  | 0 => ("PegBox", "escrow", "LPegBox$Escrow;", true)
  | 1 => ("PegBox", "kinds", "LPegBox$Kinds;", true)
  | 2 => ("PegBox", "book", "LPegBox$ClaimBook;", true)
  | 3 => ("PegBox", "earnOut", "LPegBox$EarnOut;", true)
  | 4 => ("PegBox", "price", "I", false)
  | 5 => ("PegBox", "peg", "I", false)
  | 6 => ("PegBox", "collar", "I", false)
  | 7 => ("PegBox", "day", "I", false)
  | 8 => ("PegBox", "finalPrice", "I", false)
  | 9 => ("PegBox", "held", "I", false)
  | 10 => ("PegBox", "paid", "I", false)
  | 11 => ("PegBox", "returned", "I", false)
  | 12 => ("PegBox", "setOff", "I", false)
  | _ => ("PegBox", "owed", "I", false)
def tyX4 : Nat → FieldType := fun k => match k with
  | 0 => .object "PegBox$Escrow"
  | 1 => .object "PegBox$Kinds"
  | 2 => .object "PegBox$ClaimBook"
  | 3 => .object "PegBox$EarnOut"
  | 4 => .int
  | 5 => .int
  | 6 => .int
  | 7 => .int
  | 8 => .int
  | 9 => .int
  | 10 => .int
  | 11 => .int
  | 12 => .int
  | _ => .int
abbrev wsX40 : List Cond := u_ws RX4 TX4 14
theorem nmX4 : ∀ a, a < 14 → ∀ b, b < 14 → a ≠ b → (TX4 a).2.1 ≠ (TX4 b).2.1 := by decide +kernel
theorem tyX4_ok : ∀ k, k < 14 → parseFieldDescriptor (TX4 k).2.2.1 = some (tyX4 k) := by decide +kernel
abbrev cX4_init : ByteArray := prog_1_method_1_code
def yX4_init : MethodName := ⟨RX4, "<init>", "()V"⟩
abbrev cX4_setPrice : ByteArray := prog_1_method_2_code
def yX4_setPrice : MethodName := ⟨RX4, "setPrice", "(III)V"⟩
abbrev cX4_setPart : ByteArray := prog_1_method_3_code
def yX4_setPart : MethodName := ⟨RX4, "setPart", "(III)V"⟩
abbrev cX4_setKind : ByteArray := prog_1_method_4_code
def yX4_setKind : MethodName := ⟨RX4, "setKind", "(IIIZII)V"⟩
abbrev cX4_setYear : ByteArray := prog_1_method_5_code
def yX4_setYear : MethodName := ⟨RX4, "setYear", "(III)V"⟩
abbrev cX4_setCarry : ByteArray := prog_1_method_6_code
def yX4_setCarry : MethodName := ⟨RX4, "setCarry", "(Z)V"⟩
abbrev cX4_close : ByteArray := prog_1_method_7_code
def yX4_close : MethodName := ⟨RX4, "close", "(III)I"⟩
abbrev cX4_advance : ByteArray := prog_1_method_8_code
def yX4_advance : MethodName := ⟨RX4, "advance", "(I)I"⟩
abbrev cX4_claim : ByteArray := prog_1_method_9_code
def yX4_claim : MethodName := ⟨RX4, "claim", "(II)I"⟩
abbrev cX4_offer : ByteArray := prog_1_method_10_code
def yX4_offer : MethodName := ⟨RX4, "offer", "(II)I"⟩
abbrev cX4_agree : ByteArray := prog_1_method_11_code
def yX4_agree : MethodName := ⟨RX4, "agree", "(I)I"⟩
abbrev cX4_decide : ByteArray := prog_1_method_12_code
def yX4_decide : MethodName := ⟨RX4, "decide", "(II)I"⟩
abbrev cX4_report : ByteArray := prog_1_method_13_code
def yX4_report : MethodName := ⟨RX4, "report", "(I)I"⟩
abbrev cX4_speedUp : ByteArray := prog_1_method_14_code
def yX4_speedUp : MethodName := ⟨RX4, "speedUp", "()I"⟩
abbrev cX4_day : ByteArray := prog_1_method_15_code
def yX4_day : MethodName := ⟨RX4, "day", "()I"⟩
abbrev cX4_finalPrice : ByteArray := prog_1_method_16_code
def yX4_finalPrice : MethodName := ⟨RX4, "finalPrice", "()I"⟩
abbrev cX4_held : ByteArray := prog_1_method_17_code
def yX4_held : MethodName := ⟨RX4, "held", "()I"⟩
abbrev cX4_paid : ByteArray := prog_1_method_18_code
def yX4_paid : MethodName := ⟨RX4, "paid", "()I"⟩
abbrev cX4_returned : ByteArray := prog_1_method_19_code
def yX4_returned : MethodName := ⟨RX4, "returned", "()I"⟩
abbrev cX4_setOff : ByteArray := prog_1_method_20_code
def yX4_setOff : MethodName := ⟨RX4, "setOff", "()I"⟩
abbrev cX4_owed : ByteArray := prog_1_method_21_code
def yX4_owed : MethodName := ⟨RX4, "owed", "()I"⟩
abbrev cX4_due : ByteArray := prog_1_method_22_code
def yX4_due : MethodName := ⟨RX4, "due", "()I"⟩
abbrev cX4_outstanding : ByteArray := prog_1_method_23_code
def yX4_outstanding : MethodName := ⟨RX4, "outstanding", "()I"⟩
abbrev cX4_dueOf : ByteArray := prog_1_method_24_code
def yX4_dueOf : MethodName := ⟨RX4, "dueOf", "(I)I"⟩
abbrev cX4_claims : ByteArray := prog_1_method_25_code
def yX4_claims : MethodName := ⟨RX4, "claims", "()I"⟩
abbrev cX4_settledAt : ByteArray := prog_1_method_26_code
def yX4_settledAt : MethodName := ⟨RX4, "settledAt", "(I)I"⟩
abbrev cX4_isMet : ByteArray := prog_1_method_27_code
def yX4_isMet : MethodName := ⟨RX4, "isMet", "(I)Z"⟩
abbrev cX4_checkNumber : ByteArray := prog_1_method_28_code
def yX4_checkNumber : MethodName := ⟨RX4, "checkNumber", "(II)V"⟩
abbrev cX4_checkRange : ByteArray := prog_1_method_29_code
def yX4_checkRange : MethodName := ⟨RX4, "checkRange", "(III)V"⟩
abbrev cX4_checkOpen : ByteArray := prog_1_method_30_code
def yX4_checkOpen : MethodName := ⟨RX4, "checkOpen", "(I)V"⟩
abbrev cX4_checkNotClosed : ByteArray := prog_1_method_31_code
def yX4_checkNotClosed : MethodName := ⟨RX4, "checkNotClosed", "()V"⟩
abbrev cX4_checkClosed : ByteArray := prog_1_method_32_code
def yX4_checkClosed : MethodName := ⟨RX4, "checkClosed", "()V"⟩
abbrev cX4_beyondCollar : ByteArray := prog_1_method_33_code
def yX4_beyondCollar : MethodName := ⟨RX4, "beyondCollar", "(I)I"⟩
abbrev cX4_dueOfKind : ByteArray := prog_1_method_34_code
def yX4_dueOfKind : MethodName := ⟨RX4, "dueOfKind", "(I)I"⟩
abbrev cX4_dueInAll : ByteArray := prog_1_method_35_code
def yX4_dueInAll : MethodName := ⟨RX4, "dueInAll", "()I"⟩
abbrev cX4_leftOutstanding : ByteArray := prog_1_method_36_code
def yX4_leftOutstanding : MethodName := ⟨RX4, "leftOutstanding", "()I"⟩
abbrev cX4_payOut : ByteArray := prog_1_method_37_code
def yX4_payOut : MethodName := ⟨RX4, "payOut", "()I"⟩
abbrev cX4_free : ByteArray := prog_1_method_38_code
def yX4_free : MethodName := ⟨RX4, "free", "()V"⟩
abbrev cX4_owe : ByteArray := prog_1_method_39_code
def yX4_owe : MethodName := ⟨RX4, "owe", "(I)I"⟩
def RX5 : String := "PegBoxModel"
def TX5 : u_T := fun k => match k with
  | 0 => ("PegBoxModel", "price", "I", false)
  | 1 => ("PegBoxModel", "peg", "I", false)
  | 2 => ("PegBoxModel", "collar", "I", false)
  | 3 => ("PegBoxModel", "partAmount", "[I", true)
  | 4 => ("PegBoxModel", "partDay", "[I", true)
  | 5 => ("PegBoxModel", "least", "[I", true)
  | 6 => ("PegBoxModel", "basket", "[I", true)
  | 7 => ("PegBoxModel", "whole", "[Z", true)
  | 8 => ("PegBoxModel", "cap", "[I", true)
  | 9 => ("PegBoxModel", "lastDay", "[I", true)
  | 10 => ("PegBoxModel", "target", "[I", true)
  | 11 => ("PegBoxModel", "yearAmount", "[I", true)
  | 12 => ("PegBoxModel", "carried", "Z", false)
  | 13 => ("PegBoxModel", "closed", "Z", false)
  | 14 => ("PegBoxModel", "day", "I", false)
  | 15 => ("PegBoxModel", "finals", "I", false)
  | 16 => ("PegBoxModel", "held", "I", false)
  | 17 => ("PegBoxModel", "paid", "I", false)
  | 18 => ("PegBoxModel", "returned", "I", false)
  | 19 => ("PegBoxModel", "setOff", "I", false)
  | 20 => ("PegBoxModel", "owed", "I", false)
  | 21 => ("PegBoxModel", "kind", "[I", true)
  | 22 => ("PegBoxModel", "amount", "[I", true)
  | 23 => ("PegBoxModel", "offered", "[I", true)
  | 24 => ("PegBoxModel", "settled", "[I", true)
  | 25 => ("PegBoxModel", "claims", "I", false)
  | 26 => ("PegBoxModel", "results", "[I", true)
  | 27 => ("PegBoxModel", "met", "[Z", true)
  | 28 => ("PegBoxModel", "told", "I", false)
  | 29 => ("PegBoxModel", "sped", "Z", false)
  | _ => ("PegBoxModel", "thrown", "I", false)
def tyX5 : Nat → FieldType := fun k => match k with
  | 0 => .int
  | 1 => .int
  | 2 => .int
  | 3 => .array .int
  | 4 => .array .int
  | 5 => .array .int
  | 6 => .array .int
  | 7 => .array .boolean
  | 8 => .array .int
  | 9 => .array .int
  | 10 => .array .int
  | 11 => .array .int
  | 12 => .boolean
  | 13 => .boolean
  | 14 => .int
  | 15 => .int
  | 16 => .int
  | 17 => .int
  | 18 => .int
  | 19 => .int
  | 20 => .int
  | 21 => .array .int
  | 22 => .array .int
  | 23 => .array .int
  | 24 => .array .int
  | 25 => .int
  | 26 => .array .int
  | 27 => .array .boolean
  | 28 => .int
  | 29 => .boolean
  | _ => .int
abbrev wsX50 : List Cond := u_ws RX5 TX5 31
theorem nmX5 : ∀ a, a < 31 → ∀ b, b < 31 → a ≠ b → (TX5 a).2.1 ≠ (TX5 b).2.1 := by decide +kernel
theorem tyX5_ok : ∀ k, k < 31 → parseFieldDescriptor (TX5 k).2.2.1 = some (tyX5 k) := by decide +kernel
abbrev cX5_init : ByteArray := prog_7_method_1_code
def yX5_init : MethodName := ⟨RX5, "<init>", "()V"⟩
abbrev cX5_thrown : ByteArray := prog_7_method_2_code
def yX5_thrown : MethodName := ⟨RX5, "thrown", "()I"⟩
abbrev cX5_in : ByteArray := prog_7_method_3_code
def yX5_in : MethodName := ⟨RX5, "in", "(III)Z"⟩
abbrev cX5_isFine : ByteArray := prog_7_method_4_code
def yX5_isFine : MethodName := ⟨RX5, "isFine", "(I)Z"⟩
abbrev cX5_setPrice : ByteArray := prog_7_method_5_code
def yX5_setPrice : MethodName := ⟨RX5, "setPrice", "(III)V"⟩
abbrev cX5_setPart : ByteArray := prog_7_method_6_code
def yX5_setPart : MethodName := ⟨RX5, "setPart", "(III)V"⟩
abbrev cX5_setKind : ByteArray := prog_7_method_7_code
def yX5_setKind : MethodName := ⟨RX5, "setKind", "(IIIZII)V"⟩
abbrev cX5_setYear : ByteArray := prog_7_method_8_code
def yX5_setYear : MethodName := ⟨RX5, "setYear", "(III)V"⟩
abbrev cX5_setCarry : ByteArray := prog_7_method_9_code
def yX5_setCarry : MethodName := ⟨RX5, "setCarry", "(Z)V"⟩
abbrev cX5_close : ByteArray := prog_7_method_10_code
def yX5_close : MethodName := ⟨RX5, "close", "(III)I"⟩
abbrev cX5_frees : ByteArray := prog_7_method_11_code
def yX5_frees : MethodName := ⟨RX5, "frees", "()V"⟩
abbrev cX5_advance : ByteArray := prog_7_method_12_code
def yX5_advance : MethodName := ⟨RX5, "advance", "(I)I"⟩
abbrev cX5_claim : ByteArray := prog_7_method_13_code
def yX5_claim : MethodName := ⟨RX5, "claim", "(II)I"⟩
abbrev cX5_isClaim : ByteArray := prog_7_method_14_code
def yX5_isClaim : MethodName := ⟨RX5, "isClaim", "(I)Z"⟩
abbrev cX5_offer : ByteArray := prog_7_method_15_code
def yX5_offer : MethodName := ⟨RX5, "offer", "(II)I"⟩
abbrev cX5_dueFor : ByteArray := prog_7_method_16_code
def yX5_dueFor : MethodName := ⟨RX5, "dueFor", "(I)I"⟩
abbrev cX5_dueAll : ByteArray := prog_7_method_17_code
def yX5_dueAll : MethodName := ⟨RX5, "dueAll", "()I"⟩
abbrev cX5_open : ByteArray := prog_7_method_18_code
def yX5_open : MethodName := ⟨RX5, "open", "()I"⟩
abbrev cX5_settles : ByteArray := prog_7_method_19_code
def yX5_settles : MethodName := ⟨RX5, "settles", "(II)I"⟩
abbrev cX5_agree : ByteArray := prog_7_method_20_code
def yX5_agree : MethodName := ⟨RX5, "agree", "(I)I"⟩
abbrev cX5_decide : ByteArray := prog_7_method_21_code
def yX5_decide : MethodName := ⟨RX5, "decide", "(II)I"⟩
abbrev cX5_owes : ByteArray := prog_7_method_22_code
def yX5_owes : MethodName := ⟨RX5, "owes", "(I)I"⟩
abbrev cX5_report : ByteArray := prog_7_method_23_code
def yX5_report : MethodName := ⟨RX5, "report", "(I)I"⟩
abbrev cX5_speedUp : ByteArray := prog_7_method_24_code
def yX5_speedUp : MethodName := ⟨RX5, "speedUp", "()I"⟩
abbrev cX5_day : ByteArray := prog_7_method_25_code
def yX5_day : MethodName := ⟨RX5, "day", "()I"⟩
abbrev cX5_finalPrice : ByteArray := prog_7_method_26_code
def yX5_finalPrice : MethodName := ⟨RX5, "finalPrice", "()I"⟩
abbrev cX5_held : ByteArray := prog_7_method_27_code
def yX5_held : MethodName := ⟨RX5, "held", "()I"⟩
abbrev cX5_paid : ByteArray := prog_7_method_28_code
def yX5_paid : MethodName := ⟨RX5, "paid", "()I"⟩
abbrev cX5_returned : ByteArray := prog_7_method_29_code
def yX5_returned : MethodName := ⟨RX5, "returned", "()I"⟩
abbrev cX5_setOff : ByteArray := prog_7_method_30_code
def yX5_setOff : MethodName := ⟨RX5, "setOff", "()I"⟩
abbrev cX5_owed : ByteArray := prog_7_method_31_code
def yX5_owed : MethodName := ⟨RX5, "owed", "()I"⟩
abbrev cX5_due : ByteArray := prog_7_method_32_code
def yX5_due : MethodName := ⟨RX5, "due", "()I"⟩
abbrev cX5_outstanding : ByteArray := prog_7_method_33_code
def yX5_outstanding : MethodName := ⟨RX5, "outstanding", "()I"⟩
abbrev cX5_dueOf : ByteArray := prog_7_method_34_code
def yX5_dueOf : MethodName := ⟨RX5, "dueOf", "(I)I"⟩
abbrev cX5_claims : ByteArray := prog_7_method_35_code
def yX5_claims : MethodName := ⟨RX5, "claims", "()I"⟩
abbrev cX5_settledAt : ByteArray := prog_7_method_36_code
def yX5_settledAt : MethodName := ⟨RX5, "settledAt", "(I)I"⟩
abbrev cX5_isMet : ByteArray := prog_7_method_37_code
def yX5_isMet : MethodName := ⟨RX5, "isMet", "(I)Z"⟩
def RJ9 : String := "java/lang/Math"
def TJ9 : u_T := fun k => match k with
  | _ => ("", "", "", false)
def tyJ9 : Nat → FieldType := fun k => match k with
  | _ => .int
abbrev wsJ90 : List Cond := u_ws RJ9 TJ9 0
theorem nmJ9 : ∀ a, a < 0 → ∀ b, b < 0 → a ≠ b → (TJ9 a).2.1 ≠ (TJ9 b).2.1 := by decide +kernel
theorem tyJ9_ok : ∀ k, k < 0 → parseFieldDescriptor (TJ9 k).2.2.1 = some (tyJ9 k) := by decide +kernel
abbrev cJ9_max_7cf53 : ByteArray := prog_12_method_65_code
def yJ9_max_7cf53 : MethodName := ⟨RJ9, "max", "(II)I"⟩
abbrev cJ9_min_7cf53 : ByteArray := prog_12_method_69_code
def yJ9_min_7cf53 : MethodName := ⟨RJ9, "min", "(II)I"⟩
def RJ0 : String := "java/lang/String"
def TJ0 : u_T := fun k => match k with
  | _ => ("", "", "", false)
def tyJ0 : Nat → FieldType := fun k => match k with
  | _ => .int
abbrev wsJ00 : List Cond := u_ws RJ0 TJ0 0
theorem nmJ0 : ∀ a, a < 0 → ∀ b, b < 0 → a ≠ b → (TJ0 a).2.1 ≠ (TJ0 b).2.1 := by decide +kernel
theorem tyJ0_ok : ∀ k, k < 0 → parseFieldDescriptor (TJ0 k).2.2.1 = some (tyJ0 k) := by decide +kernel
def RL : String := "PegBoxLaw"
abbrev cL_setPrice : ByteArray := method_3_code
def yL_setPrice : MethodName := ⟨RL, "setPrice", "(LPegBox;III)I"⟩
abbrev cL_setPart : ByteArray := method_4_code
def yL_setPart : MethodName := ⟨RL, "setPart", "(LPegBox;III)I"⟩
abbrev cL_setKind : ByteArray := method_5_code
def yL_setKind : MethodName := ⟨RL, "setKind", "(LPegBox;IIIZII)I"⟩
abbrev cL_setYear : ByteArray := method_6_code
def yL_setYear : MethodName := ⟨RL, "setYear", "(LPegBox;III)I"⟩
abbrev cL_setCarry : ByteArray := method_7_code
def yL_setCarry : MethodName := ⟨RL, "setCarry", "(LPegBox;Z)I"⟩
abbrev cL_close : ByteArray := method_8_code
def yL_close : MethodName := ⟨RL, "close", "(LPegBox;III[J)I"⟩
abbrev cL_advance : ByteArray := method_9_code
def yL_advance : MethodName := ⟨RL, "advance", "(LPegBox;I[J)I"⟩
abbrev cL_claim : ByteArray := method_10_code
def yL_claim : MethodName := ⟨RL, "claim", "(LPegBox;II[J)I"⟩
abbrev cL_offer : ByteArray := method_11_code
def yL_offer : MethodName := ⟨RL, "offer", "(LPegBox;II[J)I"⟩
abbrev cL_agree : ByteArray := method_12_code
def yL_agree : MethodName := ⟨RL, "agree", "(LPegBox;I[J)I"⟩
abbrev cL_decide : ByteArray := method_13_code
def yL_decide : MethodName := ⟨RL, "decide", "(LPegBox;II[J)I"⟩
abbrev cL_report : ByteArray := method_14_code
def yL_report : MethodName := ⟨RL, "report", "(LPegBox;I[J)I"⟩
abbrev cL_speedUp : ByteArray := method_15_code
def yL_speedUp : MethodName := ⟨RL, "speedUp", "(LPegBox;[J)I"⟩
abbrev cL_dueOf : ByteArray := method_16_code
def yL_dueOf : MethodName := ⟨RL, "dueOf", "(LPegBox;I[J)I"⟩
abbrev cL_settledAt : ByteArray := method_17_code
def yL_settledAt : MethodName := ⟨RL, "settledAt", "(LPegBox;I[J)I"⟩
abbrev cL_isMet : ByteArray := method_18_code
def yL_isMet : MethodName := ⟨RL, "isMet", "(LPegBox;I[J)I"⟩
abbrev cL_law : ByteArray := code
def yL_law : MethodName := ⟨RL, "law", "([I)Z"⟩
def wsX0_init : List Cond := .code yX0_init cX0_init 1 none :: ([.methodLink RX0 3 objectInit, .instanceMethod objectInit, .code objectInit ⟨#[0xb1]⟩ 1 none, .arrayClass .int, .fieldLink RX0 9 "PegBox$ClaimBook" "kinds" "[I", .fieldLink RX0 15 "PegBox$ClaimBook" "amounts" "[I", .fieldLink RX0 18 "PegBox$ClaimBook" "offers" "[I", .fieldLink RX0 21 "PegBox$ClaimBook" "settled" "[I"] ++ wsX00)
def wsX0_settledSum : List Cond := .code yX0_settledSum cX0_settledSum 5 (some .int) :: ([.fieldLink RX0 24 "PegBox$ClaimBook" "count" "I", .fieldLink RX0 9 "PegBox$ClaimBook" "kinds" "[I", .fieldLink RX0 21 "PegBox$ClaimBook" "settled" "[I"] ++ wsX00)
def wsX0_openSum : List Cond := .code yX0_openSum cX0_openSum 3 (some .int) :: ([.fieldLink RX0 24 "PegBox$ClaimBook" "count" "I", .fieldLink RX0 21 "PegBox$ClaimBook" "settled" "[I", .fieldLink RX0 15 "PegBox$ClaimBook" "amounts" "[I"] ++ wsX00)
def wsX1_init : List Cond := .code yX1_init cX1_init 1 none :: ([.methodLink RX1 3 objectInit, .instanceMethod objectInit, .code objectInit ⟨#[0xb1]⟩ 1 none, .arrayClass .int, .fieldLink RX1 9 "PegBox$EarnOut" "targets" "[I", .fieldLink RX1 15 "PegBox$EarnOut" "amounts" "[I", .arrayClass .boolean, .fieldLink RX1 18 "PegBox$EarnOut" "met" "[Z"] ++ wsX10)
def wsX1_meet : List Cond := .code yX1_meet cX1_meet 5 (some .int) :: ([.fieldLink RX1 18 "PegBox$EarnOut" "met" "[Z", .fieldLink RX1 15 "PegBox$EarnOut" "amounts" "[I"] ++ wsX10)
def wsX1_tell : List Cond := .code yX1_tell cX1_tell 3 (some .int) :: ([.fieldLink RX1 22 "PegBox$EarnOut" "told" "I", .fieldLink RX1 26 "PegBox$EarnOut" "resultSum" "I", .fieldLink RX1 29 "PegBox$EarnOut" "targetSum" "I", .fieldLink RX1 9 "PegBox$EarnOut" "targets" "[I", .fieldLink RX1 32 "PegBox$EarnOut" "isCarried" "Z", .methodLink RX1 36 yX1_meet, .instanceMethod yX1_meet, .selects RX1 yX1_meet yX1_meet, .initialized RX1, .code yX1_meet cX1_meet 5 (some .int), .fieldLink RX1 18 "PegBox$EarnOut" "met" "[Z", .fieldLink RX1 15 "PegBox$EarnOut" "amounts" "[I"] ++ wsX10)
def wsX1_hasten : List Cond := .code yX1_hasten cX1_hasten 1 (some .int) :: ([.fieldLink RX1 40 "PegBox$EarnOut" "isSpedUp" "Z", .fieldLink RX1 22 "PegBox$EarnOut" "told" "I", .methodLink RX1 36 yX1_meet, .instanceMethod yX1_meet, .selects RX1 yX1_meet yX1_meet, .initialized RX1, .code yX1_meet cX1_meet 5 (some .int), .fieldLink RX1 18 "PegBox$EarnOut" "met" "[Z", .fieldLink RX1 15 "PegBox$EarnOut" "amounts" "[I"] ++ wsX10)
def wsX2_init : List Cond := .code yX2_init cX2_init 1 none :: ([.methodLink RX2 3 objectInit, .instanceMethod objectInit, .code objectInit ⟨#[0xb1]⟩ 1 none, .arrayClass .int, .fieldLink RX2 9 "PegBox$Escrow" "amounts" "[I", .fieldLink RX2 15 "PegBox$Escrow" "days" "[I"] ++ wsX20)
def wsX2_total : List Cond := .code yX2_total cX2_total 3 (some .int) :: ([.fieldLink RX2 9 "PegBox$Escrow" "amounts" "[I"] ++ wsX20)
def wsX2_totalAfter : List Cond := .code yX2_totalAfter cX2_totalAfter 4 (some .int) :: ([.fieldLink RX2 15 "PegBox$Escrow" "days" "[I", .fieldLink RX2 9 "PegBox$Escrow" "amounts" "[I"] ++ wsX20)
def wsX3_init : List Cond := .code yX3_init cX3_init 1 none :: ([.methodLink RX3 3 objectInit, .instanceMethod objectInit, .code objectInit ⟨#[0xb1]⟩ 1 none, .arrayClass .int, .fieldLink RX3 9 "PegBox$Kinds" "leasts" "[I", .fieldLink RX3 15 "PegBox$Kinds" "baskets" "[I", .arrayClass .boolean, .fieldLink RX3 18 "PegBox$Kinds" "wholes" "[Z", .fieldLink RX3 22 "PegBox$Kinds" "caps" "[I", .fieldLink RX3 25 "PegBox$Kinds" "lastDays" "[I"] ++ wsX30)
def wsX3_pastBasket : List Cond := .code yX3_pastBasket cX3_pastBasket 4 (some .int) :: ([.fieldLink RX3 15 "PegBox$Kinds" "baskets" "[I", .fieldLink RX3 18 "PegBox$Kinds" "wholes" "[Z"] ++ wsX30)
def wsX3_limit : List Cond := .code yX3_limit cX3_limit 3 (some .int) :: ([.fieldLink RX3 22 "PegBox$Kinds" "caps" "[I", .methodLink RX3 32 Lib.Math.min.name, .static Lib.Math.min.name, .initialized "java/lang/Math", .code Lib.Math.min.name Lib.Math.min.code 2 (some .int), .methodLink RX3 28 yX3_pastBasket, .instanceMethod yX3_pastBasket, .selects RX3 yX3_pastBasket yX3_pastBasket, .initialized RX3, .code yX3_pastBasket cX3_pastBasket 4 (some .int), .fieldLink RX3 15 "PegBox$Kinds" "baskets" "[I", .fieldLink RX3 18 "PegBox$Kinds" "wholes" "[Z"] ++ wsX30)
def wsX4_init_r1 : List Cond := [Cond.methodLink RX4 1 objectInit, Cond.instanceMethod objectInit, Cond.code objectInit ⟨#[0xb1]⟩ 1 none, Cond.classLink RX4 7 RX2, Cond.instantiable RX2 2, Cond.initialized RX2, Cond.fieldLink RX4 10 "PegBox" "escrow" "LPegBox$Escrow;", Cond.classLink RX4 16 RX3, Cond.instantiable RX3 5, Cond.initialized RX3, Cond.fieldLink RX4 19 "PegBox" "kinds" "LPegBox$Kinds;", Cond.classLink RX4 23 RX0, Cond.instantiable RX0 5, Cond.initialized RX0, Cond.fieldLink RX4 26 "PegBox" "book" "LPegBox$ClaimBook;", Cond.classLink RX4 30 RX1, Cond.instantiable RX1 8, Cond.initialized RX1, Cond.fieldLink RX4 33 "PegBox" "earnOut" "LPegBox$EarnOut;", Cond.fieldLink RX4 37 "PegBox" "day" "I", Cond.fieldLink RX4 41 "PegBox" "finalPrice" "I", Cond.methodLink RX4 9 yX2_init, Cond.instanceMethod yX2_init, Cond.code yX2_init cX2_init 1 none]
def wsX4_init_r2 : List Cond := [Cond.methodLink RX2 3 objectInit, Cond.arrayClass .int, Cond.fieldLink RX2 9 "PegBox$Escrow" "amounts" "[I", Cond.fieldLink RX2 15 "PegBox$Escrow" "days" "[I", Cond.methodLink RX4 18 yX3_init, Cond.instanceMethod yX3_init, Cond.code yX3_init cX3_init 1 none, Cond.methodLink RX3 3 objectInit, Cond.fieldLink RX3 9 "PegBox$Kinds" "leasts" "[I", Cond.fieldLink RX3 15 "PegBox$Kinds" "baskets" "[I", Cond.arrayClass .boolean, Cond.fieldLink RX3 18 "PegBox$Kinds" "wholes" "[Z", Cond.fieldLink RX3 22 "PegBox$Kinds" "caps" "[I", Cond.fieldLink RX3 25 "PegBox$Kinds" "lastDays" "[I", Cond.methodLink RX4 25 yX0_init, Cond.instanceMethod yX0_init, Cond.code yX0_init cX0_init 1 none, Cond.methodLink RX0 3 objectInit, Cond.fieldLink RX0 9 "PegBox$ClaimBook" "kinds" "[I", Cond.fieldLink RX0 15 "PegBox$ClaimBook" "amounts" "[I", Cond.fieldLink RX0 18 "PegBox$ClaimBook" "offers" "[I", Cond.fieldLink RX0 21 "PegBox$ClaimBook" "settled" "[I", Cond.methodLink RX4 32 yX1_init, Cond.instanceMethod yX1_init]
def wsX4_init_r3 : List Cond := [Cond.code yX1_init cX1_init 1 none, Cond.methodLink RX1 3 objectInit, Cond.fieldLink RX1 9 "PegBox$EarnOut" "targets" "[I", Cond.fieldLink RX1 15 "PegBox$EarnOut" "amounts" "[I", Cond.fieldLink RX1 18 "PegBox$EarnOut" "met" "[Z"]
def wsX4_init : List Cond := .code yX4_init cX4_init 1 none :: ((wsX4_init_r1 ++ (wsX4_init_r2 ++ wsX4_init_r3)) ++ wsX20 ++ wsX40 ++ wsX30 ++ wsX00 ++ wsX10)
def wsX4_checkRange : List Cond := .code yX4_checkRange cX4_checkRange 3 none :: ([.classLink RX4 204 "java/lang/IllegalArgumentException", .initialized "java/lang/IllegalArgumentException"] ++ (vx_atS RX4 208 "java/lang/IllegalArgumentException" ["java/lang/RuntimeException", "java/lang/Exception"]).filter goodWord)
def wsX4_checkNotClosed : List Cond := .code yX4_checkNotClosed cX4_checkNotClosed 1 none :: ([.classLink RX4 124 "java/lang/IllegalStateException", .initialized "java/lang/IllegalStateException", .fieldLink RX4 37 "PegBox" "day" "I"] ++ wsX40 ++ (vx_atS RX4 128 "java/lang/IllegalStateException" ["java/lang/RuntimeException", "java/lang/Exception"]).filter goodWord)
def wsX4_setPrice : List Cond := .code yX4_setPrice cX4_setPrice 4 none :: ([.constant RX4 44 (10000000), .constant RX4 49 (-10000000), .fieldLink RX4 53 "PegBox" "price" "I", .fieldLink RX4 56 "PegBox" "peg" "I", .fieldLink RX4 59 "PegBox" "collar" "I", .methodLink RX4 45 yX4_checkRange, .static yX4_checkRange, .initialized RX4, .code yX4_checkRange cX4_checkRange 3 none, .classLink RX4 204 "java/lang/IllegalArgumentException", .initialized "java/lang/IllegalArgumentException", .methodLink RX4 50 yX4_checkNotClosed, .instanceMethod yX4_checkNotClosed, .selects RX4 yX4_checkNotClosed yX4_checkNotClosed, .code yX4_checkNotClosed cX4_checkNotClosed 1 none, .classLink RX4 124 "java/lang/IllegalStateException", .initialized "java/lang/IllegalStateException", .fieldLink RX4 37 "PegBox" "day" "I"] ++ wsX40 ++ (vx_atS RX4 208 "java/lang/IllegalArgumentException" ["java/lang/RuntimeException", "java/lang/Exception"]).filter goodWord ++ (vx_atS RX4 128 "java/lang/IllegalStateException" ["java/lang/RuntimeException", "java/lang/Exception"]).filter goodWord)
def wsX4_checkNumber : List Cond := .code yX4_checkNumber cX4_checkNumber 2 none :: ([.classLink RX4 199 "java/lang/IndexOutOfBoundsException", .initialized "java/lang/IndexOutOfBoundsException"] ++ (vx_atS RX4 203 "java/lang/IndexOutOfBoundsException" ["java/lang/RuntimeException", "java/lang/Exception"]).filter goodWord)
def wsX4_setPart : List Cond := .code yX4_setPart cX4_setPart 4 none :: ([.constant RX4 44 (10000000), .fieldLink RX4 10 "PegBox" "escrow" "LPegBox$Escrow;", .fieldLink RX4 66 "PegBox$Escrow" "amounts" "[I", .fieldLink RX4 70 "PegBox$Escrow" "days" "[I", .methodLink RX4 62 yX4_checkNumber, .static yX4_checkNumber, .initialized RX4, .code yX4_checkNumber cX4_checkNumber 2 none, .classLink RX4 199 "java/lang/IndexOutOfBoundsException", .initialized "java/lang/IndexOutOfBoundsException", .methodLink RX4 45 yX4_checkRange, .static yX4_checkRange, .code yX4_checkRange cX4_checkRange 3 none, .classLink RX4 204 "java/lang/IllegalArgumentException", .initialized "java/lang/IllegalArgumentException", .methodLink RX4 50 yX4_checkNotClosed, .instanceMethod yX4_checkNotClosed, .selects RX4 yX4_checkNotClosed yX4_checkNotClosed, .code yX4_checkNotClosed cX4_checkNotClosed 1 none, .classLink RX4 124 "java/lang/IllegalStateException", .initialized "java/lang/IllegalStateException", .fieldLink RX4 37 "PegBox" "day" "I"] ++ wsX40 ++ wsX20 ++ (vx_atS RX4 203 "java/lang/IndexOutOfBoundsException" ["java/lang/RuntimeException", "java/lang/Exception"]).filter goodWord ++ (vx_atS RX4 208 "java/lang/IllegalArgumentException" ["java/lang/RuntimeException", "java/lang/Exception"]).filter goodWord ++ (vx_atS RX4 128 "java/lang/IllegalStateException" ["java/lang/RuntimeException", "java/lang/Exception"]).filter goodWord)
def wsX4_setKind_r1 : List Cond := [Cond.constant RX4 44 (10000000), Cond.constant RX4 73 (100000000), Cond.fieldLink RX4 19 "PegBox" "kinds" "LPegBox$Kinds;", Cond.fieldLink RX4 74 "PegBox$Kinds" "leasts" "[I", Cond.fieldLink RX4 77 "PegBox$Kinds" "baskets" "[I", Cond.fieldLink RX4 80 "PegBox$Kinds" "wholes" "[Z", Cond.fieldLink RX4 84 "PegBox$Kinds" "caps" "[I", Cond.fieldLink RX4 87 "PegBox$Kinds" "lastDays" "[I", Cond.methodLink RX4 62 yX4_checkNumber, Cond.static yX4_checkNumber, Cond.initialized RX4, Cond.code yX4_checkNumber cX4_checkNumber 2 none, Cond.classLink RX4 199 "java/lang/IndexOutOfBoundsException", Cond.initialized "java/lang/IndexOutOfBoundsException", Cond.methodLink RX4 45 yX4_checkRange, Cond.static yX4_checkRange, Cond.code yX4_checkRange cX4_checkRange 3 none, Cond.classLink RX4 204 "java/lang/IllegalArgumentException", Cond.initialized "java/lang/IllegalArgumentException", Cond.methodLink RX4 50 yX4_checkNotClosed, Cond.instanceMethod yX4_checkNotClosed, Cond.selects RX4 yX4_checkNotClosed yX4_checkNotClosed, Cond.code yX4_checkNotClosed cX4_checkNotClosed 1 none, Cond.classLink RX4 124 "java/lang/IllegalStateException"]
def wsX4_setKind_r2 : List Cond := [Cond.initialized "java/lang/IllegalStateException", Cond.fieldLink RX4 37 "PegBox" "day" "I"]
def wsX4_setKind : List Cond := .code yX4_setKind cX4_setKind 7 none :: ((wsX4_setKind_r1 ++ wsX4_setKind_r2) ++ wsX40 ++ wsX30 ++ (vx_atS RX4 203 "java/lang/IndexOutOfBoundsException" ["java/lang/RuntimeException", "java/lang/Exception"]).filter goodWord ++ (vx_atS RX4 208 "java/lang/IllegalArgumentException" ["java/lang/RuntimeException", "java/lang/Exception"]).filter goodWord ++ (vx_atS RX4 128 "java/lang/IllegalStateException" ["java/lang/RuntimeException", "java/lang/Exception"]).filter goodWord)
def wsX4_setYear : List Cond := .code yX4_setYear cX4_setYear 4 none :: ([.constant RX4 44 (10000000), .fieldLink RX4 33 "PegBox" "earnOut" "LPegBox$EarnOut;", .fieldLink RX4 90 "PegBox$EarnOut" "targets" "[I", .fieldLink RX4 93 "PegBox$EarnOut" "amounts" "[I", .methodLink RX4 62 yX4_checkNumber, .static yX4_checkNumber, .initialized RX4, .code yX4_checkNumber cX4_checkNumber 2 none, .classLink RX4 199 "java/lang/IndexOutOfBoundsException", .initialized "java/lang/IndexOutOfBoundsException", .methodLink RX4 45 yX4_checkRange, .static yX4_checkRange, .code yX4_checkRange cX4_checkRange 3 none, .classLink RX4 204 "java/lang/IllegalArgumentException", .initialized "java/lang/IllegalArgumentException", .methodLink RX4 50 yX4_checkNotClosed, .instanceMethod yX4_checkNotClosed, .selects RX4 yX4_checkNotClosed yX4_checkNotClosed, .code yX4_checkNotClosed cX4_checkNotClosed 1 none, .classLink RX4 124 "java/lang/IllegalStateException", .initialized "java/lang/IllegalStateException", .fieldLink RX4 37 "PegBox" "day" "I"] ++ wsX40 ++ wsX10 ++ (vx_atS RX4 203 "java/lang/IndexOutOfBoundsException" ["java/lang/RuntimeException", "java/lang/Exception"]).filter goodWord ++ (vx_atS RX4 208 "java/lang/IllegalArgumentException" ["java/lang/RuntimeException", "java/lang/Exception"]).filter goodWord ++ (vx_atS RX4 128 "java/lang/IllegalStateException" ["java/lang/RuntimeException", "java/lang/Exception"]).filter goodWord)
def wsX4_setCarry : List Cond := .code yX4_setCarry cX4_setCarry 2 none :: ([.fieldLink RX4 33 "PegBox" "earnOut" "LPegBox$EarnOut;", .fieldLink RX4 94 "PegBox$EarnOut" "isCarried" "Z", .methodLink RX4 50 yX4_checkNotClosed, .instanceMethod yX4_checkNotClosed, .selects RX4 yX4_checkNotClosed yX4_checkNotClosed, .initialized RX4, .code yX4_checkNotClosed cX4_checkNotClosed 1 none, .classLink RX4 124 "java/lang/IllegalStateException", .initialized "java/lang/IllegalStateException", .fieldLink RX4 37 "PegBox" "day" "I"] ++ wsX40 ++ wsX10 ++ (vx_atS RX4 128 "java/lang/IllegalStateException" ["java/lang/RuntimeException", "java/lang/Exception"]).filter goodWord)
def wsX4_beyondCollar : List Cond := .code yX4_beyondCollar cX4_beyondCollar 2 (some .int) :: ([.fieldLink RX4 59 "PegBox" "collar" "I"] ++ wsX40)
def wsX4_close_r1 : List Cond := [Cond.constant RX4 44 (10000000), Cond.constant RX4 49 (-10000000), Cond.fieldLink RX4 37 "PegBox" "day" "I", Cond.fieldLink RX4 53 "PegBox" "price" "I", Cond.fieldLink RX4 56 "PegBox" "peg" "I", Cond.methodLink RX4 102 Lib.Math.max.name, Cond.static Lib.Math.max.name, Cond.initialized "java/lang/Math", Cond.code Lib.Math.max.name Lib.Math.max.code 2 (some .int), Cond.fieldLink RX4 41 "PegBox" "finalPrice" "I", Cond.fieldLink RX4 10 "PegBox" "escrow" "LPegBox$Escrow;", Cond.methodLink RX4 112 Lib.Math.min.name, Cond.static Lib.Math.min.name, Cond.code Lib.Math.min.name Lib.Math.min.code 2 (some .int), Cond.fieldLink RX4 115 "PegBox" "held" "I", Cond.fieldLink RX4 118 "PegBox" "paid" "I", Cond.methodLink RX4 45 yX4_checkRange, Cond.static yX4_checkRange, Cond.initialized RX4, Cond.code yX4_checkRange cX4_checkRange 3 none, Cond.classLink RX4 204 "java/lang/IllegalArgumentException", Cond.initialized "java/lang/IllegalArgumentException", Cond.methodLink RX4 50 yX4_checkNotClosed, Cond.instanceMethod yX4_checkNotClosed]
def wsX4_close_r2 : List Cond := [Cond.selects RX4 yX4_checkNotClosed yX4_checkNotClosed, Cond.code yX4_checkNotClosed cX4_checkNotClosed 1 none, Cond.classLink RX4 124 "java/lang/IllegalStateException", Cond.initialized "java/lang/IllegalStateException", Cond.methodLink RX4 98 yX4_beyondCollar, Cond.instanceMethod yX4_beyondCollar, Cond.selects RX4 yX4_beyondCollar yX4_beyondCollar, Cond.code yX4_beyondCollar cX4_beyondCollar 2 (some .int), Cond.fieldLink RX4 59 "PegBox" "collar" "I", Cond.methodLink RX4 108 yX2_total, Cond.instanceMethod yX2_total, Cond.selects RX2 yX2_total yX2_total, Cond.initialized RX2, Cond.code yX2_total cX2_total 3 (some .int), Cond.fieldLink RX2 9 "PegBox$Escrow" "amounts" "[I"]
def wsX4_close : List Cond := .code yX4_close cX4_close 4 (some .int) :: ((wsX4_close_r1 ++ wsX4_close_r2) ++ wsX40 ++ wsX20 ++ (vx_atS RX4 208 "java/lang/IllegalArgumentException" ["java/lang/RuntimeException", "java/lang/Exception"]).filter goodWord ++ (vx_atS RX4 128 "java/lang/IllegalStateException" ["java/lang/RuntimeException", "java/lang/Exception"]).filter goodWord)
def wsX4_checkClosed : List Cond := .code yX4_checkClosed cX4_checkClosed 1 none :: ([.classLink RX4 124 "java/lang/IllegalStateException", .initialized "java/lang/IllegalStateException", .fieldLink RX4 37 "PegBox" "day" "I"] ++ wsX40 ++ (vx_atS RX4 128 "java/lang/IllegalStateException" ["java/lang/RuntimeException", "java/lang/Exception"]).filter goodWord)
def wsX4_free : List Cond := .code yX4_free cX4_free 2 none :: ([.fieldLink RX4 10 "PegBox" "escrow" "LPegBox$Escrow;", .fieldLink RX4 37 "PegBox" "day" "I", .fieldLink RX4 26 "PegBox" "book" "LPegBox$ClaimBook;", .fieldLink RX4 115 "PegBox" "held" "I", .fieldLink RX4 118 "PegBox" "paid" "I", .methodLink RX4 221 yX2_totalAfter, .instanceMethod yX2_totalAfter, .selects RX2 yX2_totalAfter yX2_totalAfter, .initialized RX2, .code yX2_totalAfter cX2_totalAfter 4 (some .int), .fieldLink RX2 15 "PegBox$Escrow" "days" "[I", .fieldLink RX2 9 "PegBox$Escrow" "amounts" "[I", .methodLink RX4 224 yX0_openSum, .instanceMethod yX0_openSum, .selects RX0 yX0_openSum yX0_openSum, .initialized RX0, .code yX0_openSum cX0_openSum 3 (some .int), .fieldLink RX0 24 "PegBox$ClaimBook" "count" "I", .fieldLink RX0 21 "PegBox$ClaimBook" "settled" "[I", .fieldLink RX0 15 "PegBox$ClaimBook" "amounts" "[I"] ++ wsX40 ++ wsX20 ++ wsX00)
def wsX4_advance_r1 : List Cond := [Cond.classLink RX4 124 "java/lang/IllegalStateException", Cond.initialized "java/lang/IllegalStateException", Cond.fieldLink RX4 37 "PegBox" "day" "I", Cond.methodLink RX4 45 yX4_checkRange, Cond.static yX4_checkRange, Cond.initialized RX4, Cond.code yX4_checkRange cX4_checkRange 3 none, Cond.classLink RX4 204 "java/lang/IllegalArgumentException", Cond.initialized "java/lang/IllegalArgumentException", Cond.methodLink RX4 121 yX4_checkClosed, Cond.instanceMethod yX4_checkClosed, Cond.selects RX4 yX4_checkClosed yX4_checkClosed, Cond.code yX4_checkClosed cX4_checkClosed 1 none, Cond.methodLink RX4 131 yX4_free, Cond.instanceMethod yX4_free, Cond.selects RX4 yX4_free yX4_free, Cond.code yX4_free cX4_free 2 none, Cond.fieldLink RX4 10 "PegBox" "escrow" "LPegBox$Escrow;", Cond.fieldLink RX4 26 "PegBox" "book" "LPegBox$ClaimBook;", Cond.fieldLink RX4 115 "PegBox" "held" "I", Cond.fieldLink RX4 118 "PegBox" "paid" "I", Cond.methodLink RX4 221 yX2_totalAfter, Cond.instanceMethod yX2_totalAfter, Cond.selects RX2 yX2_totalAfter yX2_totalAfter]
def wsX4_advance_r2 : List Cond := [Cond.initialized RX2, Cond.code yX2_totalAfter cX2_totalAfter 4 (some .int), Cond.fieldLink RX2 15 "PegBox$Escrow" "days" "[I", Cond.fieldLink RX2 9 "PegBox$Escrow" "amounts" "[I", Cond.methodLink RX4 224 yX0_openSum, Cond.instanceMethod yX0_openSum, Cond.selects RX0 yX0_openSum yX0_openSum, Cond.initialized RX0, Cond.code yX0_openSum cX0_openSum 3 (some .int), Cond.fieldLink RX0 24 "PegBox$ClaimBook" "count" "I", Cond.fieldLink RX0 21 "PegBox$ClaimBook" "settled" "[I", Cond.fieldLink RX0 15 "PegBox$ClaimBook" "amounts" "[I"]
def wsX4_advance : List Cond := .code yX4_advance cX4_advance 2 (some .int) :: ((wsX4_advance_r1 ++ wsX4_advance_r2) ++ wsX40 ++ wsX20 ++ wsX00 ++ (vx_atS RX4 128 "java/lang/IllegalStateException" ["java/lang/RuntimeException", "java/lang/Exception"]).filter goodWord ++ (vx_atS RX4 208 "java/lang/IllegalArgumentException" ["java/lang/RuntimeException", "java/lang/Exception"]).filter goodWord)
def wsX4_claim_r1 : List Cond := [Cond.classLink RX4 124 "java/lang/IllegalStateException", Cond.initialized "java/lang/IllegalStateException", Cond.constant RX4 44 (10000000), Cond.fieldLink RX4 37 "PegBox" "day" "I", Cond.fieldLink RX4 19 "PegBox" "kinds" "LPegBox$Kinds;", Cond.fieldLink RX4 87 "PegBox$Kinds" "lastDays" "[I", Cond.fieldLink RX4 26 "PegBox" "book" "LPegBox$ClaimBook;", Cond.fieldLink RX4 136 "PegBox$ClaimBook" "count" "I", Cond.fieldLink RX4 141 "PegBox$ClaimBook" "kinds" "[I", Cond.fieldLink RX4 143 "PegBox$ClaimBook" "amounts" "[I", Cond.fieldLink RX4 144 "PegBox$ClaimBook" "offers" "[I", Cond.fieldLink RX4 147 "PegBox$ClaimBook" "settled" "[I", Cond.methodLink RX4 62 yX4_checkNumber, Cond.static yX4_checkNumber, Cond.initialized RX4, Cond.code yX4_checkNumber cX4_checkNumber 2 none, Cond.classLink RX4 199 "java/lang/IndexOutOfBoundsException", Cond.initialized "java/lang/IndexOutOfBoundsException", Cond.methodLink RX4 45 yX4_checkRange, Cond.static yX4_checkRange, Cond.code yX4_checkRange cX4_checkRange 3 none, Cond.classLink RX4 204 "java/lang/IllegalArgumentException", Cond.initialized "java/lang/IllegalArgumentException", Cond.methodLink RX4 121 yX4_checkClosed]
def wsX4_claim_r2 : List Cond := [Cond.instanceMethod yX4_checkClosed, Cond.selects RX4 yX4_checkClosed yX4_checkClosed, Cond.code yX4_checkClosed cX4_checkClosed 1 none]
def wsX4_claim : List Cond := .code yX4_claim cX4_claim 4 (some .int) :: ((wsX4_claim_r1 ++ wsX4_claim_r2) ++ wsX40 ++ wsX30 ++ wsX00 ++ (vx_atS RX4 128 "java/lang/IllegalStateException" ["java/lang/RuntimeException", "java/lang/Exception"]).filter goodWord ++ (vx_atS RX4 203 "java/lang/IndexOutOfBoundsException" ["java/lang/RuntimeException", "java/lang/Exception"]).filter goodWord ++ (vx_atS RX4 208 "java/lang/IllegalArgumentException" ["java/lang/RuntimeException", "java/lang/Exception"]).filter goodWord)
def wsX4_checkOpen : List Cond := .code yX4_checkOpen cX4_checkOpen 1 none :: ([.classLink RX4 124 "java/lang/IllegalStateException", .initialized "java/lang/IllegalStateException"] ++ (vx_atS RX4 128 "java/lang/IllegalStateException" ["java/lang/RuntimeException", "java/lang/Exception"]).filter goodWord)
def wsX4_offer : List Cond := .code yX4_offer cX4_offer 4 (some .int) :: ([.fieldLink RX4 26 "PegBox" "book" "LPegBox$ClaimBook;", .fieldLink RX4 136 "PegBox$ClaimBook" "count" "I", .fieldLink RX4 147 "PegBox$ClaimBook" "settled" "[I", .fieldLink RX4 143 "PegBox$ClaimBook" "amounts" "[I", .fieldLink RX4 144 "PegBox$ClaimBook" "offers" "[I", .methodLink RX4 62 yX4_checkNumber, .static yX4_checkNumber, .initialized RX4, .code yX4_checkNumber cX4_checkNumber 2 none, .classLink RX4 199 "java/lang/IndexOutOfBoundsException", .initialized "java/lang/IndexOutOfBoundsException", .methodLink RX4 150 yX4_checkOpen, .static yX4_checkOpen, .code yX4_checkOpen cX4_checkOpen 1 none, .classLink RX4 124 "java/lang/IllegalStateException", .initialized "java/lang/IllegalStateException", .methodLink RX4 45 yX4_checkRange, .static yX4_checkRange, .code yX4_checkRange cX4_checkRange 3 none, .classLink RX4 204 "java/lang/IllegalArgumentException", .initialized "java/lang/IllegalArgumentException"] ++ wsX40 ++ wsX00 ++ (vx_atS RX4 203 "java/lang/IndexOutOfBoundsException" ["java/lang/RuntimeException", "java/lang/Exception"]).filter goodWord ++ (vx_atS RX4 128 "java/lang/IllegalStateException" ["java/lang/RuntimeException", "java/lang/Exception"]).filter goodWord ++ (vx_atS RX4 208 "java/lang/IllegalArgumentException" ["java/lang/RuntimeException", "java/lang/Exception"]).filter goodWord)
def wsX4_dueOfKind_r1 : List Cond := [Cond.fieldLink RX4 19 "PegBox" "kinds" "LPegBox$Kinds;", Cond.fieldLink RX4 26 "PegBox" "book" "LPegBox$ClaimBook;", Cond.fieldLink RX4 74 "PegBox$Kinds" "leasts" "[I", Cond.methodLink RX4 215 yX0_settledSum, Cond.instanceMethod yX0_settledSum, Cond.selects RX0 yX0_settledSum yX0_settledSum, Cond.initialized RX0, Cond.code yX0_settledSum cX0_settledSum 5 (some .int), Cond.fieldLink RX0 24 "PegBox$ClaimBook" "count" "I", Cond.fieldLink RX0 9 "PegBox$ClaimBook" "kinds" "[I", Cond.fieldLink RX0 21 "PegBox$ClaimBook" "settled" "[I", Cond.methodLink RX4 218 yX3_limit, Cond.instanceMethod yX3_limit, Cond.selects RX3 yX3_limit yX3_limit, Cond.initialized RX3, Cond.code yX3_limit cX3_limit 3 (some .int), Cond.fieldLink RX3 22 "PegBox$Kinds" "caps" "[I", Cond.methodLink RX3 32 Lib.Math.min.name, Cond.static Lib.Math.min.name, Cond.initialized "java/lang/Math", Cond.code Lib.Math.min.name Lib.Math.min.code 2 (some .int), Cond.methodLink RX3 28 yX3_pastBasket, Cond.instanceMethod yX3_pastBasket, Cond.selects RX3 yX3_pastBasket yX3_pastBasket]
def wsX4_dueOfKind_r2 : List Cond := [Cond.code yX3_pastBasket cX3_pastBasket 4 (some .int), Cond.fieldLink RX3 15 "PegBox$Kinds" "baskets" "[I", Cond.fieldLink RX3 18 "PegBox$Kinds" "wholes" "[Z"]
def wsX4_dueOfKind : List Cond := .code yX4_dueOfKind cX4_dueOfKind 2 (some .int) :: ((wsX4_dueOfKind_r1 ++ wsX4_dueOfKind_r2) ++ wsX40 ++ wsX30 ++ wsX00)
def wsX4_dueInAll_r1 : List Cond := [Cond.methodLink RX4 193 yX4_dueOfKind, Cond.instanceMethod yX4_dueOfKind, Cond.selects RX4 yX4_dueOfKind yX4_dueOfKind, Cond.initialized RX4, Cond.code yX4_dueOfKind cX4_dueOfKind 2 (some .int), Cond.fieldLink RX4 19 "PegBox" "kinds" "LPegBox$Kinds;", Cond.fieldLink RX4 26 "PegBox" "book" "LPegBox$ClaimBook;", Cond.fieldLink RX4 74 "PegBox$Kinds" "leasts" "[I", Cond.methodLink RX4 215 yX0_settledSum, Cond.instanceMethod yX0_settledSum, Cond.selects RX0 yX0_settledSum yX0_settledSum, Cond.initialized RX0, Cond.code yX0_settledSum cX0_settledSum 5 (some .int), Cond.fieldLink RX0 24 "PegBox$ClaimBook" "count" "I", Cond.fieldLink RX0 9 "PegBox$ClaimBook" "kinds" "[I", Cond.fieldLink RX0 21 "PegBox$ClaimBook" "settled" "[I", Cond.methodLink RX4 218 yX3_limit, Cond.instanceMethod yX3_limit, Cond.selects RX3 yX3_limit yX3_limit, Cond.initialized RX3, Cond.code yX3_limit cX3_limit 3 (some .int), Cond.fieldLink RX3 22 "PegBox$Kinds" "caps" "[I", Cond.methodLink RX3 32 Lib.Math.min.name, Cond.static Lib.Math.min.name]
def wsX4_dueInAll_r2 : List Cond := [Cond.initialized "java/lang/Math", Cond.code Lib.Math.min.name Lib.Math.min.code 2 (some .int), Cond.methodLink RX3 28 yX3_pastBasket, Cond.instanceMethod yX3_pastBasket, Cond.selects RX3 yX3_pastBasket yX3_pastBasket, Cond.code yX3_pastBasket cX3_pastBasket 4 (some .int), Cond.fieldLink RX3 15 "PegBox$Kinds" "baskets" "[I", Cond.fieldLink RX3 18 "PegBox$Kinds" "wholes" "[Z"]
def wsX4_dueInAll : List Cond := .code yX4_dueInAll cX4_dueInAll 3 (some .int) :: ((wsX4_dueInAll_r1 ++ wsX4_dueInAll_r2) ++ wsX40 ++ wsX30 ++ wsX00)
def wsX4_leftOutstanding_r1 : List Cond := [Cond.fieldLink RX4 178 "PegBox" "returned" "I", Cond.fieldLink RX4 181 "PegBox" "setOff" "I", Cond.methodLink RX4 187 yX4_dueInAll, Cond.instanceMethod yX4_dueInAll, Cond.selects RX4 yX4_dueInAll yX4_dueInAll, Cond.initialized RX4, Cond.code yX4_dueInAll cX4_dueInAll 3 (some .int), Cond.methodLink RX4 193 yX4_dueOfKind, Cond.instanceMethod yX4_dueOfKind, Cond.selects RX4 yX4_dueOfKind yX4_dueOfKind, Cond.code yX4_dueOfKind cX4_dueOfKind 2 (some .int), Cond.fieldLink RX4 19 "PegBox" "kinds" "LPegBox$Kinds;", Cond.fieldLink RX4 26 "PegBox" "book" "LPegBox$ClaimBook;", Cond.fieldLink RX4 74 "PegBox$Kinds" "leasts" "[I", Cond.methodLink RX4 215 yX0_settledSum, Cond.instanceMethod yX0_settledSum, Cond.selects RX0 yX0_settledSum yX0_settledSum, Cond.initialized RX0, Cond.code yX0_settledSum cX0_settledSum 5 (some .int), Cond.fieldLink RX0 24 "PegBox$ClaimBook" "count" "I", Cond.fieldLink RX0 9 "PegBox$ClaimBook" "kinds" "[I", Cond.fieldLink RX0 21 "PegBox$ClaimBook" "settled" "[I", Cond.methodLink RX4 218 yX3_limit, Cond.instanceMethod yX3_limit]
def wsX4_leftOutstanding_r2 : List Cond := [Cond.selects RX3 yX3_limit yX3_limit, Cond.initialized RX3, Cond.code yX3_limit cX3_limit 3 (some .int), Cond.fieldLink RX3 22 "PegBox$Kinds" "caps" "[I", Cond.methodLink RX3 32 Lib.Math.min.name, Cond.static Lib.Math.min.name, Cond.initialized "java/lang/Math", Cond.code Lib.Math.min.name Lib.Math.min.code 2 (some .int), Cond.methodLink RX3 28 yX3_pastBasket, Cond.instanceMethod yX3_pastBasket, Cond.selects RX3 yX3_pastBasket yX3_pastBasket, Cond.code yX3_pastBasket cX3_pastBasket 4 (some .int), Cond.fieldLink RX3 15 "PegBox$Kinds" "baskets" "[I", Cond.fieldLink RX3 18 "PegBox$Kinds" "wholes" "[Z"]
def wsX4_leftOutstanding : List Cond := .code yX4_leftOutstanding cX4_leftOutstanding 1 (some .int) :: ((wsX4_leftOutstanding_r1 ++ wsX4_leftOutstanding_r2) ++ wsX40 ++ wsX30 ++ wsX00)
def wsX4_payOut_r1 : List Cond := [Cond.fieldLink RX4 115 "PegBox" "held" "I", Cond.methodLink RX4 112 Lib.Math.min.name, Cond.static Lib.Math.min.name, Cond.initialized "java/lang/Math", Cond.code Lib.Math.min.name Lib.Math.min.code 2 (some .int), Cond.fieldLink RX4 178 "PegBox" "returned" "I", Cond.methodLink RX4 190 yX4_leftOutstanding, Cond.instanceMethod yX4_leftOutstanding, Cond.selects RX4 yX4_leftOutstanding yX4_leftOutstanding, Cond.initialized RX4, Cond.code yX4_leftOutstanding cX4_leftOutstanding 1 (some .int), Cond.fieldLink RX4 181 "PegBox" "setOff" "I", Cond.methodLink RX4 187 yX4_dueInAll, Cond.instanceMethod yX4_dueInAll, Cond.selects RX4 yX4_dueInAll yX4_dueInAll, Cond.code yX4_dueInAll cX4_dueInAll 3 (some .int), Cond.methodLink RX4 193 yX4_dueOfKind, Cond.instanceMethod yX4_dueOfKind, Cond.selects RX4 yX4_dueOfKind yX4_dueOfKind, Cond.code yX4_dueOfKind cX4_dueOfKind 2 (some .int), Cond.fieldLink RX4 19 "PegBox" "kinds" "LPegBox$Kinds;", Cond.fieldLink RX4 26 "PegBox" "book" "LPegBox$ClaimBook;", Cond.fieldLink RX4 74 "PegBox$Kinds" "leasts" "[I", Cond.methodLink RX4 215 yX0_settledSum]
def wsX4_payOut_r2 : List Cond := [Cond.instanceMethod yX0_settledSum, Cond.selects RX0 yX0_settledSum yX0_settledSum, Cond.initialized RX0, Cond.code yX0_settledSum cX0_settledSum 5 (some .int), Cond.fieldLink RX0 24 "PegBox$ClaimBook" "count" "I", Cond.fieldLink RX0 9 "PegBox$ClaimBook" "kinds" "[I", Cond.fieldLink RX0 21 "PegBox$ClaimBook" "settled" "[I", Cond.methodLink RX4 218 yX3_limit, Cond.instanceMethod yX3_limit, Cond.selects RX3 yX3_limit yX3_limit, Cond.initialized RX3, Cond.code yX3_limit cX3_limit 3 (some .int), Cond.fieldLink RX3 22 "PegBox$Kinds" "caps" "[I", Cond.methodLink RX3 32 Lib.Math.min.name, Cond.methodLink RX3 28 yX3_pastBasket, Cond.instanceMethod yX3_pastBasket, Cond.selects RX3 yX3_pastBasket yX3_pastBasket, Cond.code yX3_pastBasket cX3_pastBasket 4 (some .int), Cond.fieldLink RX3 15 "PegBox$Kinds" "baskets" "[I", Cond.fieldLink RX3 18 "PegBox$Kinds" "wholes" "[Z", Cond.methodLink RX4 131 yX4_free, Cond.instanceMethod yX4_free, Cond.selects RX4 yX4_free yX4_free, Cond.code yX4_free cX4_free 2 none]
def wsX4_payOut_r3 : List Cond := [Cond.fieldLink RX4 10 "PegBox" "escrow" "LPegBox$Escrow;", Cond.fieldLink RX4 37 "PegBox" "day" "I", Cond.fieldLink RX4 118 "PegBox" "paid" "I", Cond.methodLink RX4 221 yX2_totalAfter, Cond.instanceMethod yX2_totalAfter, Cond.selects RX2 yX2_totalAfter yX2_totalAfter, Cond.initialized RX2, Cond.code yX2_totalAfter cX2_totalAfter 4 (some .int), Cond.fieldLink RX2 15 "PegBox$Escrow" "days" "[I", Cond.fieldLink RX2 9 "PegBox$Escrow" "amounts" "[I", Cond.methodLink RX4 224 yX0_openSum, Cond.instanceMethod yX0_openSum, Cond.selects RX0 yX0_openSum yX0_openSum, Cond.code yX0_openSum cX0_openSum 3 (some .int), Cond.fieldLink RX0 15 "PegBox$ClaimBook" "amounts" "[I"]
def wsX4_payOut : List Cond := .code yX4_payOut cX4_payOut 2 (some .int) :: ((wsX4_payOut_r1 ++ (wsX4_payOut_r2 ++ wsX4_payOut_r3)) ++ wsX40 ++ wsX30 ++ wsX00 ++ wsX20)
def wsX4_agree_r1 : List Cond := [Cond.classLink RX4 124 "java/lang/IllegalStateException", Cond.initialized "java/lang/IllegalStateException", Cond.fieldLink RX4 26 "PegBox" "book" "LPegBox$ClaimBook;", Cond.fieldLink RX4 136 "PegBox$ClaimBook" "count" "I", Cond.fieldLink RX4 147 "PegBox$ClaimBook" "settled" "[I", Cond.fieldLink RX4 144 "PegBox$ClaimBook" "offers" "[I", Cond.methodLink RX4 62 yX4_checkNumber, Cond.static yX4_checkNumber, Cond.initialized RX4, Cond.code yX4_checkNumber cX4_checkNumber 2 none, Cond.classLink RX4 199 "java/lang/IndexOutOfBoundsException", Cond.initialized "java/lang/IndexOutOfBoundsException", Cond.methodLink RX4 150 yX4_checkOpen, Cond.static yX4_checkOpen, Cond.code yX4_checkOpen cX4_checkOpen 1 none, Cond.methodLink RX4 156 yX4_payOut, Cond.instanceMethod yX4_payOut, Cond.selects RX4 yX4_payOut yX4_payOut, Cond.code yX4_payOut cX4_payOut 2 (some .int), Cond.fieldLink RX4 115 "PegBox" "held" "I", Cond.methodLink RX4 112 Lib.Math.min.name, Cond.static Lib.Math.min.name, Cond.initialized "java/lang/Math", Cond.code Lib.Math.min.name Lib.Math.min.code 2 (some .int)]
def wsX4_agree_r2 : List Cond := [Cond.fieldLink RX4 178 "PegBox" "returned" "I", Cond.methodLink RX4 190 yX4_leftOutstanding, Cond.instanceMethod yX4_leftOutstanding, Cond.selects RX4 yX4_leftOutstanding yX4_leftOutstanding, Cond.code yX4_leftOutstanding cX4_leftOutstanding 1 (some .int), Cond.fieldLink RX4 181 "PegBox" "setOff" "I", Cond.methodLink RX4 187 yX4_dueInAll, Cond.instanceMethod yX4_dueInAll, Cond.selects RX4 yX4_dueInAll yX4_dueInAll, Cond.code yX4_dueInAll cX4_dueInAll 3 (some .int), Cond.methodLink RX4 193 yX4_dueOfKind, Cond.instanceMethod yX4_dueOfKind, Cond.selects RX4 yX4_dueOfKind yX4_dueOfKind, Cond.code yX4_dueOfKind cX4_dueOfKind 2 (some .int), Cond.fieldLink RX4 19 "PegBox" "kinds" "LPegBox$Kinds;", Cond.fieldLink RX4 74 "PegBox$Kinds" "leasts" "[I", Cond.methodLink RX4 215 yX0_settledSum, Cond.instanceMethod yX0_settledSum, Cond.selects RX0 yX0_settledSum yX0_settledSum, Cond.initialized RX0, Cond.code yX0_settledSum cX0_settledSum 5 (some .int), Cond.fieldLink RX0 24 "PegBox$ClaimBook" "count" "I", Cond.fieldLink RX0 9 "PegBox$ClaimBook" "kinds" "[I", Cond.fieldLink RX0 21 "PegBox$ClaimBook" "settled" "[I"]
def wsX4_agree_r3 : List Cond := [Cond.methodLink RX4 218 yX3_limit, Cond.instanceMethod yX3_limit, Cond.selects RX3 yX3_limit yX3_limit, Cond.initialized RX3, Cond.code yX3_limit cX3_limit 3 (some .int), Cond.fieldLink RX3 22 "PegBox$Kinds" "caps" "[I", Cond.methodLink RX3 32 Lib.Math.min.name, Cond.methodLink RX3 28 yX3_pastBasket, Cond.instanceMethod yX3_pastBasket, Cond.selects RX3 yX3_pastBasket yX3_pastBasket, Cond.code yX3_pastBasket cX3_pastBasket 4 (some .int), Cond.fieldLink RX3 15 "PegBox$Kinds" "baskets" "[I", Cond.fieldLink RX3 18 "PegBox$Kinds" "wholes" "[Z", Cond.methodLink RX4 131 yX4_free, Cond.instanceMethod yX4_free, Cond.selects RX4 yX4_free yX4_free, Cond.code yX4_free cX4_free 2 none, Cond.fieldLink RX4 10 "PegBox" "escrow" "LPegBox$Escrow;", Cond.fieldLink RX4 37 "PegBox" "day" "I", Cond.fieldLink RX4 118 "PegBox" "paid" "I", Cond.methodLink RX4 221 yX2_totalAfter, Cond.instanceMethod yX2_totalAfter, Cond.selects RX2 yX2_totalAfter yX2_totalAfter, Cond.initialized RX2]
def wsX4_agree_r4 : List Cond := [Cond.code yX2_totalAfter cX2_totalAfter 4 (some .int), Cond.fieldLink RX2 15 "PegBox$Escrow" "days" "[I", Cond.fieldLink RX2 9 "PegBox$Escrow" "amounts" "[I", Cond.methodLink RX4 224 yX0_openSum, Cond.instanceMethod yX0_openSum, Cond.selects RX0 yX0_openSum yX0_openSum, Cond.code yX0_openSum cX0_openSum 3 (some .int), Cond.fieldLink RX0 15 "PegBox$ClaimBook" "amounts" "[I"]
def wsX4_agree : List Cond := .code yX4_agree cX4_agree 3 (some .int) :: ((wsX4_agree_r1 ++ (wsX4_agree_r2 ++ (wsX4_agree_r3 ++ wsX4_agree_r4))) ++ wsX40 ++ wsX00 ++ wsX30 ++ wsX20 ++ (vx_atS RX4 128 "java/lang/IllegalStateException" ["java/lang/RuntimeException", "java/lang/Exception"]).filter goodWord ++ (vx_atS RX4 203 "java/lang/IndexOutOfBoundsException" ["java/lang/RuntimeException", "java/lang/Exception"]).filter goodWord)
def wsX4_decide_r1 : List Cond := [Cond.fieldLink RX4 26 "PegBox" "book" "LPegBox$ClaimBook;", Cond.fieldLink RX4 136 "PegBox$ClaimBook" "count" "I", Cond.fieldLink RX4 147 "PegBox$ClaimBook" "settled" "[I", Cond.fieldLink RX4 144 "PegBox$ClaimBook" "offers" "[I", Cond.fieldLink RX4 143 "PegBox$ClaimBook" "amounts" "[I", Cond.methodLink RX4 62 yX4_checkNumber, Cond.static yX4_checkNumber, Cond.initialized RX4, Cond.code yX4_checkNumber cX4_checkNumber 2 none, Cond.classLink RX4 199 "java/lang/IndexOutOfBoundsException", Cond.initialized "java/lang/IndexOutOfBoundsException", Cond.methodLink RX4 150 yX4_checkOpen, Cond.static yX4_checkOpen, Cond.code yX4_checkOpen cX4_checkOpen 1 none, Cond.classLink RX4 124 "java/lang/IllegalStateException", Cond.initialized "java/lang/IllegalStateException", Cond.methodLink RX4 45 yX4_checkRange, Cond.static yX4_checkRange, Cond.code yX4_checkRange cX4_checkRange 3 none, Cond.classLink RX4 204 "java/lang/IllegalArgumentException", Cond.initialized "java/lang/IllegalArgumentException", Cond.methodLink RX4 156 yX4_payOut, Cond.instanceMethod yX4_payOut, Cond.selects RX4 yX4_payOut yX4_payOut]
def wsX4_decide_r2 : List Cond := [Cond.code yX4_payOut cX4_payOut 2 (some .int), Cond.fieldLink RX4 115 "PegBox" "held" "I", Cond.methodLink RX4 112 Lib.Math.min.name, Cond.static Lib.Math.min.name, Cond.initialized "java/lang/Math", Cond.code Lib.Math.min.name Lib.Math.min.code 2 (some .int), Cond.fieldLink RX4 178 "PegBox" "returned" "I", Cond.methodLink RX4 190 yX4_leftOutstanding, Cond.instanceMethod yX4_leftOutstanding, Cond.selects RX4 yX4_leftOutstanding yX4_leftOutstanding, Cond.code yX4_leftOutstanding cX4_leftOutstanding 1 (some .int), Cond.fieldLink RX4 181 "PegBox" "setOff" "I", Cond.methodLink RX4 187 yX4_dueInAll, Cond.instanceMethod yX4_dueInAll, Cond.selects RX4 yX4_dueInAll yX4_dueInAll, Cond.code yX4_dueInAll cX4_dueInAll 3 (some .int), Cond.methodLink RX4 193 yX4_dueOfKind, Cond.instanceMethod yX4_dueOfKind, Cond.selects RX4 yX4_dueOfKind yX4_dueOfKind, Cond.code yX4_dueOfKind cX4_dueOfKind 2 (some .int), Cond.fieldLink RX4 19 "PegBox" "kinds" "LPegBox$Kinds;", Cond.fieldLink RX4 74 "PegBox$Kinds" "leasts" "[I", Cond.methodLink RX4 215 yX0_settledSum, Cond.instanceMethod yX0_settledSum]
def wsX4_decide_r3 : List Cond := [Cond.selects RX0 yX0_settledSum yX0_settledSum, Cond.initialized RX0, Cond.code yX0_settledSum cX0_settledSum 5 (some .int), Cond.fieldLink RX0 24 "PegBox$ClaimBook" "count" "I", Cond.fieldLink RX0 9 "PegBox$ClaimBook" "kinds" "[I", Cond.fieldLink RX0 21 "PegBox$ClaimBook" "settled" "[I", Cond.methodLink RX4 218 yX3_limit, Cond.instanceMethod yX3_limit, Cond.selects RX3 yX3_limit yX3_limit, Cond.initialized RX3, Cond.code yX3_limit cX3_limit 3 (some .int), Cond.fieldLink RX3 22 "PegBox$Kinds" "caps" "[I", Cond.methodLink RX3 32 Lib.Math.min.name, Cond.methodLink RX3 28 yX3_pastBasket, Cond.instanceMethod yX3_pastBasket, Cond.selects RX3 yX3_pastBasket yX3_pastBasket, Cond.code yX3_pastBasket cX3_pastBasket 4 (some .int), Cond.fieldLink RX3 15 "PegBox$Kinds" "baskets" "[I", Cond.fieldLink RX3 18 "PegBox$Kinds" "wholes" "[Z", Cond.methodLink RX4 131 yX4_free, Cond.instanceMethod yX4_free, Cond.selects RX4 yX4_free yX4_free, Cond.code yX4_free cX4_free 2 none, Cond.fieldLink RX4 10 "PegBox" "escrow" "LPegBox$Escrow;"]
def wsX4_decide_r4 : List Cond := [Cond.fieldLink RX4 37 "PegBox" "day" "I", Cond.fieldLink RX4 118 "PegBox" "paid" "I", Cond.methodLink RX4 221 yX2_totalAfter, Cond.instanceMethod yX2_totalAfter, Cond.selects RX2 yX2_totalAfter yX2_totalAfter, Cond.initialized RX2, Cond.code yX2_totalAfter cX2_totalAfter 4 (some .int), Cond.fieldLink RX2 15 "PegBox$Escrow" "days" "[I", Cond.fieldLink RX2 9 "PegBox$Escrow" "amounts" "[I", Cond.methodLink RX4 224 yX0_openSum, Cond.instanceMethod yX0_openSum, Cond.selects RX0 yX0_openSum yX0_openSum, Cond.code yX0_openSum cX0_openSum 3 (some .int), Cond.fieldLink RX0 15 "PegBox$ClaimBook" "amounts" "[I"]
def wsX4_decide : List Cond := .code yX4_decide cX4_decide 4 (some .int) :: ((wsX4_decide_r1 ++ (wsX4_decide_r2 ++ (wsX4_decide_r3 ++ wsX4_decide_r4))) ++ wsX40 ++ wsX00 ++ wsX30 ++ wsX20 ++ (vx_atS RX4 203 "java/lang/IndexOutOfBoundsException" ["java/lang/RuntimeException", "java/lang/Exception"]).filter goodWord ++ (vx_atS RX4 128 "java/lang/IllegalStateException" ["java/lang/RuntimeException", "java/lang/Exception"]).filter goodWord ++ (vx_atS RX4 208 "java/lang/IllegalArgumentException" ["java/lang/RuntimeException", "java/lang/Exception"]).filter goodWord)
def wsX4_owe_r1 : List Cond := [Cond.methodLink RX4 112 Lib.Math.min.name, Cond.static Lib.Math.min.name, Cond.initialized "java/lang/Math", Cond.code Lib.Math.min.name Lib.Math.min.code 2 (some .int), Cond.fieldLink RX4 184 "PegBox" "owed" "I", Cond.fieldLink RX4 181 "PegBox" "setOff" "I", Cond.fieldLink RX4 118 "PegBox" "paid" "I", Cond.methodLink RX4 190 yX4_leftOutstanding, Cond.instanceMethod yX4_leftOutstanding, Cond.selects RX4 yX4_leftOutstanding yX4_leftOutstanding, Cond.initialized RX4, Cond.code yX4_leftOutstanding cX4_leftOutstanding 1 (some .int), Cond.fieldLink RX4 178 "PegBox" "returned" "I", Cond.methodLink RX4 187 yX4_dueInAll, Cond.instanceMethod yX4_dueInAll, Cond.selects RX4 yX4_dueInAll yX4_dueInAll, Cond.code yX4_dueInAll cX4_dueInAll 3 (some .int), Cond.methodLink RX4 193 yX4_dueOfKind, Cond.instanceMethod yX4_dueOfKind, Cond.selects RX4 yX4_dueOfKind yX4_dueOfKind, Cond.code yX4_dueOfKind cX4_dueOfKind 2 (some .int), Cond.fieldLink RX4 19 "PegBox" "kinds" "LPegBox$Kinds;", Cond.fieldLink RX4 26 "PegBox" "book" "LPegBox$ClaimBook;", Cond.fieldLink RX4 74 "PegBox$Kinds" "leasts" "[I"]
def wsX4_owe_r2 : List Cond := [Cond.methodLink RX4 215 yX0_settledSum, Cond.instanceMethod yX0_settledSum, Cond.selects RX0 yX0_settledSum yX0_settledSum, Cond.initialized RX0, Cond.code yX0_settledSum cX0_settledSum 5 (some .int), Cond.fieldLink RX0 24 "PegBox$ClaimBook" "count" "I", Cond.fieldLink RX0 9 "PegBox$ClaimBook" "kinds" "[I", Cond.fieldLink RX0 21 "PegBox$ClaimBook" "settled" "[I", Cond.methodLink RX4 218 yX3_limit, Cond.instanceMethod yX3_limit, Cond.selects RX3 yX3_limit yX3_limit, Cond.initialized RX3, Cond.code yX3_limit cX3_limit 3 (some .int), Cond.fieldLink RX3 22 "PegBox$Kinds" "caps" "[I", Cond.methodLink RX3 32 Lib.Math.min.name, Cond.methodLink RX3 28 yX3_pastBasket, Cond.instanceMethod yX3_pastBasket, Cond.selects RX3 yX3_pastBasket yX3_pastBasket, Cond.code yX3_pastBasket cX3_pastBasket 4 (some .int), Cond.fieldLink RX3 15 "PegBox$Kinds" "baskets" "[I", Cond.fieldLink RX3 18 "PegBox$Kinds" "wholes" "[Z"]
def wsX4_owe : List Cond := .code yX4_owe cX4_owe 3 (some .int) :: ((wsX4_owe_r1 ++ wsX4_owe_r2) ++ wsX40 ++ wsX30 ++ wsX00)
def wsX4_report_r1 : List Cond := [Cond.classLink RX4 124 "java/lang/IllegalStateException", Cond.initialized "java/lang/IllegalStateException", Cond.constant RX4 49 (-10000000), Cond.constant RX4 44 (10000000), Cond.fieldLink RX4 33 "PegBox" "earnOut" "LPegBox$EarnOut;", Cond.fieldLink RX4 159 "PegBox$EarnOut" "isSpedUp" "Z", Cond.fieldLink RX4 164 "PegBox$EarnOut" "told" "I", Cond.methodLink RX4 45 yX4_checkRange, Cond.static yX4_checkRange, Cond.initialized RX4, Cond.code yX4_checkRange cX4_checkRange 3 none, Cond.classLink RX4 204 "java/lang/IllegalArgumentException", Cond.initialized "java/lang/IllegalArgumentException", Cond.methodLink RX4 121 yX4_checkClosed, Cond.instanceMethod yX4_checkClosed, Cond.selects RX4 yX4_checkClosed yX4_checkClosed, Cond.code yX4_checkClosed cX4_checkClosed 1 none, Cond.fieldLink RX4 37 "PegBox" "day" "I", Cond.methodLink RX4 169 yX1_tell, Cond.instanceMethod yX1_tell, Cond.selects RX1 yX1_tell yX1_tell, Cond.initialized RX1, Cond.code yX1_tell cX1_tell 3 (some .int), Cond.fieldLink RX1 22 "PegBox$EarnOut" "told" "I"]
def wsX4_report_r2 : List Cond := [Cond.fieldLink RX1 26 "PegBox$EarnOut" "resultSum" "I", Cond.fieldLink RX1 29 "PegBox$EarnOut" "targetSum" "I", Cond.fieldLink RX1 9 "PegBox$EarnOut" "targets" "[I", Cond.fieldLink RX1 32 "PegBox$EarnOut" "isCarried" "Z", Cond.methodLink RX1 36 yX1_meet, Cond.instanceMethod yX1_meet, Cond.selects RX1 yX1_meet yX1_meet, Cond.code yX1_meet cX1_meet 5 (some .int), Cond.fieldLink RX1 18 "PegBox$EarnOut" "met" "[Z", Cond.fieldLink RX1 15 "PegBox$EarnOut" "amounts" "[I", Cond.methodLink RX4 172 yX4_owe, Cond.instanceMethod yX4_owe, Cond.selects RX4 yX4_owe yX4_owe, Cond.code yX4_owe cX4_owe 3 (some .int), Cond.methodLink RX4 112 Lib.Math.min.name, Cond.static Lib.Math.min.name, Cond.initialized "java/lang/Math", Cond.code Lib.Math.min.name Lib.Math.min.code 2 (some .int), Cond.fieldLink RX4 184 "PegBox" "owed" "I", Cond.fieldLink RX4 181 "PegBox" "setOff" "I", Cond.fieldLink RX4 118 "PegBox" "paid" "I", Cond.methodLink RX4 190 yX4_leftOutstanding, Cond.instanceMethod yX4_leftOutstanding, Cond.selects RX4 yX4_leftOutstanding yX4_leftOutstanding]
def wsX4_report_r3 : List Cond := [Cond.code yX4_leftOutstanding cX4_leftOutstanding 1 (some .int), Cond.fieldLink RX4 178 "PegBox" "returned" "I", Cond.methodLink RX4 187 yX4_dueInAll, Cond.instanceMethod yX4_dueInAll, Cond.selects RX4 yX4_dueInAll yX4_dueInAll, Cond.code yX4_dueInAll cX4_dueInAll 3 (some .int), Cond.methodLink RX4 193 yX4_dueOfKind, Cond.instanceMethod yX4_dueOfKind, Cond.selects RX4 yX4_dueOfKind yX4_dueOfKind, Cond.code yX4_dueOfKind cX4_dueOfKind 2 (some .int), Cond.fieldLink RX4 19 "PegBox" "kinds" "LPegBox$Kinds;", Cond.fieldLink RX4 26 "PegBox" "book" "LPegBox$ClaimBook;", Cond.fieldLink RX4 74 "PegBox$Kinds" "leasts" "[I", Cond.methodLink RX4 215 yX0_settledSum, Cond.instanceMethod yX0_settledSum, Cond.selects RX0 yX0_settledSum yX0_settledSum, Cond.initialized RX0, Cond.code yX0_settledSum cX0_settledSum 5 (some .int), Cond.fieldLink RX0 24 "PegBox$ClaimBook" "count" "I", Cond.fieldLink RX0 9 "PegBox$ClaimBook" "kinds" "[I", Cond.fieldLink RX0 21 "PegBox$ClaimBook" "settled" "[I", Cond.methodLink RX4 218 yX3_limit, Cond.instanceMethod yX3_limit, Cond.selects RX3 yX3_limit yX3_limit]
def wsX4_report_r4 : List Cond := [Cond.initialized RX3, Cond.code yX3_limit cX3_limit 3 (some .int), Cond.fieldLink RX3 22 "PegBox$Kinds" "caps" "[I", Cond.methodLink RX3 32 Lib.Math.min.name, Cond.methodLink RX3 28 yX3_pastBasket, Cond.instanceMethod yX3_pastBasket, Cond.selects RX3 yX3_pastBasket yX3_pastBasket, Cond.code yX3_pastBasket cX3_pastBasket 4 (some .int), Cond.fieldLink RX3 15 "PegBox$Kinds" "baskets" "[I", Cond.fieldLink RX3 18 "PegBox$Kinds" "wholes" "[Z"]
def wsX4_report : List Cond := .code yX4_report cX4_report 2 (some .int) :: ((wsX4_report_r1 ++ (wsX4_report_r2 ++ (wsX4_report_r3 ++ wsX4_report_r4))) ++ wsX40 ++ wsX10 ++ wsX30 ++ wsX00 ++ (vx_atS RX4 128 "java/lang/IllegalStateException" ["java/lang/RuntimeException", "java/lang/Exception"]).filter goodWord ++ (vx_atS RX4 208 "java/lang/IllegalArgumentException" ["java/lang/RuntimeException", "java/lang/Exception"]).filter goodWord)
def wsX4_speedUp_r1 : List Cond := [Cond.classLink RX4 124 "java/lang/IllegalStateException", Cond.initialized "java/lang/IllegalStateException", Cond.fieldLink RX4 33 "PegBox" "earnOut" "LPegBox$EarnOut;", Cond.fieldLink RX4 159 "PegBox$EarnOut" "isSpedUp" "Z", Cond.methodLink RX4 121 yX4_checkClosed, Cond.instanceMethod yX4_checkClosed, Cond.selects RX4 yX4_checkClosed yX4_checkClosed, Cond.initialized RX4, Cond.code yX4_checkClosed cX4_checkClosed 1 none, Cond.fieldLink RX4 37 "PegBox" "day" "I", Cond.methodLink RX4 175 yX1_hasten, Cond.instanceMethod yX1_hasten, Cond.selects RX1 yX1_hasten yX1_hasten, Cond.initialized RX1, Cond.code yX1_hasten cX1_hasten 1 (some .int), Cond.fieldLink RX1 40 "PegBox$EarnOut" "isSpedUp" "Z", Cond.fieldLink RX1 22 "PegBox$EarnOut" "told" "I", Cond.methodLink RX1 36 yX1_meet, Cond.instanceMethod yX1_meet, Cond.selects RX1 yX1_meet yX1_meet, Cond.code yX1_meet cX1_meet 5 (some .int), Cond.fieldLink RX1 18 "PegBox$EarnOut" "met" "[Z", Cond.fieldLink RX1 15 "PegBox$EarnOut" "amounts" "[I", Cond.methodLink RX4 172 yX4_owe]
def wsX4_speedUp_r2 : List Cond := [Cond.instanceMethod yX4_owe, Cond.selects RX4 yX4_owe yX4_owe, Cond.code yX4_owe cX4_owe 3 (some .int), Cond.methodLink RX4 112 Lib.Math.min.name, Cond.static Lib.Math.min.name, Cond.initialized "java/lang/Math", Cond.code Lib.Math.min.name Lib.Math.min.code 2 (some .int), Cond.fieldLink RX4 184 "PegBox" "owed" "I", Cond.fieldLink RX4 181 "PegBox" "setOff" "I", Cond.fieldLink RX4 118 "PegBox" "paid" "I", Cond.methodLink RX4 190 yX4_leftOutstanding, Cond.instanceMethod yX4_leftOutstanding, Cond.selects RX4 yX4_leftOutstanding yX4_leftOutstanding, Cond.code yX4_leftOutstanding cX4_leftOutstanding 1 (some .int), Cond.fieldLink RX4 178 "PegBox" "returned" "I", Cond.methodLink RX4 187 yX4_dueInAll, Cond.instanceMethod yX4_dueInAll, Cond.selects RX4 yX4_dueInAll yX4_dueInAll, Cond.code yX4_dueInAll cX4_dueInAll 3 (some .int), Cond.methodLink RX4 193 yX4_dueOfKind, Cond.instanceMethod yX4_dueOfKind, Cond.selects RX4 yX4_dueOfKind yX4_dueOfKind, Cond.code yX4_dueOfKind cX4_dueOfKind 2 (some .int), Cond.fieldLink RX4 19 "PegBox" "kinds" "LPegBox$Kinds;"]
def wsX4_speedUp_r3 : List Cond := [Cond.fieldLink RX4 26 "PegBox" "book" "LPegBox$ClaimBook;", Cond.fieldLink RX4 74 "PegBox$Kinds" "leasts" "[I", Cond.methodLink RX4 215 yX0_settledSum, Cond.instanceMethod yX0_settledSum, Cond.selects RX0 yX0_settledSum yX0_settledSum, Cond.initialized RX0, Cond.code yX0_settledSum cX0_settledSum 5 (some .int), Cond.fieldLink RX0 24 "PegBox$ClaimBook" "count" "I", Cond.fieldLink RX0 9 "PegBox$ClaimBook" "kinds" "[I", Cond.fieldLink RX0 21 "PegBox$ClaimBook" "settled" "[I", Cond.methodLink RX4 218 yX3_limit, Cond.instanceMethod yX3_limit, Cond.selects RX3 yX3_limit yX3_limit, Cond.initialized RX3, Cond.code yX3_limit cX3_limit 3 (some .int), Cond.fieldLink RX3 22 "PegBox$Kinds" "caps" "[I", Cond.methodLink RX3 32 Lib.Math.min.name, Cond.methodLink RX3 28 yX3_pastBasket, Cond.instanceMethod yX3_pastBasket, Cond.selects RX3 yX3_pastBasket yX3_pastBasket, Cond.code yX3_pastBasket cX3_pastBasket 4 (some .int), Cond.fieldLink RX3 15 "PegBox$Kinds" "baskets" "[I", Cond.fieldLink RX3 18 "PegBox$Kinds" "wholes" "[Z"]
def wsX4_speedUp : List Cond := .code yX4_speedUp cX4_speedUp 1 (some .int) :: ((wsX4_speedUp_r1 ++ (wsX4_speedUp_r2 ++ wsX4_speedUp_r3)) ++ wsX40 ++ wsX10 ++ wsX30 ++ wsX00 ++ (vx_atS RX4 128 "java/lang/IllegalStateException" ["java/lang/RuntimeException", "java/lang/Exception"]).filter goodWord)
def wsX4_day : List Cond := .code yX4_day cX4_day 1 (some .int) :: ([.fieldLink RX4 37 "PegBox" "day" "I"] ++ wsX40)
def wsX4_finalPrice : List Cond := .code yX4_finalPrice cX4_finalPrice 1 (some .int) :: ([.fieldLink RX4 41 "PegBox" "finalPrice" "I"] ++ wsX40)
def wsX4_held : List Cond := .code yX4_held cX4_held 1 (some .int) :: ([.fieldLink RX4 115 "PegBox" "held" "I"] ++ wsX40)
def wsX4_paid : List Cond := .code yX4_paid cX4_paid 1 (some .int) :: ([.fieldLink RX4 118 "PegBox" "paid" "I"] ++ wsX40)
def wsX4_returned : List Cond := .code yX4_returned cX4_returned 1 (some .int) :: ([.fieldLink RX4 178 "PegBox" "returned" "I"] ++ wsX40)
def wsX4_setOff : List Cond := .code yX4_setOff cX4_setOff 1 (some .int) :: ([.fieldLink RX4 181 "PegBox" "setOff" "I"] ++ wsX40)
def wsX4_owed : List Cond := .code yX4_owed cX4_owed 1 (some .int) :: ([.fieldLink RX4 184 "PegBox" "owed" "I"] ++ wsX40)
def wsX4_due_r1 : List Cond := [Cond.methodLink RX4 187 yX4_dueInAll, Cond.instanceMethod yX4_dueInAll, Cond.selects RX4 yX4_dueInAll yX4_dueInAll, Cond.initialized RX4, Cond.code yX4_dueInAll cX4_dueInAll 3 (some .int), Cond.methodLink RX4 193 yX4_dueOfKind, Cond.instanceMethod yX4_dueOfKind, Cond.selects RX4 yX4_dueOfKind yX4_dueOfKind, Cond.code yX4_dueOfKind cX4_dueOfKind 2 (some .int), Cond.fieldLink RX4 19 "PegBox" "kinds" "LPegBox$Kinds;", Cond.fieldLink RX4 26 "PegBox" "book" "LPegBox$ClaimBook;", Cond.fieldLink RX4 74 "PegBox$Kinds" "leasts" "[I", Cond.methodLink RX4 215 yX0_settledSum, Cond.instanceMethod yX0_settledSum, Cond.selects RX0 yX0_settledSum yX0_settledSum, Cond.initialized RX0, Cond.code yX0_settledSum cX0_settledSum 5 (some .int), Cond.fieldLink RX0 24 "PegBox$ClaimBook" "count" "I", Cond.fieldLink RX0 9 "PegBox$ClaimBook" "kinds" "[I", Cond.fieldLink RX0 21 "PegBox$ClaimBook" "settled" "[I", Cond.methodLink RX4 218 yX3_limit, Cond.instanceMethod yX3_limit, Cond.selects RX3 yX3_limit yX3_limit, Cond.initialized RX3]
def wsX4_due_r2 : List Cond := [Cond.code yX3_limit cX3_limit 3 (some .int), Cond.fieldLink RX3 22 "PegBox$Kinds" "caps" "[I", Cond.methodLink RX3 32 Lib.Math.min.name, Cond.static Lib.Math.min.name, Cond.initialized "java/lang/Math", Cond.code Lib.Math.min.name Lib.Math.min.code 2 (some .int), Cond.methodLink RX3 28 yX3_pastBasket, Cond.instanceMethod yX3_pastBasket, Cond.selects RX3 yX3_pastBasket yX3_pastBasket, Cond.code yX3_pastBasket cX3_pastBasket 4 (some .int), Cond.fieldLink RX3 15 "PegBox$Kinds" "baskets" "[I", Cond.fieldLink RX3 18 "PegBox$Kinds" "wholes" "[Z"]
def wsX4_due : List Cond := .code yX4_due cX4_due 1 (some .int) :: ((wsX4_due_r1 ++ wsX4_due_r2) ++ wsX40 ++ wsX30 ++ wsX00)
def wsX4_outstanding_r1 : List Cond := [Cond.methodLink RX4 190 yX4_leftOutstanding, Cond.instanceMethod yX4_leftOutstanding, Cond.selects RX4 yX4_leftOutstanding yX4_leftOutstanding, Cond.initialized RX4, Cond.code yX4_leftOutstanding cX4_leftOutstanding 1 (some .int), Cond.fieldLink RX4 178 "PegBox" "returned" "I", Cond.fieldLink RX4 181 "PegBox" "setOff" "I", Cond.methodLink RX4 187 yX4_dueInAll, Cond.instanceMethod yX4_dueInAll, Cond.selects RX4 yX4_dueInAll yX4_dueInAll, Cond.code yX4_dueInAll cX4_dueInAll 3 (some .int), Cond.methodLink RX4 193 yX4_dueOfKind, Cond.instanceMethod yX4_dueOfKind, Cond.selects RX4 yX4_dueOfKind yX4_dueOfKind, Cond.code yX4_dueOfKind cX4_dueOfKind 2 (some .int), Cond.fieldLink RX4 19 "PegBox" "kinds" "LPegBox$Kinds;", Cond.fieldLink RX4 26 "PegBox" "book" "LPegBox$ClaimBook;", Cond.fieldLink RX4 74 "PegBox$Kinds" "leasts" "[I", Cond.methodLink RX4 215 yX0_settledSum, Cond.instanceMethod yX0_settledSum, Cond.selects RX0 yX0_settledSum yX0_settledSum, Cond.initialized RX0, Cond.code yX0_settledSum cX0_settledSum 5 (some .int), Cond.fieldLink RX0 24 "PegBox$ClaimBook" "count" "I"]
def wsX4_outstanding_r2 : List Cond := [Cond.fieldLink RX0 9 "PegBox$ClaimBook" "kinds" "[I", Cond.fieldLink RX0 21 "PegBox$ClaimBook" "settled" "[I", Cond.methodLink RX4 218 yX3_limit, Cond.instanceMethod yX3_limit, Cond.selects RX3 yX3_limit yX3_limit, Cond.initialized RX3, Cond.code yX3_limit cX3_limit 3 (some .int), Cond.fieldLink RX3 22 "PegBox$Kinds" "caps" "[I", Cond.methodLink RX3 32 Lib.Math.min.name, Cond.static Lib.Math.min.name, Cond.initialized "java/lang/Math", Cond.code Lib.Math.min.name Lib.Math.min.code 2 (some .int), Cond.methodLink RX3 28 yX3_pastBasket, Cond.instanceMethod yX3_pastBasket, Cond.selects RX3 yX3_pastBasket yX3_pastBasket, Cond.code yX3_pastBasket cX3_pastBasket 4 (some .int), Cond.fieldLink RX3 15 "PegBox$Kinds" "baskets" "[I", Cond.fieldLink RX3 18 "PegBox$Kinds" "wholes" "[Z"]
def wsX4_outstanding : List Cond := .code yX4_outstanding cX4_outstanding 1 (some .int) :: ((wsX4_outstanding_r1 ++ wsX4_outstanding_r2) ++ wsX40 ++ wsX30 ++ wsX00)
def wsX4_dueOf_r1 : List Cond := [Cond.methodLink RX4 62 yX4_checkNumber, Cond.static yX4_checkNumber, Cond.initialized RX4, Cond.code yX4_checkNumber cX4_checkNumber 2 none, Cond.classLink RX4 199 "java/lang/IndexOutOfBoundsException", Cond.initialized "java/lang/IndexOutOfBoundsException", Cond.methodLink RX4 193 yX4_dueOfKind, Cond.instanceMethod yX4_dueOfKind, Cond.selects RX4 yX4_dueOfKind yX4_dueOfKind, Cond.code yX4_dueOfKind cX4_dueOfKind 2 (some .int), Cond.fieldLink RX4 19 "PegBox" "kinds" "LPegBox$Kinds;", Cond.fieldLink RX4 26 "PegBox" "book" "LPegBox$ClaimBook;", Cond.fieldLink RX4 74 "PegBox$Kinds" "leasts" "[I", Cond.methodLink RX4 215 yX0_settledSum, Cond.instanceMethod yX0_settledSum, Cond.selects RX0 yX0_settledSum yX0_settledSum, Cond.initialized RX0, Cond.code yX0_settledSum cX0_settledSum 5 (some .int), Cond.fieldLink RX0 24 "PegBox$ClaimBook" "count" "I", Cond.fieldLink RX0 9 "PegBox$ClaimBook" "kinds" "[I", Cond.fieldLink RX0 21 "PegBox$ClaimBook" "settled" "[I", Cond.methodLink RX4 218 yX3_limit, Cond.instanceMethod yX3_limit, Cond.selects RX3 yX3_limit yX3_limit]
def wsX4_dueOf_r2 : List Cond := [Cond.initialized RX3, Cond.code yX3_limit cX3_limit 3 (some .int), Cond.fieldLink RX3 22 "PegBox$Kinds" "caps" "[I", Cond.methodLink RX3 32 Lib.Math.min.name, Cond.static Lib.Math.min.name, Cond.initialized "java/lang/Math", Cond.code Lib.Math.min.name Lib.Math.min.code 2 (some .int), Cond.methodLink RX3 28 yX3_pastBasket, Cond.instanceMethod yX3_pastBasket, Cond.selects RX3 yX3_pastBasket yX3_pastBasket, Cond.code yX3_pastBasket cX3_pastBasket 4 (some .int), Cond.fieldLink RX3 15 "PegBox$Kinds" "baskets" "[I", Cond.fieldLink RX3 18 "PegBox$Kinds" "wholes" "[Z"]
def wsX4_dueOf : List Cond := .code yX4_dueOf cX4_dueOf 2 (some .int) :: ((wsX4_dueOf_r1 ++ wsX4_dueOf_r2) ++ wsX40 ++ wsX30 ++ wsX00 ++ (vx_atS RX4 203 "java/lang/IndexOutOfBoundsException" ["java/lang/RuntimeException", "java/lang/Exception"]).filter goodWord)
def wsX4_claims : List Cond := .code yX4_claims cX4_claims 1 (some .int) :: ([.fieldLink RX4 26 "PegBox" "book" "LPegBox$ClaimBook;", .fieldLink RX4 136 "PegBox$ClaimBook" "count" "I"] ++ wsX40 ++ wsX00)
def wsX4_settledAt : List Cond := .code yX4_settledAt cX4_settledAt 2 (some .int) :: ([.fieldLink RX4 26 "PegBox" "book" "LPegBox$ClaimBook;", .fieldLink RX4 136 "PegBox$ClaimBook" "count" "I", .fieldLink RX4 147 "PegBox$ClaimBook" "settled" "[I", .methodLink RX4 62 yX4_checkNumber, .static yX4_checkNumber, .initialized RX4, .code yX4_checkNumber cX4_checkNumber 2 none, .classLink RX4 199 "java/lang/IndexOutOfBoundsException", .initialized "java/lang/IndexOutOfBoundsException"] ++ wsX40 ++ wsX00 ++ (vx_atS RX4 203 "java/lang/IndexOutOfBoundsException" ["java/lang/RuntimeException", "java/lang/Exception"]).filter goodWord)
def wsX4_isMet : List Cond := .code yX4_isMet cX4_isMet 2 (some .boolean) :: ([.fieldLink RX4 33 "PegBox" "earnOut" "LPegBox$EarnOut;", .fieldLink RX4 196 "PegBox$EarnOut" "met" "[Z", .methodLink RX4 62 yX4_checkNumber, .static yX4_checkNumber, .initialized RX4, .code yX4_checkNumber cX4_checkNumber 2 none, .classLink RX4 199 "java/lang/IndexOutOfBoundsException", .initialized "java/lang/IndexOutOfBoundsException"] ++ wsX40 ++ wsX10 ++ (vx_atS RX4 203 "java/lang/IndexOutOfBoundsException" ["java/lang/RuntimeException", "java/lang/Exception"]).filter goodWord)
def wsX5_init : List Cond := .code yX5_init cX5_init 1 none :: ([.methodLink RX5 1 objectInit, .instanceMethod objectInit, .code objectInit ⟨#[0xb1]⟩ 1 none, .arrayClass .int, .fieldLink RX5 7 "PegBoxModel" "partAmount" "[I", .fieldLink RX5 13 "PegBoxModel" "partDay" "[I", .fieldLink RX5 16 "PegBoxModel" "least" "[I", .fieldLink RX5 19 "PegBoxModel" "basket" "[I", .arrayClass .boolean, .fieldLink RX5 22 "PegBoxModel" "whole" "[Z", .fieldLink RX5 26 "PegBoxModel" "cap" "[I", .fieldLink RX5 29 "PegBoxModel" "lastDay" "[I", .fieldLink RX5 32 "PegBoxModel" "target" "[I", .fieldLink RX5 35 "PegBoxModel" "yearAmount" "[I", .fieldLink RX5 38 "PegBoxModel" "kind" "[I", .fieldLink RX5 41 "PegBoxModel" "amount" "[I", .fieldLink RX5 44 "PegBoxModel" "offered" "[I", .fieldLink RX5 47 "PegBoxModel" "settled" "[I", .fieldLink RX5 50 "PegBoxModel" "results" "[I", .fieldLink RX5 53 "PegBoxModel" "met" "[Z"] ++ wsX50)
def wsX5_thrown : List Cond := .code yX5_thrown cX5_thrown 1 (some .int) :: ([.fieldLink RX5 56 "PegBoxModel" "thrown" "I"] ++ wsX50)
def wsX5_in : List Cond := .code yX5_in cX5_in 3 (some .boolean) :: ([])
def wsX5_isFine : List Cond := .code yX5_isFine cX5_isFine 2 (some .boolean) :: ([.fieldLink RX5 56 "PegBoxModel" "thrown" "I"] ++ wsX50)
def wsX5_setPrice : List Cond := .code yX5_setPrice cX5_setPrice 4 none :: ([.constant RX5 60 (10000000), .constant RX5 65 (-10000000), .fieldLink RX5 66 "PegBoxModel" "closed" "Z", .fieldLink RX5 74 "PegBoxModel" "price" "I", .fieldLink RX5 77 "PegBoxModel" "peg" "I", .fieldLink RX5 80 "PegBoxModel" "collar" "I", .methodLink RX5 61 yX5_in, .static yX5_in, .initialized RX5, .code yX5_in cX5_in 3 (some .boolean), .methodLink RX5 70 yX5_isFine, .instanceMethod yX5_isFine, .selects RX5 yX5_isFine yX5_isFine, .code yX5_isFine cX5_isFine 2 (some .boolean), .fieldLink RX5 56 "PegBoxModel" "thrown" "I"] ++ wsX50)
def wsX5_setPart : List Cond := .code yX5_setPart cX5_setPart 4 none :: ([.constant RX5 60 (10000000), .fieldLink RX5 66 "PegBoxModel" "closed" "Z", .fieldLink RX5 7 "PegBoxModel" "partAmount" "[I", .fieldLink RX5 13 "PegBoxModel" "partDay" "[I", .methodLink RX5 61 yX5_in, .static yX5_in, .initialized RX5, .code yX5_in cX5_in 3 (some .boolean), .methodLink RX5 70 yX5_isFine, .instanceMethod yX5_isFine, .selects RX5 yX5_isFine yX5_isFine, .code yX5_isFine cX5_isFine 2 (some .boolean), .fieldLink RX5 56 "PegBoxModel" "thrown" "I"] ++ wsX50)
def wsX5_setKind : List Cond := .code yX5_setKind cX5_setKind 8 none :: ([.constant RX5 60 (10000000), .constant RX5 83 (100000000), .fieldLink RX5 66 "PegBoxModel" "closed" "Z", .fieldLink RX5 16 "PegBoxModel" "least" "[I", .fieldLink RX5 19 "PegBoxModel" "basket" "[I", .fieldLink RX5 22 "PegBoxModel" "whole" "[Z", .fieldLink RX5 26 "PegBoxModel" "cap" "[I", .fieldLink RX5 29 "PegBoxModel" "lastDay" "[I", .methodLink RX5 61 yX5_in, .static yX5_in, .initialized RX5, .code yX5_in cX5_in 3 (some .boolean), .methodLink RX5 70 yX5_isFine, .instanceMethod yX5_isFine, .selects RX5 yX5_isFine yX5_isFine, .code yX5_isFine cX5_isFine 2 (some .boolean), .fieldLink RX5 56 "PegBoxModel" "thrown" "I"] ++ wsX50)
def wsX5_setYear : List Cond := .code yX5_setYear cX5_setYear 4 none :: ([.constant RX5 60 (10000000), .fieldLink RX5 66 "PegBoxModel" "closed" "Z", .fieldLink RX5 32 "PegBoxModel" "target" "[I", .fieldLink RX5 35 "PegBoxModel" "yearAmount" "[I", .methodLink RX5 61 yX5_in, .static yX5_in, .initialized RX5, .code yX5_in cX5_in 3 (some .boolean), .methodLink RX5 70 yX5_isFine, .instanceMethod yX5_isFine, .selects RX5 yX5_isFine yX5_isFine, .code yX5_isFine cX5_isFine 2 (some .boolean), .fieldLink RX5 56 "PegBoxModel" "thrown" "I"] ++ wsX50)
def wsX5_setCarry : List Cond := .code yX5_setCarry cX5_setCarry 2 none :: ([.fieldLink RX5 66 "PegBoxModel" "closed" "Z", .fieldLink RX5 84 "PegBoxModel" "carried" "Z", .methodLink RX5 70 yX5_isFine, .instanceMethod yX5_isFine, .selects RX5 yX5_isFine yX5_isFine, .initialized RX5, .code yX5_isFine cX5_isFine 2 (some .boolean), .fieldLink RX5 56 "PegBoxModel" "thrown" "I"] ++ wsX50)
def wsX5_close : List Cond := .code yX5_close cX5_close 9 (some .int) :: ([.constant RX5 60 (10000000), .constant RX5 65 (-10000000), .fieldLink RX5 66 "PegBoxModel" "closed" "Z", .fieldLink RX5 77 "PegBoxModel" "peg" "I", .fieldLink RX5 80 "PegBoxModel" "collar" "I", .fieldLink RX5 74 "PegBoxModel" "price" "I", .fieldLink RX5 87 "PegBoxModel" "finals" "I", .fieldLink RX5 7 "PegBoxModel" "partAmount" "[I", .fieldLink RX5 90 "PegBoxModel" "held" "I", .fieldLink RX5 93 "PegBoxModel" "paid" "I", .methodLink RX5 61 yX5_in, .static yX5_in, .initialized RX5, .code yX5_in cX5_in 3 (some .boolean), .methodLink RX5 70 yX5_isFine, .instanceMethod yX5_isFine, .selects RX5 yX5_isFine yX5_isFine, .code yX5_isFine cX5_isFine 2 (some .boolean), .fieldLink RX5 56 "PegBoxModel" "thrown" "I"] ++ wsX50)
def wsX5_frees : List Cond := .code yX5_frees cX5_frees 3 none :: ([.fieldLink RX5 13 "PegBoxModel" "partDay" "[I", .fieldLink RX5 96 "PegBoxModel" "day" "I", .fieldLink RX5 7 "PegBoxModel" "partAmount" "[I", .fieldLink RX5 99 "PegBoxModel" "claims" "I", .fieldLink RX5 47 "PegBoxModel" "settled" "[I", .fieldLink RX5 41 "PegBoxModel" "amount" "[I", .fieldLink RX5 90 "PegBoxModel" "held" "I", .fieldLink RX5 93 "PegBoxModel" "paid" "I"] ++ wsX50)
def wsX5_advance : List Cond := .code yX5_advance cX5_advance 3 (some .int) :: ([.fieldLink RX5 66 "PegBoxModel" "closed" "Z", .fieldLink RX5 96 "PegBoxModel" "day" "I", .methodLink RX5 61 yX5_in, .static yX5_in, .initialized RX5, .code yX5_in cX5_in 3 (some .boolean), .methodLink RX5 70 yX5_isFine, .instanceMethod yX5_isFine, .selects RX5 yX5_isFine yX5_isFine, .code yX5_isFine cX5_isFine 2 (some .boolean), .fieldLink RX5 56 "PegBoxModel" "thrown" "I", .methodLink RX5 102 yX5_frees, .instanceMethod yX5_frees, .selects RX5 yX5_frees yX5_frees, .code yX5_frees cX5_frees 3 none, .fieldLink RX5 13 "PegBoxModel" "partDay" "[I", .fieldLink RX5 7 "PegBoxModel" "partAmount" "[I", .fieldLink RX5 99 "PegBoxModel" "claims" "I", .fieldLink RX5 47 "PegBoxModel" "settled" "[I", .fieldLink RX5 41 "PegBoxModel" "amount" "[I", .fieldLink RX5 90 "PegBoxModel" "held" "I", .fieldLink RX5 93 "PegBoxModel" "paid" "I"] ++ wsX50)
def wsX5_claim : List Cond := .code yX5_claim cX5_claim 4 (some .int) :: ([.constant RX5 60 (10000000), .fieldLink RX5 66 "PegBoxModel" "closed" "Z", .fieldLink RX5 96 "PegBoxModel" "day" "I", .fieldLink RX5 29 "PegBoxModel" "lastDay" "[I", .fieldLink RX5 99 "PegBoxModel" "claims" "I", .fieldLink RX5 38 "PegBoxModel" "kind" "[I", .fieldLink RX5 41 "PegBoxModel" "amount" "[I", .fieldLink RX5 44 "PegBoxModel" "offered" "[I", .fieldLink RX5 47 "PegBoxModel" "settled" "[I", .methodLink RX5 61 yX5_in, .static yX5_in, .initialized RX5, .code yX5_in cX5_in 3 (some .boolean), .methodLink RX5 70 yX5_isFine, .instanceMethod yX5_isFine, .selects RX5 yX5_isFine yX5_isFine, .code yX5_isFine cX5_isFine 2 (some .boolean), .fieldLink RX5 56 "PegBoxModel" "thrown" "I"] ++ wsX50)
def wsX5_isClaim : List Cond := .code yX5_isClaim cX5_isClaim 2 (some .boolean) :: ([.fieldLink RX5 99 "PegBoxModel" "claims" "I", .methodLink RX5 61 yX5_in, .static yX5_in, .initialized RX5, .code yX5_in cX5_in 3 (some .boolean)] ++ wsX50)
def wsX5_offer : List Cond := .code yX5_offer cX5_offer 5 (some .int) :: ([.fieldLink RX5 47 "PegBoxModel" "settled" "[I", .fieldLink RX5 41 "PegBoxModel" "amount" "[I", .fieldLink RX5 44 "PegBoxModel" "offered" "[I", .methodLink RX5 105 yX5_isClaim, .instanceMethod yX5_isClaim, .selects RX5 yX5_isClaim yX5_isClaim, .initialized RX5, .code yX5_isClaim cX5_isClaim 2 (some .boolean), .fieldLink RX5 99 "PegBoxModel" "claims" "I", .methodLink RX5 61 yX5_in, .static yX5_in, .code yX5_in cX5_in 3 (some .boolean), .methodLink RX5 70 yX5_isFine, .instanceMethod yX5_isFine, .selects RX5 yX5_isFine yX5_isFine, .code yX5_isFine cX5_isFine 2 (some .boolean), .fieldLink RX5 56 "PegBoxModel" "thrown" "I"] ++ wsX50)
def wsX5_dueFor : List Cond := .code yX5_dueFor cX5_dueFor 4 (some .int) :: ([.fieldLink RX5 99 "PegBoxModel" "claims" "I", .fieldLink RX5 38 "PegBoxModel" "kind" "[I", .fieldLink RX5 47 "PegBoxModel" "settled" "[I", .fieldLink RX5 16 "PegBoxModel" "least" "[I", .fieldLink RX5 22 "PegBoxModel" "whole" "[Z", .fieldLink RX5 19 "PegBoxModel" "basket" "[I", .fieldLink RX5 26 "PegBoxModel" "cap" "[I"] ++ wsX50)
def wsX5_dueAll : List Cond := .code yX5_dueAll cX5_dueAll 1 (some .int) :: ([.methodLink RX5 108 yX5_dueFor, .instanceMethod yX5_dueFor, .selects RX5 yX5_dueFor yX5_dueFor, .initialized RX5, .code yX5_dueFor cX5_dueFor 4 (some .int), .fieldLink RX5 99 "PegBoxModel" "claims" "I", .fieldLink RX5 38 "PegBoxModel" "kind" "[I", .fieldLink RX5 47 "PegBoxModel" "settled" "[I", .fieldLink RX5 16 "PegBoxModel" "least" "[I", .fieldLink RX5 22 "PegBoxModel" "whole" "[Z", .fieldLink RX5 19 "PegBoxModel" "basket" "[I", .fieldLink RX5 26 "PegBoxModel" "cap" "[I"] ++ wsX50)
def wsX5_open : List Cond := .code yX5_open cX5_open 1 (some .int) :: ([.fieldLink RX5 116 "PegBoxModel" "returned" "I", .fieldLink RX5 119 "PegBoxModel" "setOff" "I", .methodLink RX5 112 yX5_dueAll, .instanceMethod yX5_dueAll, .selects RX5 yX5_dueAll yX5_dueAll, .initialized RX5, .code yX5_dueAll cX5_dueAll 1 (some .int), .methodLink RX5 108 yX5_dueFor, .instanceMethod yX5_dueFor, .selects RX5 yX5_dueFor yX5_dueFor, .code yX5_dueFor cX5_dueFor 4 (some .int), .fieldLink RX5 99 "PegBoxModel" "claims" "I", .fieldLink RX5 38 "PegBoxModel" "kind" "[I", .fieldLink RX5 47 "PegBoxModel" "settled" "[I", .fieldLink RX5 16 "PegBoxModel" "least" "[I", .fieldLink RX5 22 "PegBoxModel" "whole" "[Z", .fieldLink RX5 19 "PegBoxModel" "basket" "[I", .fieldLink RX5 26 "PegBoxModel" "cap" "[I"] ++ wsX50)
def wsX5_settles_r1 : List Cond := [Cond.fieldLink RX5 47 "PegBoxModel" "settled" "[I", Cond.fieldLink RX5 90 "PegBoxModel" "held" "I", Cond.fieldLink RX5 116 "PegBoxModel" "returned" "I", Cond.methodLink RX5 122 yX5_open, Cond.instanceMethod yX5_open, Cond.selects RX5 yX5_open yX5_open, Cond.initialized RX5, Cond.code yX5_open cX5_open 1 (some .int), Cond.fieldLink RX5 119 "PegBoxModel" "setOff" "I", Cond.methodLink RX5 112 yX5_dueAll, Cond.instanceMethod yX5_dueAll, Cond.selects RX5 yX5_dueAll yX5_dueAll, Cond.code yX5_dueAll cX5_dueAll 1 (some .int), Cond.methodLink RX5 108 yX5_dueFor, Cond.instanceMethod yX5_dueFor, Cond.selects RX5 yX5_dueFor yX5_dueFor, Cond.code yX5_dueFor cX5_dueFor 4 (some .int), Cond.fieldLink RX5 99 "PegBoxModel" "claims" "I", Cond.fieldLink RX5 38 "PegBoxModel" "kind" "[I", Cond.fieldLink RX5 16 "PegBoxModel" "least" "[I", Cond.fieldLink RX5 22 "PegBoxModel" "whole" "[Z", Cond.fieldLink RX5 19 "PegBoxModel" "basket" "[I", Cond.fieldLink RX5 26 "PegBoxModel" "cap" "[I", Cond.methodLink RX5 102 yX5_frees]
def wsX5_settles_r2 : List Cond := [Cond.instanceMethod yX5_frees, Cond.selects RX5 yX5_frees yX5_frees, Cond.code yX5_frees cX5_frees 3 none, Cond.fieldLink RX5 13 "PegBoxModel" "partDay" "[I", Cond.fieldLink RX5 96 "PegBoxModel" "day" "I", Cond.fieldLink RX5 7 "PegBoxModel" "partAmount" "[I", Cond.fieldLink RX5 41 "PegBoxModel" "amount" "[I", Cond.fieldLink RX5 93 "PegBoxModel" "paid" "I"]
def wsX5_settles : List Cond := .code yX5_settles cX5_settles 4 (some .int) :: ((wsX5_settles_r1 ++ wsX5_settles_r2) ++ wsX50)
def wsX5_agree_r1 : List Cond := [Cond.fieldLink RX5 47 "PegBoxModel" "settled" "[I", Cond.fieldLink RX5 44 "PegBoxModel" "offered" "[I", Cond.methodLink RX5 105 yX5_isClaim, Cond.instanceMethod yX5_isClaim, Cond.selects RX5 yX5_isClaim yX5_isClaim, Cond.initialized RX5, Cond.code yX5_isClaim cX5_isClaim 2 (some .boolean), Cond.fieldLink RX5 99 "PegBoxModel" "claims" "I", Cond.methodLink RX5 61 yX5_in, Cond.static yX5_in, Cond.code yX5_in cX5_in 3 (some .boolean), Cond.methodLink RX5 70 yX5_isFine, Cond.instanceMethod yX5_isFine, Cond.selects RX5 yX5_isFine yX5_isFine, Cond.code yX5_isFine cX5_isFine 2 (some .boolean), Cond.fieldLink RX5 56 "PegBoxModel" "thrown" "I", Cond.methodLink RX5 125 yX5_settles, Cond.instanceMethod yX5_settles, Cond.selects RX5 yX5_settles yX5_settles, Cond.code yX5_settles cX5_settles 4 (some .int), Cond.fieldLink RX5 90 "PegBoxModel" "held" "I", Cond.fieldLink RX5 116 "PegBoxModel" "returned" "I", Cond.methodLink RX5 122 yX5_open, Cond.instanceMethod yX5_open]
def wsX5_agree_r2 : List Cond := [Cond.selects RX5 yX5_open yX5_open, Cond.code yX5_open cX5_open 1 (some .int), Cond.fieldLink RX5 119 "PegBoxModel" "setOff" "I", Cond.methodLink RX5 112 yX5_dueAll, Cond.instanceMethod yX5_dueAll, Cond.selects RX5 yX5_dueAll yX5_dueAll, Cond.code yX5_dueAll cX5_dueAll 1 (some .int), Cond.methodLink RX5 108 yX5_dueFor, Cond.instanceMethod yX5_dueFor, Cond.selects RX5 yX5_dueFor yX5_dueFor, Cond.code yX5_dueFor cX5_dueFor 4 (some .int), Cond.fieldLink RX5 38 "PegBoxModel" "kind" "[I", Cond.fieldLink RX5 16 "PegBoxModel" "least" "[I", Cond.fieldLink RX5 22 "PegBoxModel" "whole" "[Z", Cond.fieldLink RX5 19 "PegBoxModel" "basket" "[I", Cond.fieldLink RX5 26 "PegBoxModel" "cap" "[I", Cond.methodLink RX5 102 yX5_frees, Cond.instanceMethod yX5_frees, Cond.selects RX5 yX5_frees yX5_frees, Cond.code yX5_frees cX5_frees 3 none, Cond.fieldLink RX5 13 "PegBoxModel" "partDay" "[I", Cond.fieldLink RX5 96 "PegBoxModel" "day" "I", Cond.fieldLink RX5 7 "PegBoxModel" "partAmount" "[I", Cond.fieldLink RX5 41 "PegBoxModel" "amount" "[I"]
def wsX5_agree_r3 : List Cond := [Cond.fieldLink RX5 93 "PegBoxModel" "paid" "I"]
def wsX5_agree : List Cond := .code yX5_agree cX5_agree 3 (some .int) :: ((wsX5_agree_r1 ++ (wsX5_agree_r2 ++ wsX5_agree_r3)) ++ wsX50)
def wsX5_decide_r1 : List Cond := [Cond.fieldLink RX5 47 "PegBoxModel" "settled" "[I", Cond.fieldLink RX5 44 "PegBoxModel" "offered" "[I", Cond.fieldLink RX5 41 "PegBoxModel" "amount" "[I", Cond.methodLink RX5 105 yX5_isClaim, Cond.instanceMethod yX5_isClaim, Cond.selects RX5 yX5_isClaim yX5_isClaim, Cond.initialized RX5, Cond.code yX5_isClaim cX5_isClaim 2 (some .boolean), Cond.fieldLink RX5 99 "PegBoxModel" "claims" "I", Cond.methodLink RX5 61 yX5_in, Cond.static yX5_in, Cond.code yX5_in cX5_in 3 (some .boolean), Cond.methodLink RX5 70 yX5_isFine, Cond.instanceMethod yX5_isFine, Cond.selects RX5 yX5_isFine yX5_isFine, Cond.code yX5_isFine cX5_isFine 2 (some .boolean), Cond.fieldLink RX5 56 "PegBoxModel" "thrown" "I", Cond.methodLink RX5 125 yX5_settles, Cond.instanceMethod yX5_settles, Cond.selects RX5 yX5_settles yX5_settles, Cond.code yX5_settles cX5_settles 4 (some .int), Cond.fieldLink RX5 90 "PegBoxModel" "held" "I", Cond.fieldLink RX5 116 "PegBoxModel" "returned" "I", Cond.methodLink RX5 122 yX5_open]
def wsX5_decide_r2 : List Cond := [Cond.instanceMethod yX5_open, Cond.selects RX5 yX5_open yX5_open, Cond.code yX5_open cX5_open 1 (some .int), Cond.fieldLink RX5 119 "PegBoxModel" "setOff" "I", Cond.methodLink RX5 112 yX5_dueAll, Cond.instanceMethod yX5_dueAll, Cond.selects RX5 yX5_dueAll yX5_dueAll, Cond.code yX5_dueAll cX5_dueAll 1 (some .int), Cond.methodLink RX5 108 yX5_dueFor, Cond.instanceMethod yX5_dueFor, Cond.selects RX5 yX5_dueFor yX5_dueFor, Cond.code yX5_dueFor cX5_dueFor 4 (some .int), Cond.fieldLink RX5 38 "PegBoxModel" "kind" "[I", Cond.fieldLink RX5 16 "PegBoxModel" "least" "[I", Cond.fieldLink RX5 22 "PegBoxModel" "whole" "[Z", Cond.fieldLink RX5 19 "PegBoxModel" "basket" "[I", Cond.fieldLink RX5 26 "PegBoxModel" "cap" "[I", Cond.methodLink RX5 102 yX5_frees, Cond.instanceMethod yX5_frees, Cond.selects RX5 yX5_frees yX5_frees, Cond.code yX5_frees cX5_frees 3 none, Cond.fieldLink RX5 13 "PegBoxModel" "partDay" "[I", Cond.fieldLink RX5 96 "PegBoxModel" "day" "I", Cond.fieldLink RX5 7 "PegBoxModel" "partAmount" "[I"]
def wsX5_decide_r3 : List Cond := [Cond.fieldLink RX5 93 "PegBoxModel" "paid" "I"]
def wsX5_decide : List Cond := .code yX5_decide cX5_decide 4 (some .int) :: ((wsX5_decide_r1 ++ (wsX5_decide_r2 ++ wsX5_decide_r3)) ++ wsX50)
def wsX5_owes : List Cond := .code yX5_owes cX5_owes 3 (some .int) :: ([.fieldLink RX5 119 "PegBoxModel" "setOff" "I", .fieldLink RX5 93 "PegBoxModel" "paid" "I", .fieldLink RX5 129 "PegBoxModel" "owed" "I", .methodLink RX5 122 yX5_open, .instanceMethod yX5_open, .selects RX5 yX5_open yX5_open, .initialized RX5, .code yX5_open cX5_open 1 (some .int), .fieldLink RX5 116 "PegBoxModel" "returned" "I", .methodLink RX5 112 yX5_dueAll, .instanceMethod yX5_dueAll, .selects RX5 yX5_dueAll yX5_dueAll, .code yX5_dueAll cX5_dueAll 1 (some .int), .methodLink RX5 108 yX5_dueFor, .instanceMethod yX5_dueFor, .selects RX5 yX5_dueFor yX5_dueFor, .code yX5_dueFor cX5_dueFor 4 (some .int), .fieldLink RX5 99 "PegBoxModel" "claims" "I", .fieldLink RX5 38 "PegBoxModel" "kind" "[I", .fieldLink RX5 47 "PegBoxModel" "settled" "[I", .fieldLink RX5 16 "PegBoxModel" "least" "[I", .fieldLink RX5 22 "PegBoxModel" "whole" "[Z", .fieldLink RX5 19 "PegBoxModel" "basket" "[I", .fieldLink RX5 26 "PegBoxModel" "cap" "[I"] ++ wsX50)
def wsX5_report_r1 : List Cond := [Cond.constant RX5 65 (-10000000), Cond.constant RX5 60 (10000000), Cond.fieldLink RX5 66 "PegBoxModel" "closed" "Z", Cond.fieldLink RX5 132 "PegBoxModel" "told" "I", Cond.fieldLink RX5 135 "PegBoxModel" "sped" "Z", Cond.fieldLink RX5 50 "PegBoxModel" "results" "[I", Cond.fieldLink RX5 32 "PegBoxModel" "target" "[I", Cond.fieldLink RX5 84 "PegBoxModel" "carried" "Z", Cond.fieldLink RX5 53 "PegBoxModel" "met" "[Z", Cond.fieldLink RX5 35 "PegBoxModel" "yearAmount" "[I", Cond.methodLink RX5 61 yX5_in, Cond.static yX5_in, Cond.initialized RX5, Cond.code yX5_in cX5_in 3 (some .boolean), Cond.methodLink RX5 70 yX5_isFine, Cond.instanceMethod yX5_isFine, Cond.selects RX5 yX5_isFine yX5_isFine, Cond.code yX5_isFine cX5_isFine 2 (some .boolean), Cond.fieldLink RX5 56 "PegBoxModel" "thrown" "I", Cond.methodLink RX5 138 yX5_owes, Cond.instanceMethod yX5_owes, Cond.selects RX5 yX5_owes yX5_owes, Cond.code yX5_owes cX5_owes 3 (some .int), Cond.fieldLink RX5 119 "PegBoxModel" "setOff" "I"]
def wsX5_report_r2 : List Cond := [Cond.fieldLink RX5 93 "PegBoxModel" "paid" "I", Cond.fieldLink RX5 129 "PegBoxModel" "owed" "I", Cond.methodLink RX5 122 yX5_open, Cond.instanceMethod yX5_open, Cond.selects RX5 yX5_open yX5_open, Cond.code yX5_open cX5_open 1 (some .int), Cond.fieldLink RX5 116 "PegBoxModel" "returned" "I", Cond.methodLink RX5 112 yX5_dueAll, Cond.instanceMethod yX5_dueAll, Cond.selects RX5 yX5_dueAll yX5_dueAll, Cond.code yX5_dueAll cX5_dueAll 1 (some .int), Cond.methodLink RX5 108 yX5_dueFor, Cond.instanceMethod yX5_dueFor, Cond.selects RX5 yX5_dueFor yX5_dueFor, Cond.code yX5_dueFor cX5_dueFor 4 (some .int), Cond.fieldLink RX5 99 "PegBoxModel" "claims" "I", Cond.fieldLink RX5 38 "PegBoxModel" "kind" "[I", Cond.fieldLink RX5 47 "PegBoxModel" "settled" "[I", Cond.fieldLink RX5 16 "PegBoxModel" "least" "[I", Cond.fieldLink RX5 22 "PegBoxModel" "whole" "[Z", Cond.fieldLink RX5 19 "PegBoxModel" "basket" "[I", Cond.fieldLink RX5 26 "PegBoxModel" "cap" "[I"]
def wsX5_report : List Cond := .code yX5_report cX5_report 8 (some .int) :: ((wsX5_report_r1 ++ wsX5_report_r2) ++ wsX50)
def wsX5_speedUp_r1 : List Cond := [Cond.fieldLink RX5 66 "PegBoxModel" "closed" "Z", Cond.fieldLink RX5 135 "PegBoxModel" "sped" "Z", Cond.fieldLink RX5 132 "PegBoxModel" "told" "I", Cond.fieldLink RX5 53 "PegBoxModel" "met" "[Z", Cond.fieldLink RX5 35 "PegBoxModel" "yearAmount" "[I", Cond.methodLink RX5 70 yX5_isFine, Cond.instanceMethod yX5_isFine, Cond.selects RX5 yX5_isFine yX5_isFine, Cond.initialized RX5, Cond.code yX5_isFine cX5_isFine 2 (some .boolean), Cond.fieldLink RX5 56 "PegBoxModel" "thrown" "I", Cond.methodLink RX5 138 yX5_owes, Cond.instanceMethod yX5_owes, Cond.selects RX5 yX5_owes yX5_owes, Cond.code yX5_owes cX5_owes 3 (some .int), Cond.fieldLink RX5 119 "PegBoxModel" "setOff" "I", Cond.fieldLink RX5 93 "PegBoxModel" "paid" "I", Cond.fieldLink RX5 129 "PegBoxModel" "owed" "I", Cond.methodLink RX5 122 yX5_open, Cond.instanceMethod yX5_open, Cond.selects RX5 yX5_open yX5_open, Cond.code yX5_open cX5_open 1 (some .int), Cond.fieldLink RX5 116 "PegBoxModel" "returned" "I", Cond.methodLink RX5 112 yX5_dueAll]
def wsX5_speedUp_r2 : List Cond := [Cond.instanceMethod yX5_dueAll, Cond.selects RX5 yX5_dueAll yX5_dueAll, Cond.code yX5_dueAll cX5_dueAll 1 (some .int), Cond.methodLink RX5 108 yX5_dueFor, Cond.instanceMethod yX5_dueFor, Cond.selects RX5 yX5_dueFor yX5_dueFor, Cond.code yX5_dueFor cX5_dueFor 4 (some .int), Cond.fieldLink RX5 99 "PegBoxModel" "claims" "I", Cond.fieldLink RX5 38 "PegBoxModel" "kind" "[I", Cond.fieldLink RX5 47 "PegBoxModel" "settled" "[I", Cond.fieldLink RX5 16 "PegBoxModel" "least" "[I", Cond.fieldLink RX5 22 "PegBoxModel" "whole" "[Z", Cond.fieldLink RX5 19 "PegBoxModel" "basket" "[I", Cond.fieldLink RX5 26 "PegBoxModel" "cap" "[I"]
def wsX5_speedUp : List Cond := .code yX5_speedUp cX5_speedUp 3 (some .int) :: ((wsX5_speedUp_r1 ++ wsX5_speedUp_r2) ++ wsX50)
def wsX5_day : List Cond := .code yX5_day cX5_day 1 (some .int) :: ([.fieldLink RX5 56 "PegBoxModel" "thrown" "I", .fieldLink RX5 66 "PegBoxModel" "closed" "Z", .fieldLink RX5 96 "PegBoxModel" "day" "I"] ++ wsX50)
def wsX5_finalPrice : List Cond := .code yX5_finalPrice cX5_finalPrice 1 (some .int) :: ([.fieldLink RX5 56 "PegBoxModel" "thrown" "I", .fieldLink RX5 66 "PegBoxModel" "closed" "Z", .fieldLink RX5 87 "PegBoxModel" "finals" "I"] ++ wsX50)
def wsX5_held : List Cond := .code yX5_held cX5_held 1 (some .int) :: ([.fieldLink RX5 56 "PegBoxModel" "thrown" "I", .fieldLink RX5 90 "PegBoxModel" "held" "I"] ++ wsX50)
def wsX5_paid : List Cond := .code yX5_paid cX5_paid 1 (some .int) :: ([.fieldLink RX5 56 "PegBoxModel" "thrown" "I", .fieldLink RX5 93 "PegBoxModel" "paid" "I"] ++ wsX50)
def wsX5_returned : List Cond := .code yX5_returned cX5_returned 1 (some .int) :: ([.fieldLink RX5 56 "PegBoxModel" "thrown" "I", .fieldLink RX5 116 "PegBoxModel" "returned" "I"] ++ wsX50)
def wsX5_setOff : List Cond := .code yX5_setOff cX5_setOff 1 (some .int) :: ([.fieldLink RX5 56 "PegBoxModel" "thrown" "I", .fieldLink RX5 119 "PegBoxModel" "setOff" "I"] ++ wsX50)
def wsX5_owed : List Cond := .code yX5_owed cX5_owed 1 (some .int) :: ([.fieldLink RX5 56 "PegBoxModel" "thrown" "I", .fieldLink RX5 129 "PegBoxModel" "owed" "I"] ++ wsX50)
def wsX5_due : List Cond := .code yX5_due cX5_due 1 (some .int) :: ([.fieldLink RX5 56 "PegBoxModel" "thrown" "I", .methodLink RX5 112 yX5_dueAll, .instanceMethod yX5_dueAll, .selects RX5 yX5_dueAll yX5_dueAll, .initialized RX5, .code yX5_dueAll cX5_dueAll 1 (some .int), .methodLink RX5 108 yX5_dueFor, .instanceMethod yX5_dueFor, .selects RX5 yX5_dueFor yX5_dueFor, .code yX5_dueFor cX5_dueFor 4 (some .int), .fieldLink RX5 99 "PegBoxModel" "claims" "I", .fieldLink RX5 38 "PegBoxModel" "kind" "[I", .fieldLink RX5 47 "PegBoxModel" "settled" "[I", .fieldLink RX5 16 "PegBoxModel" "least" "[I", .fieldLink RX5 22 "PegBoxModel" "whole" "[Z", .fieldLink RX5 19 "PegBoxModel" "basket" "[I", .fieldLink RX5 26 "PegBoxModel" "cap" "[I"] ++ wsX50)
def wsX5_outstanding : List Cond := .code yX5_outstanding cX5_outstanding 1 (some .int) :: ([.fieldLink RX5 56 "PegBoxModel" "thrown" "I", .methodLink RX5 122 yX5_open, .instanceMethod yX5_open, .selects RX5 yX5_open yX5_open, .initialized RX5, .code yX5_open cX5_open 1 (some .int), .fieldLink RX5 116 "PegBoxModel" "returned" "I", .fieldLink RX5 119 "PegBoxModel" "setOff" "I", .methodLink RX5 112 yX5_dueAll, .instanceMethod yX5_dueAll, .selects RX5 yX5_dueAll yX5_dueAll, .code yX5_dueAll cX5_dueAll 1 (some .int), .methodLink RX5 108 yX5_dueFor, .instanceMethod yX5_dueFor, .selects RX5 yX5_dueFor yX5_dueFor, .code yX5_dueFor cX5_dueFor 4 (some .int), .fieldLink RX5 99 "PegBoxModel" "claims" "I", .fieldLink RX5 38 "PegBoxModel" "kind" "[I", .fieldLink RX5 47 "PegBoxModel" "settled" "[I", .fieldLink RX5 16 "PegBoxModel" "least" "[I", .fieldLink RX5 22 "PegBoxModel" "whole" "[Z", .fieldLink RX5 19 "PegBoxModel" "basket" "[I", .fieldLink RX5 26 "PegBoxModel" "cap" "[I"] ++ wsX50)
def wsX5_dueOf : List Cond := .code yX5_dueOf cX5_dueOf 2 (some .int) :: ([.methodLink RX5 61 yX5_in, .static yX5_in, .initialized RX5, .code yX5_in cX5_in 3 (some .boolean), .methodLink RX5 70 yX5_isFine, .instanceMethod yX5_isFine, .selects RX5 yX5_isFine yX5_isFine, .code yX5_isFine cX5_isFine 2 (some .boolean), .fieldLink RX5 56 "PegBoxModel" "thrown" "I", .methodLink RX5 108 yX5_dueFor, .instanceMethod yX5_dueFor, .selects RX5 yX5_dueFor yX5_dueFor, .code yX5_dueFor cX5_dueFor 4 (some .int), .fieldLink RX5 99 "PegBoxModel" "claims" "I", .fieldLink RX5 38 "PegBoxModel" "kind" "[I", .fieldLink RX5 47 "PegBoxModel" "settled" "[I", .fieldLink RX5 16 "PegBoxModel" "least" "[I", .fieldLink RX5 22 "PegBoxModel" "whole" "[Z", .fieldLink RX5 19 "PegBoxModel" "basket" "[I", .fieldLink RX5 26 "PegBoxModel" "cap" "[I"] ++ wsX50)
def wsX5_claims : List Cond := .code yX5_claims cX5_claims 1 (some .int) :: ([.fieldLink RX5 56 "PegBoxModel" "thrown" "I", .fieldLink RX5 99 "PegBoxModel" "claims" "I"] ++ wsX50)
def wsX5_settledAt : List Cond := .code yX5_settledAt cX5_settledAt 2 (some .int) :: ([.fieldLink RX5 47 "PegBoxModel" "settled" "[I", .methodLink RX5 105 yX5_isClaim, .instanceMethod yX5_isClaim, .selects RX5 yX5_isClaim yX5_isClaim, .initialized RX5, .code yX5_isClaim cX5_isClaim 2 (some .boolean), .fieldLink RX5 99 "PegBoxModel" "claims" "I", .methodLink RX5 61 yX5_in, .static yX5_in, .code yX5_in cX5_in 3 (some .boolean), .methodLink RX5 70 yX5_isFine, .instanceMethod yX5_isFine, .selects RX5 yX5_isFine yX5_isFine, .code yX5_isFine cX5_isFine 2 (some .boolean), .fieldLink RX5 56 "PegBoxModel" "thrown" "I"] ++ wsX50)
def wsX5_isMet : List Cond := .code yX5_isMet cX5_isMet 2 (some .boolean) :: ([.fieldLink RX5 53 "PegBoxModel" "met" "[Z", .methodLink RX5 61 yX5_in, .static yX5_in, .initialized RX5, .code yX5_in cX5_in 3 (some .boolean), .methodLink RX5 70 yX5_isFine, .instanceMethod yX5_isFine, .selects RX5 yX5_isFine yX5_isFine, .code yX5_isFine cX5_isFine 2 (some .boolean), .fieldLink RX5 56 "PegBoxModel" "thrown" "I"] ++ wsX50)
def wsJ9_max_7cf53 : List Cond := .code yJ9_max_7cf53 cJ9_max_7cf53 2 (some .int) :: ([])
def wsJ9_min_7cf53 : List Cond := .code yJ9_min_7cf53 cJ9_min_7cf53 2 (some .int) :: ([])
def wsL_setPrice : List Cond := .codeWith yL_setPrice cL_setPrice 5 (some .int) [(0, 7, 10, 13), (0, 7, 14, 15)] :: ([.classLink RL 13 "java/lang/IllegalArgumentException", .classLink RL 15 "java/lang/IllegalStateException", .methodLink RL 7 yX4_setPrice, .instanceMethod yX4_setPrice, .selects RX4 yX4_setPrice yX4_setPrice, .initialized RX4, .code yX4_setPrice cX4_setPrice 4 none, .constant RX4 44 (10000000), .constant RX4 49 (-10000000), .fieldLink RX4 53 "PegBox" "price" "I", .fieldLink RX4 56 "PegBox" "peg" "I", .fieldLink RX4 59 "PegBox" "collar" "I", .methodLink RX4 45 yX4_checkRange, .static yX4_checkRange, .code yX4_checkRange cX4_checkRange 3 none, .classLink RX4 204 "java/lang/IllegalArgumentException", .initialized "java/lang/IllegalArgumentException", .methodLink RX4 50 yX4_checkNotClosed, .instanceMethod yX4_checkNotClosed, .selects RX4 yX4_checkNotClosed yX4_checkNotClosed, .code yX4_checkNotClosed cX4_checkNotClosed 1 none, .classLink RX4 124 "java/lang/IllegalStateException", .initialized "java/lang/IllegalStateException", .fieldLink RX4 37 "PegBox" "day" "I"] ++ wsX40 ++ (vx_atS RX4 208 "java/lang/IllegalArgumentException" ["java/lang/RuntimeException", "java/lang/Exception"]).filter goodWord ++ (vx_atS RX4 128 "java/lang/IllegalStateException" ["java/lang/RuntimeException", "java/lang/Exception"]).filter goodWord)
def wsL_setPart_r1 : List Cond := [Cond.classLink RL 20 "java/lang/IndexOutOfBoundsException", Cond.classLink RL 13 "java/lang/IllegalArgumentException", Cond.classLink RL 15 "java/lang/IllegalStateException", Cond.methodLink RL 17 yX4_setPart, Cond.instanceMethod yX4_setPart, Cond.selects RX4 yX4_setPart yX4_setPart, Cond.initialized RX4, Cond.code yX4_setPart cX4_setPart 4 none, Cond.constant RX4 44 (10000000), Cond.fieldLink RX4 10 "PegBox" "escrow" "LPegBox$Escrow;", Cond.fieldLink RX4 66 "PegBox$Escrow" "amounts" "[I", Cond.fieldLink RX4 70 "PegBox$Escrow" "days" "[I", Cond.methodLink RX4 62 yX4_checkNumber, Cond.static yX4_checkNumber, Cond.code yX4_checkNumber cX4_checkNumber 2 none, Cond.classLink RX4 199 "java/lang/IndexOutOfBoundsException", Cond.initialized "java/lang/IndexOutOfBoundsException", Cond.methodLink RX4 45 yX4_checkRange, Cond.static yX4_checkRange, Cond.code yX4_checkRange cX4_checkRange 3 none, Cond.classLink RX4 204 "java/lang/IllegalArgumentException", Cond.initialized "java/lang/IllegalArgumentException", Cond.methodLink RX4 50 yX4_checkNotClosed, Cond.instanceMethod yX4_checkNotClosed]
def wsL_setPart_r2 : List Cond := [Cond.selects RX4 yX4_checkNotClosed yX4_checkNotClosed, Cond.code yX4_checkNotClosed cX4_checkNotClosed 1 none, Cond.classLink RX4 124 "java/lang/IllegalStateException", Cond.initialized "java/lang/IllegalStateException", Cond.fieldLink RX4 37 "PegBox" "day" "I"]
def wsL_setPart : List Cond := .codeWith yL_setPart cL_setPart 5 (some .int) [(0, 7, 10, 20), (0, 7, 14, 13), (0, 7, 18, 15)] :: ((wsL_setPart_r1 ++ wsL_setPart_r2) ++ wsX40 ++ wsX20 ++ (vx_atS RX4 203 "java/lang/IndexOutOfBoundsException" ["java/lang/RuntimeException", "java/lang/Exception"]).filter goodWord ++ (vx_atS RX4 208 "java/lang/IllegalArgumentException" ["java/lang/RuntimeException", "java/lang/Exception"]).filter goodWord ++ (vx_atS RX4 128 "java/lang/IllegalStateException" ["java/lang/RuntimeException", "java/lang/Exception"]).filter goodWord)
def wsL_setKind_r1 : List Cond := [Cond.classLink RL 20 "java/lang/IndexOutOfBoundsException", Cond.classLink RL 13 "java/lang/IllegalArgumentException", Cond.classLink RL 15 "java/lang/IllegalStateException", Cond.methodLink RL 22 yX4_setKind, Cond.instanceMethod yX4_setKind, Cond.selects RX4 yX4_setKind yX4_setKind, Cond.initialized RX4, Cond.code yX4_setKind cX4_setKind 7 none, Cond.constant RX4 44 (10000000), Cond.constant RX4 73 (100000000), Cond.fieldLink RX4 19 "PegBox" "kinds" "LPegBox$Kinds;", Cond.fieldLink RX4 74 "PegBox$Kinds" "leasts" "[I", Cond.fieldLink RX4 77 "PegBox$Kinds" "baskets" "[I", Cond.fieldLink RX4 80 "PegBox$Kinds" "wholes" "[Z", Cond.fieldLink RX4 84 "PegBox$Kinds" "caps" "[I", Cond.fieldLink RX4 87 "PegBox$Kinds" "lastDays" "[I", Cond.methodLink RX4 62 yX4_checkNumber, Cond.static yX4_checkNumber, Cond.code yX4_checkNumber cX4_checkNumber 2 none, Cond.classLink RX4 199 "java/lang/IndexOutOfBoundsException", Cond.initialized "java/lang/IndexOutOfBoundsException", Cond.methodLink RX4 45 yX4_checkRange, Cond.static yX4_checkRange, Cond.code yX4_checkRange cX4_checkRange 3 none]
def wsL_setKind_r2 : List Cond := [Cond.classLink RX4 204 "java/lang/IllegalArgumentException", Cond.initialized "java/lang/IllegalArgumentException", Cond.methodLink RX4 50 yX4_checkNotClosed, Cond.instanceMethod yX4_checkNotClosed, Cond.selects RX4 yX4_checkNotClosed yX4_checkNotClosed, Cond.code yX4_checkNotClosed cX4_checkNotClosed 1 none, Cond.classLink RX4 124 "java/lang/IllegalStateException", Cond.initialized "java/lang/IllegalStateException", Cond.fieldLink RX4 37 "PegBox" "day" "I"]
def wsL_setKind : List Cond := .codeWith yL_setKind cL_setKind 8 (some .int) [(0, 13, 16, 20), (0, 13, 20, 13), (0, 13, 24, 15)] :: ((wsL_setKind_r1 ++ wsL_setKind_r2) ++ wsX40 ++ wsX30 ++ (vx_atS RX4 203 "java/lang/IndexOutOfBoundsException" ["java/lang/RuntimeException", "java/lang/Exception"]).filter goodWord ++ (vx_atS RX4 208 "java/lang/IllegalArgumentException" ["java/lang/RuntimeException", "java/lang/Exception"]).filter goodWord ++ (vx_atS RX4 128 "java/lang/IllegalStateException" ["java/lang/RuntimeException", "java/lang/Exception"]).filter goodWord)
def wsL_setYear_r1 : List Cond := [Cond.classLink RL 20 "java/lang/IndexOutOfBoundsException", Cond.classLink RL 13 "java/lang/IllegalArgumentException", Cond.classLink RL 15 "java/lang/IllegalStateException", Cond.methodLink RL 26 yX4_setYear, Cond.instanceMethod yX4_setYear, Cond.selects RX4 yX4_setYear yX4_setYear, Cond.initialized RX4, Cond.code yX4_setYear cX4_setYear 4 none, Cond.constant RX4 44 (10000000), Cond.fieldLink RX4 33 "PegBox" "earnOut" "LPegBox$EarnOut;", Cond.fieldLink RX4 90 "PegBox$EarnOut" "targets" "[I", Cond.fieldLink RX4 93 "PegBox$EarnOut" "amounts" "[I", Cond.methodLink RX4 62 yX4_checkNumber, Cond.static yX4_checkNumber, Cond.code yX4_checkNumber cX4_checkNumber 2 none, Cond.classLink RX4 199 "java/lang/IndexOutOfBoundsException", Cond.initialized "java/lang/IndexOutOfBoundsException", Cond.methodLink RX4 45 yX4_checkRange, Cond.static yX4_checkRange, Cond.code yX4_checkRange cX4_checkRange 3 none, Cond.classLink RX4 204 "java/lang/IllegalArgumentException", Cond.initialized "java/lang/IllegalArgumentException", Cond.methodLink RX4 50 yX4_checkNotClosed, Cond.instanceMethod yX4_checkNotClosed]
def wsL_setYear_r2 : List Cond := [Cond.selects RX4 yX4_checkNotClosed yX4_checkNotClosed, Cond.code yX4_checkNotClosed cX4_checkNotClosed 1 none, Cond.classLink RX4 124 "java/lang/IllegalStateException", Cond.initialized "java/lang/IllegalStateException", Cond.fieldLink RX4 37 "PegBox" "day" "I"]
def wsL_setYear : List Cond := .codeWith yL_setYear cL_setYear 5 (some .int) [(0, 7, 10, 20), (0, 7, 14, 13), (0, 7, 18, 15)] :: ((wsL_setYear_r1 ++ wsL_setYear_r2) ++ wsX40 ++ wsX10 ++ (vx_atS RX4 203 "java/lang/IndexOutOfBoundsException" ["java/lang/RuntimeException", "java/lang/Exception"]).filter goodWord ++ (vx_atS RX4 208 "java/lang/IllegalArgumentException" ["java/lang/RuntimeException", "java/lang/Exception"]).filter goodWord ++ (vx_atS RX4 128 "java/lang/IllegalStateException" ["java/lang/RuntimeException", "java/lang/Exception"]).filter goodWord)
def wsL_setCarry : List Cond := .codeWith yL_setCarry cL_setCarry 3 (some .int) [(0, 5, 8, 15)] :: ([.classLink RL 15 "java/lang/IllegalStateException", .methodLink RL 29 yX4_setCarry, .instanceMethod yX4_setCarry, .selects RX4 yX4_setCarry yX4_setCarry, .initialized RX4, .code yX4_setCarry cX4_setCarry 2 none, .fieldLink RX4 33 "PegBox" "earnOut" "LPegBox$EarnOut;", .fieldLink RX4 94 "PegBox$EarnOut" "isCarried" "Z", .methodLink RX4 50 yX4_checkNotClosed, .instanceMethod yX4_checkNotClosed, .selects RX4 yX4_checkNotClosed yX4_checkNotClosed, .code yX4_checkNotClosed cX4_checkNotClosed 1 none, .classLink RX4 124 "java/lang/IllegalStateException", .initialized "java/lang/IllegalStateException", .fieldLink RX4 37 "PegBox" "day" "I"] ++ wsX40 ++ wsX10 ++ (vx_atS RX4 128 "java/lang/IllegalStateException" ["java/lang/RuntimeException", "java/lang/Exception"]).filter goodWord)
def wsL_close_r1 : List Cond := [Cond.classLink RL 13 "java/lang/IllegalArgumentException", Cond.classLink RL 15 "java/lang/IllegalStateException", Cond.methodLink RL 33 yX4_close, Cond.instanceMethod yX4_close, Cond.selects RX4 yX4_close yX4_close, Cond.initialized RX4, Cond.code yX4_close cX4_close 4 (some .int), Cond.constant RX4 44 (10000000), Cond.constant RX4 49 (-10000000), Cond.fieldLink RX4 37 "PegBox" "day" "I", Cond.fieldLink RX4 53 "PegBox" "price" "I", Cond.fieldLink RX4 56 "PegBox" "peg" "I", Cond.methodLink RX4 102 Lib.Math.max.name, Cond.static Lib.Math.max.name, Cond.initialized "java/lang/Math", Cond.code Lib.Math.max.name Lib.Math.max.code 2 (some .int), Cond.fieldLink RX4 41 "PegBox" "finalPrice" "I", Cond.fieldLink RX4 10 "PegBox" "escrow" "LPegBox$Escrow;", Cond.methodLink RX4 112 Lib.Math.min.name, Cond.static Lib.Math.min.name, Cond.code Lib.Math.min.name Lib.Math.min.code 2 (some .int), Cond.fieldLink RX4 115 "PegBox" "held" "I", Cond.fieldLink RX4 118 "PegBox" "paid" "I", Cond.methodLink RX4 45 yX4_checkRange]
def wsL_close_r2 : List Cond := [Cond.static yX4_checkRange, Cond.code yX4_checkRange cX4_checkRange 3 none, Cond.classLink RX4 204 "java/lang/IllegalArgumentException", Cond.initialized "java/lang/IllegalArgumentException", Cond.methodLink RX4 50 yX4_checkNotClosed, Cond.instanceMethod yX4_checkNotClosed, Cond.selects RX4 yX4_checkNotClosed yX4_checkNotClosed, Cond.code yX4_checkNotClosed cX4_checkNotClosed 1 none, Cond.classLink RX4 124 "java/lang/IllegalStateException", Cond.initialized "java/lang/IllegalStateException", Cond.methodLink RX4 98 yX4_beyondCollar, Cond.instanceMethod yX4_beyondCollar, Cond.selects RX4 yX4_beyondCollar yX4_beyondCollar, Cond.code yX4_beyondCollar cX4_beyondCollar 2 (some .int), Cond.fieldLink RX4 59 "PegBox" "collar" "I", Cond.methodLink RX4 108 yX2_total, Cond.instanceMethod yX2_total, Cond.selects RX2 yX2_total yX2_total, Cond.initialized RX2, Cond.code yX2_total cX2_total 3 (some .int), Cond.fieldLink RX2 9 "PegBox$Escrow" "amounts" "[I"]
def wsL_close : List Cond := .codeWith yL_close cL_close 6 (some .int) [(0, 12, 15, 13), (0, 12, 19, 15)] :: ((wsL_close_r1 ++ wsL_close_r2) ++ wsX40 ++ wsX20 ++ (vx_atS RX4 208 "java/lang/IllegalArgumentException" ["java/lang/RuntimeException", "java/lang/Exception"]).filter goodWord ++ (vx_atS RX4 128 "java/lang/IllegalStateException" ["java/lang/RuntimeException", "java/lang/Exception"]).filter goodWord)
def wsL_advance_r1 : List Cond := [Cond.classLink RL 13 "java/lang/IllegalArgumentException", Cond.classLink RL 15 "java/lang/IllegalStateException", Cond.methodLink RL 37 yX4_advance, Cond.instanceMethod yX4_advance, Cond.selects RX4 yX4_advance yX4_advance, Cond.initialized RX4, Cond.code yX4_advance cX4_advance 2 (some .int), Cond.classLink RX4 124 "java/lang/IllegalStateException", Cond.initialized "java/lang/IllegalStateException", Cond.fieldLink RX4 37 "PegBox" "day" "I", Cond.methodLink RX4 45 yX4_checkRange, Cond.static yX4_checkRange, Cond.code yX4_checkRange cX4_checkRange 3 none, Cond.classLink RX4 204 "java/lang/IllegalArgumentException", Cond.initialized "java/lang/IllegalArgumentException", Cond.methodLink RX4 121 yX4_checkClosed, Cond.instanceMethod yX4_checkClosed, Cond.selects RX4 yX4_checkClosed yX4_checkClosed, Cond.code yX4_checkClosed cX4_checkClosed 1 none, Cond.methodLink RX4 131 yX4_free, Cond.instanceMethod yX4_free, Cond.selects RX4 yX4_free yX4_free, Cond.code yX4_free cX4_free 2 none, Cond.fieldLink RX4 10 "PegBox" "escrow" "LPegBox$Escrow;"]
def wsL_advance_r2 : List Cond := [Cond.fieldLink RX4 26 "PegBox" "book" "LPegBox$ClaimBook;", Cond.fieldLink RX4 115 "PegBox" "held" "I", Cond.fieldLink RX4 118 "PegBox" "paid" "I", Cond.methodLink RX4 221 yX2_totalAfter, Cond.instanceMethod yX2_totalAfter, Cond.selects RX2 yX2_totalAfter yX2_totalAfter, Cond.initialized RX2, Cond.code yX2_totalAfter cX2_totalAfter 4 (some .int), Cond.fieldLink RX2 15 "PegBox$Escrow" "days" "[I", Cond.fieldLink RX2 9 "PegBox$Escrow" "amounts" "[I", Cond.methodLink RX4 224 yX0_openSum, Cond.instanceMethod yX0_openSum, Cond.selects RX0 yX0_openSum yX0_openSum, Cond.initialized RX0, Cond.code yX0_openSum cX0_openSum 3 (some .int), Cond.fieldLink RX0 24 "PegBox$ClaimBook" "count" "I", Cond.fieldLink RX0 21 "PegBox$ClaimBook" "settled" "[I", Cond.fieldLink RX0 15 "PegBox$ClaimBook" "amounts" "[I"]
def wsL_advance : List Cond := .codeWith yL_advance cL_advance 4 (some .int) [(0, 9, 12, 13), (0, 9, 15, 15)] :: ((wsL_advance_r1 ++ wsL_advance_r2) ++ wsX40 ++ wsX20 ++ wsX00 ++ (vx_atS RX4 128 "java/lang/IllegalStateException" ["java/lang/RuntimeException", "java/lang/Exception"]).filter goodWord ++ (vx_atS RX4 208 "java/lang/IllegalArgumentException" ["java/lang/RuntimeException", "java/lang/Exception"]).filter goodWord)
def wsL_claim_r1 : List Cond := [Cond.classLink RL 20 "java/lang/IndexOutOfBoundsException", Cond.classLink RL 13 "java/lang/IllegalArgumentException", Cond.classLink RL 15 "java/lang/IllegalStateException", Cond.methodLink RL 41 yX4_claim, Cond.instanceMethod yX4_claim, Cond.selects RX4 yX4_claim yX4_claim, Cond.initialized RX4, Cond.code yX4_claim cX4_claim 4 (some .int), Cond.classLink RX4 124 "java/lang/IllegalStateException", Cond.initialized "java/lang/IllegalStateException", Cond.constant RX4 44 (10000000), Cond.fieldLink RX4 37 "PegBox" "day" "I", Cond.fieldLink RX4 19 "PegBox" "kinds" "LPegBox$Kinds;", Cond.fieldLink RX4 87 "PegBox$Kinds" "lastDays" "[I", Cond.fieldLink RX4 26 "PegBox" "book" "LPegBox$ClaimBook;", Cond.fieldLink RX4 136 "PegBox$ClaimBook" "count" "I", Cond.fieldLink RX4 141 "PegBox$ClaimBook" "kinds" "[I", Cond.fieldLink RX4 143 "PegBox$ClaimBook" "amounts" "[I", Cond.fieldLink RX4 144 "PegBox$ClaimBook" "offers" "[I", Cond.fieldLink RX4 147 "PegBox$ClaimBook" "settled" "[I", Cond.methodLink RX4 62 yX4_checkNumber, Cond.static yX4_checkNumber, Cond.code yX4_checkNumber cX4_checkNumber 2 none, Cond.classLink RX4 199 "java/lang/IndexOutOfBoundsException"]
def wsL_claim_r2 : List Cond := [Cond.initialized "java/lang/IndexOutOfBoundsException", Cond.methodLink RX4 45 yX4_checkRange, Cond.static yX4_checkRange, Cond.code yX4_checkRange cX4_checkRange 3 none, Cond.classLink RX4 204 "java/lang/IllegalArgumentException", Cond.initialized "java/lang/IllegalArgumentException", Cond.methodLink RX4 121 yX4_checkClosed, Cond.instanceMethod yX4_checkClosed, Cond.selects RX4 yX4_checkClosed yX4_checkClosed, Cond.code yX4_checkClosed cX4_checkClosed 1 none]
def wsL_claim : List Cond := .codeWith yL_claim cL_claim 5 (some .int) [(0, 10, 13, 20), (0, 10, 17, 13), (0, 10, 21, 15)] :: ((wsL_claim_r1 ++ wsL_claim_r2) ++ wsX40 ++ wsX30 ++ wsX00 ++ (vx_atS RX4 128 "java/lang/IllegalStateException" ["java/lang/RuntimeException", "java/lang/Exception"]).filter goodWord ++ (vx_atS RX4 203 "java/lang/IndexOutOfBoundsException" ["java/lang/RuntimeException", "java/lang/Exception"]).filter goodWord ++ (vx_atS RX4 208 "java/lang/IllegalArgumentException" ["java/lang/RuntimeException", "java/lang/Exception"]).filter goodWord)
def wsL_offer_r1 : List Cond := [Cond.classLink RL 20 "java/lang/IndexOutOfBoundsException", Cond.classLink RL 15 "java/lang/IllegalStateException", Cond.classLink RL 13 "java/lang/IllegalArgumentException", Cond.methodLink RL 45 yX4_offer, Cond.instanceMethod yX4_offer, Cond.selects RX4 yX4_offer yX4_offer, Cond.initialized RX4, Cond.code yX4_offer cX4_offer 4 (some .int), Cond.fieldLink RX4 26 "PegBox" "book" "LPegBox$ClaimBook;", Cond.fieldLink RX4 136 "PegBox$ClaimBook" "count" "I", Cond.fieldLink RX4 147 "PegBox$ClaimBook" "settled" "[I", Cond.fieldLink RX4 143 "PegBox$ClaimBook" "amounts" "[I", Cond.fieldLink RX4 144 "PegBox$ClaimBook" "offers" "[I", Cond.methodLink RX4 62 yX4_checkNumber, Cond.static yX4_checkNumber, Cond.code yX4_checkNumber cX4_checkNumber 2 none, Cond.classLink RX4 199 "java/lang/IndexOutOfBoundsException", Cond.initialized "java/lang/IndexOutOfBoundsException", Cond.methodLink RX4 150 yX4_checkOpen, Cond.static yX4_checkOpen, Cond.code yX4_checkOpen cX4_checkOpen 1 none, Cond.classLink RX4 124 "java/lang/IllegalStateException", Cond.initialized "java/lang/IllegalStateException", Cond.methodLink RX4 45 yX4_checkRange]
def wsL_offer_r2 : List Cond := [Cond.static yX4_checkRange, Cond.code yX4_checkRange cX4_checkRange 3 none, Cond.classLink RX4 204 "java/lang/IllegalArgumentException", Cond.initialized "java/lang/IllegalArgumentException"]
def wsL_offer : List Cond := .codeWith yL_offer cL_offer 5 (some .int) [(0, 10, 13, 20), (0, 10, 17, 15), (0, 10, 21, 13)] :: ((wsL_offer_r1 ++ wsL_offer_r2) ++ wsX40 ++ wsX00 ++ (vx_atS RX4 203 "java/lang/IndexOutOfBoundsException" ["java/lang/RuntimeException", "java/lang/Exception"]).filter goodWord ++ (vx_atS RX4 128 "java/lang/IllegalStateException" ["java/lang/RuntimeException", "java/lang/Exception"]).filter goodWord ++ (vx_atS RX4 208 "java/lang/IllegalArgumentException" ["java/lang/RuntimeException", "java/lang/Exception"]).filter goodWord)
def wsL_agree_r1 : List Cond := [Cond.classLink RL 20 "java/lang/IndexOutOfBoundsException", Cond.classLink RL 15 "java/lang/IllegalStateException", Cond.methodLink RL 48 yX4_agree, Cond.instanceMethod yX4_agree, Cond.selects RX4 yX4_agree yX4_agree, Cond.initialized RX4, Cond.code yX4_agree cX4_agree 3 (some .int), Cond.classLink RX4 124 "java/lang/IllegalStateException", Cond.initialized "java/lang/IllegalStateException", Cond.fieldLink RX4 26 "PegBox" "book" "LPegBox$ClaimBook;", Cond.fieldLink RX4 136 "PegBox$ClaimBook" "count" "I", Cond.fieldLink RX4 147 "PegBox$ClaimBook" "settled" "[I", Cond.fieldLink RX4 144 "PegBox$ClaimBook" "offers" "[I", Cond.methodLink RX4 62 yX4_checkNumber, Cond.static yX4_checkNumber, Cond.code yX4_checkNumber cX4_checkNumber 2 none, Cond.classLink RX4 199 "java/lang/IndexOutOfBoundsException", Cond.initialized "java/lang/IndexOutOfBoundsException", Cond.methodLink RX4 150 yX4_checkOpen, Cond.static yX4_checkOpen, Cond.code yX4_checkOpen cX4_checkOpen 1 none, Cond.methodLink RX4 156 yX4_payOut, Cond.instanceMethod yX4_payOut, Cond.selects RX4 yX4_payOut yX4_payOut]
def wsL_agree_r2 : List Cond := [Cond.code yX4_payOut cX4_payOut 2 (some .int), Cond.fieldLink RX4 115 "PegBox" "held" "I", Cond.methodLink RX4 112 Lib.Math.min.name, Cond.static Lib.Math.min.name, Cond.initialized "java/lang/Math", Cond.code Lib.Math.min.name Lib.Math.min.code 2 (some .int), Cond.fieldLink RX4 178 "PegBox" "returned" "I", Cond.methodLink RX4 190 yX4_leftOutstanding, Cond.instanceMethod yX4_leftOutstanding, Cond.selects RX4 yX4_leftOutstanding yX4_leftOutstanding, Cond.code yX4_leftOutstanding cX4_leftOutstanding 1 (some .int), Cond.fieldLink RX4 181 "PegBox" "setOff" "I", Cond.methodLink RX4 187 yX4_dueInAll, Cond.instanceMethod yX4_dueInAll, Cond.selects RX4 yX4_dueInAll yX4_dueInAll, Cond.code yX4_dueInAll cX4_dueInAll 3 (some .int), Cond.methodLink RX4 193 yX4_dueOfKind, Cond.instanceMethod yX4_dueOfKind, Cond.selects RX4 yX4_dueOfKind yX4_dueOfKind, Cond.code yX4_dueOfKind cX4_dueOfKind 2 (some .int), Cond.fieldLink RX4 19 "PegBox" "kinds" "LPegBox$Kinds;", Cond.fieldLink RX4 74 "PegBox$Kinds" "leasts" "[I", Cond.methodLink RX4 215 yX0_settledSum, Cond.instanceMethod yX0_settledSum]
def wsL_agree_r3 : List Cond := [Cond.selects RX0 yX0_settledSum yX0_settledSum, Cond.initialized RX0, Cond.code yX0_settledSum cX0_settledSum 5 (some .int), Cond.fieldLink RX0 24 "PegBox$ClaimBook" "count" "I", Cond.fieldLink RX0 9 "PegBox$ClaimBook" "kinds" "[I", Cond.fieldLink RX0 21 "PegBox$ClaimBook" "settled" "[I", Cond.methodLink RX4 218 yX3_limit, Cond.instanceMethod yX3_limit, Cond.selects RX3 yX3_limit yX3_limit, Cond.initialized RX3, Cond.code yX3_limit cX3_limit 3 (some .int), Cond.fieldLink RX3 22 "PegBox$Kinds" "caps" "[I", Cond.methodLink RX3 32 Lib.Math.min.name, Cond.methodLink RX3 28 yX3_pastBasket, Cond.instanceMethod yX3_pastBasket, Cond.selects RX3 yX3_pastBasket yX3_pastBasket, Cond.code yX3_pastBasket cX3_pastBasket 4 (some .int), Cond.fieldLink RX3 15 "PegBox$Kinds" "baskets" "[I", Cond.fieldLink RX3 18 "PegBox$Kinds" "wholes" "[Z", Cond.methodLink RX4 131 yX4_free, Cond.instanceMethod yX4_free, Cond.selects RX4 yX4_free yX4_free, Cond.code yX4_free cX4_free 2 none, Cond.fieldLink RX4 10 "PegBox" "escrow" "LPegBox$Escrow;"]
def wsL_agree_r4 : List Cond := [Cond.fieldLink RX4 37 "PegBox" "day" "I", Cond.fieldLink RX4 118 "PegBox" "paid" "I", Cond.methodLink RX4 221 yX2_totalAfter, Cond.instanceMethod yX2_totalAfter, Cond.selects RX2 yX2_totalAfter yX2_totalAfter, Cond.initialized RX2, Cond.code yX2_totalAfter cX2_totalAfter 4 (some .int), Cond.fieldLink RX2 15 "PegBox$Escrow" "days" "[I", Cond.fieldLink RX2 9 "PegBox$Escrow" "amounts" "[I", Cond.methodLink RX4 224 yX0_openSum, Cond.instanceMethod yX0_openSum, Cond.selects RX0 yX0_openSum yX0_openSum, Cond.code yX0_openSum cX0_openSum 3 (some .int), Cond.fieldLink RX0 15 "PegBox$ClaimBook" "amounts" "[I"]
def wsL_agree : List Cond := .codeWith yL_agree cL_agree 4 (some .int) [(0, 9, 12, 20), (0, 9, 15, 15)] :: ((wsL_agree_r1 ++ (wsL_agree_r2 ++ (wsL_agree_r3 ++ wsL_agree_r4))) ++ wsX40 ++ wsX00 ++ wsX30 ++ wsX20 ++ (vx_atS RX4 128 "java/lang/IllegalStateException" ["java/lang/RuntimeException", "java/lang/Exception"]).filter goodWord ++ (vx_atS RX4 203 "java/lang/IndexOutOfBoundsException" ["java/lang/RuntimeException", "java/lang/Exception"]).filter goodWord)
def wsL_decide_r1 : List Cond := [Cond.classLink RL 20 "java/lang/IndexOutOfBoundsException", Cond.classLink RL 15 "java/lang/IllegalStateException", Cond.classLink RL 13 "java/lang/IllegalArgumentException", Cond.methodLink RL 51 yX4_decide, Cond.instanceMethod yX4_decide, Cond.selects RX4 yX4_decide yX4_decide, Cond.initialized RX4, Cond.code yX4_decide cX4_decide 4 (some .int), Cond.fieldLink RX4 26 "PegBox" "book" "LPegBox$ClaimBook;", Cond.fieldLink RX4 136 "PegBox$ClaimBook" "count" "I", Cond.fieldLink RX4 147 "PegBox$ClaimBook" "settled" "[I", Cond.fieldLink RX4 144 "PegBox$ClaimBook" "offers" "[I", Cond.fieldLink RX4 143 "PegBox$ClaimBook" "amounts" "[I", Cond.methodLink RX4 62 yX4_checkNumber, Cond.static yX4_checkNumber, Cond.code yX4_checkNumber cX4_checkNumber 2 none, Cond.classLink RX4 199 "java/lang/IndexOutOfBoundsException", Cond.initialized "java/lang/IndexOutOfBoundsException", Cond.methodLink RX4 150 yX4_checkOpen, Cond.static yX4_checkOpen, Cond.code yX4_checkOpen cX4_checkOpen 1 none, Cond.classLink RX4 124 "java/lang/IllegalStateException", Cond.initialized "java/lang/IllegalStateException", Cond.methodLink RX4 45 yX4_checkRange]
def wsL_decide_r2 : List Cond := [Cond.static yX4_checkRange, Cond.code yX4_checkRange cX4_checkRange 3 none, Cond.classLink RX4 204 "java/lang/IllegalArgumentException", Cond.initialized "java/lang/IllegalArgumentException", Cond.methodLink RX4 156 yX4_payOut, Cond.instanceMethod yX4_payOut, Cond.selects RX4 yX4_payOut yX4_payOut, Cond.code yX4_payOut cX4_payOut 2 (some .int), Cond.fieldLink RX4 115 "PegBox" "held" "I", Cond.methodLink RX4 112 Lib.Math.min.name, Cond.static Lib.Math.min.name, Cond.initialized "java/lang/Math", Cond.code Lib.Math.min.name Lib.Math.min.code 2 (some .int), Cond.fieldLink RX4 178 "PegBox" "returned" "I", Cond.methodLink RX4 190 yX4_leftOutstanding, Cond.instanceMethod yX4_leftOutstanding, Cond.selects RX4 yX4_leftOutstanding yX4_leftOutstanding, Cond.code yX4_leftOutstanding cX4_leftOutstanding 1 (some .int), Cond.fieldLink RX4 181 "PegBox" "setOff" "I", Cond.methodLink RX4 187 yX4_dueInAll, Cond.instanceMethod yX4_dueInAll, Cond.selects RX4 yX4_dueInAll yX4_dueInAll, Cond.code yX4_dueInAll cX4_dueInAll 3 (some .int), Cond.methodLink RX4 193 yX4_dueOfKind]
def wsL_decide_r3 : List Cond := [Cond.instanceMethod yX4_dueOfKind, Cond.selects RX4 yX4_dueOfKind yX4_dueOfKind, Cond.code yX4_dueOfKind cX4_dueOfKind 2 (some .int), Cond.fieldLink RX4 19 "PegBox" "kinds" "LPegBox$Kinds;", Cond.fieldLink RX4 74 "PegBox$Kinds" "leasts" "[I", Cond.methodLink RX4 215 yX0_settledSum, Cond.instanceMethod yX0_settledSum, Cond.selects RX0 yX0_settledSum yX0_settledSum, Cond.initialized RX0, Cond.code yX0_settledSum cX0_settledSum 5 (some .int), Cond.fieldLink RX0 24 "PegBox$ClaimBook" "count" "I", Cond.fieldLink RX0 9 "PegBox$ClaimBook" "kinds" "[I", Cond.fieldLink RX0 21 "PegBox$ClaimBook" "settled" "[I", Cond.methodLink RX4 218 yX3_limit, Cond.instanceMethod yX3_limit, Cond.selects RX3 yX3_limit yX3_limit, Cond.initialized RX3, Cond.code yX3_limit cX3_limit 3 (some .int), Cond.fieldLink RX3 22 "PegBox$Kinds" "caps" "[I", Cond.methodLink RX3 32 Lib.Math.min.name, Cond.methodLink RX3 28 yX3_pastBasket, Cond.instanceMethod yX3_pastBasket, Cond.selects RX3 yX3_pastBasket yX3_pastBasket, Cond.code yX3_pastBasket cX3_pastBasket 4 (some .int)]
def wsL_decide_r4 : List Cond := [Cond.fieldLink RX3 15 "PegBox$Kinds" "baskets" "[I", Cond.fieldLink RX3 18 "PegBox$Kinds" "wholes" "[Z", Cond.methodLink RX4 131 yX4_free, Cond.instanceMethod yX4_free, Cond.selects RX4 yX4_free yX4_free, Cond.code yX4_free cX4_free 2 none, Cond.fieldLink RX4 10 "PegBox" "escrow" "LPegBox$Escrow;", Cond.fieldLink RX4 37 "PegBox" "day" "I", Cond.fieldLink RX4 118 "PegBox" "paid" "I", Cond.methodLink RX4 221 yX2_totalAfter, Cond.instanceMethod yX2_totalAfter, Cond.selects RX2 yX2_totalAfter yX2_totalAfter, Cond.initialized RX2, Cond.code yX2_totalAfter cX2_totalAfter 4 (some .int), Cond.fieldLink RX2 15 "PegBox$Escrow" "days" "[I", Cond.fieldLink RX2 9 "PegBox$Escrow" "amounts" "[I", Cond.methodLink RX4 224 yX0_openSum, Cond.instanceMethod yX0_openSum, Cond.selects RX0 yX0_openSum yX0_openSum, Cond.code yX0_openSum cX0_openSum 3 (some .int), Cond.fieldLink RX0 15 "PegBox$ClaimBook" "amounts" "[I"]
def wsL_decide : List Cond := .codeWith yL_decide cL_decide 5 (some .int) [(0, 10, 13, 20), (0, 10, 17, 15), (0, 10, 21, 13)] :: ((wsL_decide_r1 ++ (wsL_decide_r2 ++ (wsL_decide_r3 ++ wsL_decide_r4))) ++ wsX40 ++ wsX00 ++ wsX30 ++ wsX20 ++ (vx_atS RX4 203 "java/lang/IndexOutOfBoundsException" ["java/lang/RuntimeException", "java/lang/Exception"]).filter goodWord ++ (vx_atS RX4 128 "java/lang/IllegalStateException" ["java/lang/RuntimeException", "java/lang/Exception"]).filter goodWord ++ (vx_atS RX4 208 "java/lang/IllegalArgumentException" ["java/lang/RuntimeException", "java/lang/Exception"]).filter goodWord)
def wsL_report_r1 : List Cond := [Cond.classLink RL 13 "java/lang/IllegalArgumentException", Cond.classLink RL 15 "java/lang/IllegalStateException", Cond.methodLink RL 54 yX4_report, Cond.instanceMethod yX4_report, Cond.selects RX4 yX4_report yX4_report, Cond.initialized RX4, Cond.code yX4_report cX4_report 2 (some .int), Cond.classLink RX4 124 "java/lang/IllegalStateException", Cond.initialized "java/lang/IllegalStateException", Cond.constant RX4 49 (-10000000), Cond.constant RX4 44 (10000000), Cond.fieldLink RX4 33 "PegBox" "earnOut" "LPegBox$EarnOut;", Cond.fieldLink RX4 159 "PegBox$EarnOut" "isSpedUp" "Z", Cond.fieldLink RX4 164 "PegBox$EarnOut" "told" "I", Cond.methodLink RX4 45 yX4_checkRange, Cond.static yX4_checkRange, Cond.code yX4_checkRange cX4_checkRange 3 none, Cond.classLink RX4 204 "java/lang/IllegalArgumentException", Cond.initialized "java/lang/IllegalArgumentException", Cond.methodLink RX4 121 yX4_checkClosed, Cond.instanceMethod yX4_checkClosed, Cond.selects RX4 yX4_checkClosed yX4_checkClosed, Cond.code yX4_checkClosed cX4_checkClosed 1 none, Cond.fieldLink RX4 37 "PegBox" "day" "I"]
def wsL_report_r2 : List Cond := [Cond.methodLink RX4 169 yX1_tell, Cond.instanceMethod yX1_tell, Cond.selects RX1 yX1_tell yX1_tell, Cond.initialized RX1, Cond.code yX1_tell cX1_tell 3 (some .int), Cond.fieldLink RX1 22 "PegBox$EarnOut" "told" "I", Cond.fieldLink RX1 26 "PegBox$EarnOut" "resultSum" "I", Cond.fieldLink RX1 29 "PegBox$EarnOut" "targetSum" "I", Cond.fieldLink RX1 9 "PegBox$EarnOut" "targets" "[I", Cond.fieldLink RX1 32 "PegBox$EarnOut" "isCarried" "Z", Cond.methodLink RX1 36 yX1_meet, Cond.instanceMethod yX1_meet, Cond.selects RX1 yX1_meet yX1_meet, Cond.code yX1_meet cX1_meet 5 (some .int), Cond.fieldLink RX1 18 "PegBox$EarnOut" "met" "[Z", Cond.fieldLink RX1 15 "PegBox$EarnOut" "amounts" "[I", Cond.methodLink RX4 172 yX4_owe, Cond.instanceMethod yX4_owe, Cond.selects RX4 yX4_owe yX4_owe, Cond.code yX4_owe cX4_owe 3 (some .int), Cond.methodLink RX4 112 Lib.Math.min.name, Cond.static Lib.Math.min.name, Cond.initialized "java/lang/Math", Cond.code Lib.Math.min.name Lib.Math.min.code 2 (some .int)]
def wsL_report_r3 : List Cond := [Cond.fieldLink RX4 184 "PegBox" "owed" "I", Cond.fieldLink RX4 181 "PegBox" "setOff" "I", Cond.fieldLink RX4 118 "PegBox" "paid" "I", Cond.methodLink RX4 190 yX4_leftOutstanding, Cond.instanceMethod yX4_leftOutstanding, Cond.selects RX4 yX4_leftOutstanding yX4_leftOutstanding, Cond.code yX4_leftOutstanding cX4_leftOutstanding 1 (some .int), Cond.fieldLink RX4 178 "PegBox" "returned" "I", Cond.methodLink RX4 187 yX4_dueInAll, Cond.instanceMethod yX4_dueInAll, Cond.selects RX4 yX4_dueInAll yX4_dueInAll, Cond.code yX4_dueInAll cX4_dueInAll 3 (some .int), Cond.methodLink RX4 193 yX4_dueOfKind, Cond.instanceMethod yX4_dueOfKind, Cond.selects RX4 yX4_dueOfKind yX4_dueOfKind, Cond.code yX4_dueOfKind cX4_dueOfKind 2 (some .int), Cond.fieldLink RX4 19 "PegBox" "kinds" "LPegBox$Kinds;", Cond.fieldLink RX4 26 "PegBox" "book" "LPegBox$ClaimBook;", Cond.fieldLink RX4 74 "PegBox$Kinds" "leasts" "[I", Cond.methodLink RX4 215 yX0_settledSum, Cond.instanceMethod yX0_settledSum, Cond.selects RX0 yX0_settledSum yX0_settledSum, Cond.initialized RX0, Cond.code yX0_settledSum cX0_settledSum 5 (some .int)]
def wsL_report_r4 : List Cond := [Cond.fieldLink RX0 24 "PegBox$ClaimBook" "count" "I", Cond.fieldLink RX0 9 "PegBox$ClaimBook" "kinds" "[I", Cond.fieldLink RX0 21 "PegBox$ClaimBook" "settled" "[I", Cond.methodLink RX4 218 yX3_limit, Cond.instanceMethod yX3_limit, Cond.selects RX3 yX3_limit yX3_limit, Cond.initialized RX3, Cond.code yX3_limit cX3_limit 3 (some .int), Cond.fieldLink RX3 22 "PegBox$Kinds" "caps" "[I", Cond.methodLink RX3 32 Lib.Math.min.name, Cond.methodLink RX3 28 yX3_pastBasket, Cond.instanceMethod yX3_pastBasket, Cond.selects RX3 yX3_pastBasket yX3_pastBasket, Cond.code yX3_pastBasket cX3_pastBasket 4 (some .int), Cond.fieldLink RX3 15 "PegBox$Kinds" "baskets" "[I", Cond.fieldLink RX3 18 "PegBox$Kinds" "wholes" "[Z"]
def wsL_report : List Cond := .codeWith yL_report cL_report 4 (some .int) [(0, 9, 12, 13), (0, 9, 15, 15)] :: ((wsL_report_r1 ++ (wsL_report_r2 ++ (wsL_report_r3 ++ wsL_report_r4))) ++ wsX40 ++ wsX10 ++ wsX30 ++ wsX00 ++ (vx_atS RX4 128 "java/lang/IllegalStateException" ["java/lang/RuntimeException", "java/lang/Exception"]).filter goodWord ++ (vx_atS RX4 208 "java/lang/IllegalArgumentException" ["java/lang/RuntimeException", "java/lang/Exception"]).filter goodWord)
def wsL_speedUp_r1 : List Cond := [Cond.classLink RL 15 "java/lang/IllegalStateException", Cond.methodLink RL 57 yX4_speedUp, Cond.instanceMethod yX4_speedUp, Cond.selects RX4 yX4_speedUp yX4_speedUp, Cond.initialized RX4, Cond.code yX4_speedUp cX4_speedUp 1 (some .int), Cond.classLink RX4 124 "java/lang/IllegalStateException", Cond.initialized "java/lang/IllegalStateException", Cond.fieldLink RX4 33 "PegBox" "earnOut" "LPegBox$EarnOut;", Cond.fieldLink RX4 159 "PegBox$EarnOut" "isSpedUp" "Z", Cond.methodLink RX4 121 yX4_checkClosed, Cond.instanceMethod yX4_checkClosed, Cond.selects RX4 yX4_checkClosed yX4_checkClosed, Cond.code yX4_checkClosed cX4_checkClosed 1 none, Cond.fieldLink RX4 37 "PegBox" "day" "I", Cond.methodLink RX4 175 yX1_hasten, Cond.instanceMethod yX1_hasten, Cond.selects RX1 yX1_hasten yX1_hasten, Cond.initialized RX1, Cond.code yX1_hasten cX1_hasten 1 (some .int), Cond.fieldLink RX1 40 "PegBox$EarnOut" "isSpedUp" "Z", Cond.fieldLink RX1 22 "PegBox$EarnOut" "told" "I", Cond.methodLink RX1 36 yX1_meet, Cond.instanceMethod yX1_meet]
def wsL_speedUp_r2 : List Cond := [Cond.selects RX1 yX1_meet yX1_meet, Cond.code yX1_meet cX1_meet 5 (some .int), Cond.fieldLink RX1 18 "PegBox$EarnOut" "met" "[Z", Cond.fieldLink RX1 15 "PegBox$EarnOut" "amounts" "[I", Cond.methodLink RX4 172 yX4_owe, Cond.instanceMethod yX4_owe, Cond.selects RX4 yX4_owe yX4_owe, Cond.code yX4_owe cX4_owe 3 (some .int), Cond.methodLink RX4 112 Lib.Math.min.name, Cond.static Lib.Math.min.name, Cond.initialized "java/lang/Math", Cond.code Lib.Math.min.name Lib.Math.min.code 2 (some .int), Cond.fieldLink RX4 184 "PegBox" "owed" "I", Cond.fieldLink RX4 181 "PegBox" "setOff" "I", Cond.fieldLink RX4 118 "PegBox" "paid" "I", Cond.methodLink RX4 190 yX4_leftOutstanding, Cond.instanceMethod yX4_leftOutstanding, Cond.selects RX4 yX4_leftOutstanding yX4_leftOutstanding, Cond.code yX4_leftOutstanding cX4_leftOutstanding 1 (some .int), Cond.fieldLink RX4 178 "PegBox" "returned" "I", Cond.methodLink RX4 187 yX4_dueInAll, Cond.instanceMethod yX4_dueInAll, Cond.selects RX4 yX4_dueInAll yX4_dueInAll, Cond.code yX4_dueInAll cX4_dueInAll 3 (some .int)]
def wsL_speedUp_r3 : List Cond := [Cond.methodLink RX4 193 yX4_dueOfKind, Cond.instanceMethod yX4_dueOfKind, Cond.selects RX4 yX4_dueOfKind yX4_dueOfKind, Cond.code yX4_dueOfKind cX4_dueOfKind 2 (some .int), Cond.fieldLink RX4 19 "PegBox" "kinds" "LPegBox$Kinds;", Cond.fieldLink RX4 26 "PegBox" "book" "LPegBox$ClaimBook;", Cond.fieldLink RX4 74 "PegBox$Kinds" "leasts" "[I", Cond.methodLink RX4 215 yX0_settledSum, Cond.instanceMethod yX0_settledSum, Cond.selects RX0 yX0_settledSum yX0_settledSum, Cond.initialized RX0, Cond.code yX0_settledSum cX0_settledSum 5 (some .int), Cond.fieldLink RX0 24 "PegBox$ClaimBook" "count" "I", Cond.fieldLink RX0 9 "PegBox$ClaimBook" "kinds" "[I", Cond.fieldLink RX0 21 "PegBox$ClaimBook" "settled" "[I", Cond.methodLink RX4 218 yX3_limit, Cond.instanceMethod yX3_limit, Cond.selects RX3 yX3_limit yX3_limit, Cond.initialized RX3, Cond.code yX3_limit cX3_limit 3 (some .int), Cond.fieldLink RX3 22 "PegBox$Kinds" "caps" "[I", Cond.methodLink RX3 32 Lib.Math.min.name, Cond.methodLink RX3 28 yX3_pastBasket, Cond.instanceMethod yX3_pastBasket]
def wsL_speedUp_r4 : List Cond := [Cond.selects RX3 yX3_pastBasket yX3_pastBasket, Cond.code yX3_pastBasket cX3_pastBasket 4 (some .int), Cond.fieldLink RX3 15 "PegBox$Kinds" "baskets" "[I", Cond.fieldLink RX3 18 "PegBox$Kinds" "wholes" "[Z"]
def wsL_speedUp : List Cond := .codeWith yL_speedUp cL_speedUp 3 (some .int) [(0, 8, 11, 15)] :: ((wsL_speedUp_r1 ++ (wsL_speedUp_r2 ++ (wsL_speedUp_r3 ++ wsL_speedUp_r4))) ++ wsX40 ++ wsX10 ++ wsX30 ++ wsX00 ++ (vx_atS RX4 128 "java/lang/IllegalStateException" ["java/lang/RuntimeException", "java/lang/Exception"]).filter goodWord)
def wsL_dueOf_r1 : List Cond := [Cond.classLink RL 20 "java/lang/IndexOutOfBoundsException", Cond.methodLink RL 61 yX4_dueOf, Cond.instanceMethod yX4_dueOf, Cond.selects RX4 yX4_dueOf yX4_dueOf, Cond.initialized RX4, Cond.code yX4_dueOf cX4_dueOf 2 (some .int), Cond.methodLink RX4 62 yX4_checkNumber, Cond.static yX4_checkNumber, Cond.code yX4_checkNumber cX4_checkNumber 2 none, Cond.classLink RX4 199 "java/lang/IndexOutOfBoundsException", Cond.initialized "java/lang/IndexOutOfBoundsException", Cond.methodLink RX4 193 yX4_dueOfKind, Cond.instanceMethod yX4_dueOfKind, Cond.selects RX4 yX4_dueOfKind yX4_dueOfKind, Cond.code yX4_dueOfKind cX4_dueOfKind 2 (some .int), Cond.fieldLink RX4 19 "PegBox" "kinds" "LPegBox$Kinds;", Cond.fieldLink RX4 26 "PegBox" "book" "LPegBox$ClaimBook;", Cond.fieldLink RX4 74 "PegBox$Kinds" "leasts" "[I", Cond.methodLink RX4 215 yX0_settledSum, Cond.instanceMethod yX0_settledSum, Cond.selects RX0 yX0_settledSum yX0_settledSum, Cond.initialized RX0, Cond.code yX0_settledSum cX0_settledSum 5 (some .int), Cond.fieldLink RX0 24 "PegBox$ClaimBook" "count" "I"]
def wsL_dueOf_r2 : List Cond := [Cond.fieldLink RX0 9 "PegBox$ClaimBook" "kinds" "[I", Cond.fieldLink RX0 21 "PegBox$ClaimBook" "settled" "[I", Cond.methodLink RX4 218 yX3_limit, Cond.instanceMethod yX3_limit, Cond.selects RX3 yX3_limit yX3_limit, Cond.initialized RX3, Cond.code yX3_limit cX3_limit 3 (some .int), Cond.fieldLink RX3 22 "PegBox$Kinds" "caps" "[I", Cond.methodLink RX3 32 Lib.Math.min.name, Cond.static Lib.Math.min.name, Cond.initialized "java/lang/Math", Cond.code Lib.Math.min.name Lib.Math.min.code 2 (some .int), Cond.methodLink RX3 28 yX3_pastBasket, Cond.instanceMethod yX3_pastBasket, Cond.selects RX3 yX3_pastBasket yX3_pastBasket, Cond.code yX3_pastBasket cX3_pastBasket 4 (some .int), Cond.fieldLink RX3 15 "PegBox$Kinds" "baskets" "[I", Cond.fieldLink RX3 18 "PegBox$Kinds" "wholes" "[Z"]
def wsL_dueOf : List Cond := .codeWith yL_dueOf cL_dueOf 4 (some .int) [(0, 9, 12, 20)] :: ((wsL_dueOf_r1 ++ wsL_dueOf_r2) ++ wsX40 ++ wsX30 ++ wsX00 ++ (vx_atS RX4 203 "java/lang/IndexOutOfBoundsException" ["java/lang/RuntimeException", "java/lang/Exception"]).filter goodWord)
def wsL_settledAt : List Cond := .codeWith yL_settledAt cL_settledAt 4 (some .int) [(0, 9, 12, 20)] :: ([.classLink RL 20 "java/lang/IndexOutOfBoundsException", .methodLink RL 64 yX4_settledAt, .instanceMethod yX4_settledAt, .selects RX4 yX4_settledAt yX4_settledAt, .initialized RX4, .code yX4_settledAt cX4_settledAt 2 (some .int), .fieldLink RX4 26 "PegBox" "book" "LPegBox$ClaimBook;", .fieldLink RX4 136 "PegBox$ClaimBook" "count" "I", .fieldLink RX4 147 "PegBox$ClaimBook" "settled" "[I", .methodLink RX4 62 yX4_checkNumber, .static yX4_checkNumber, .code yX4_checkNumber cX4_checkNumber 2 none, .classLink RX4 199 "java/lang/IndexOutOfBoundsException", .initialized "java/lang/IndexOutOfBoundsException"] ++ wsX40 ++ wsX00 ++ (vx_atS RX4 203 "java/lang/IndexOutOfBoundsException" ["java/lang/RuntimeException", "java/lang/Exception"]).filter goodWord)
def wsL_isMet : List Cond := .codeWith yL_isMet cL_isMet 4 (some .int) [(0, 16, 19, 20)] :: ([.classLink RL 20 "java/lang/IndexOutOfBoundsException", .methodLink RL 67 yX4_isMet, .instanceMethod yX4_isMet, .selects RX4 yX4_isMet yX4_isMet, .initialized RX4, .code yX4_isMet cX4_isMet 2 (some .boolean), .fieldLink RX4 33 "PegBox" "earnOut" "LPegBox$EarnOut;", .fieldLink RX4 196 "PegBox$EarnOut" "met" "[Z", .methodLink RX4 62 yX4_checkNumber, .static yX4_checkNumber, .code yX4_checkNumber cX4_checkNumber 2 none, .classLink RX4 199 "java/lang/IndexOutOfBoundsException", .initialized "java/lang/IndexOutOfBoundsException"] ++ wsX40 ++ wsX10 ++ (vx_atS RX4 203 "java/lang/IndexOutOfBoundsException" ["java/lang/RuntimeException", "java/lang/Exception"]).filter goodWord)
def wsL_law0_r1 : List Cond := [Cond.classLink RL 8 RX4, Cond.instantiable RX4 14, Cond.initialized RX4, Cond.classLink RL 72 RX5, Cond.instantiable RX5 31, Cond.initialized RX5, Cond.arrayClass .long, Cond.methodLink RL 71 yX4_init, Cond.instanceMethod yX4_init, Cond.code yX4_init cX4_init 1 none, Cond.methodLink RX4 1 objectInit, Cond.instanceMethod objectInit, Cond.code objectInit ⟨#[0xb1]⟩ 1 none, Cond.classLink RX4 7 RX2, Cond.instantiable RX2 2, Cond.initialized RX2, Cond.fieldLink RX4 10 "PegBox" "escrow" "LPegBox$Escrow;", Cond.classLink RX4 16 RX3, Cond.instantiable RX3 5, Cond.initialized RX3, Cond.fieldLink RX4 19 "PegBox" "kinds" "LPegBox$Kinds;", Cond.classLink RX4 23 RX0, Cond.instantiable RX0 5, Cond.initialized RX0]
def wsL_law0_r2 : List Cond := [Cond.fieldLink RX4 26 "PegBox" "book" "LPegBox$ClaimBook;", Cond.classLink RX4 30 RX1, Cond.instantiable RX1 8, Cond.initialized RX1, Cond.fieldLink RX4 33 "PegBox" "earnOut" "LPegBox$EarnOut;", Cond.fieldLink RX4 37 "PegBox" "day" "I", Cond.fieldLink RX4 41 "PegBox" "finalPrice" "I", Cond.methodLink RX4 9 yX2_init, Cond.instanceMethod yX2_init, Cond.code yX2_init cX2_init 1 none, Cond.methodLink RX2 3 objectInit, Cond.arrayClass .int, Cond.fieldLink RX2 9 "PegBox$Escrow" "amounts" "[I", Cond.fieldLink RX2 15 "PegBox$Escrow" "days" "[I", Cond.methodLink RX4 18 yX3_init, Cond.instanceMethod yX3_init, Cond.code yX3_init cX3_init 1 none, Cond.methodLink RX3 3 objectInit, Cond.fieldLink RX3 9 "PegBox$Kinds" "leasts" "[I", Cond.fieldLink RX3 15 "PegBox$Kinds" "baskets" "[I", Cond.arrayClass .boolean, Cond.fieldLink RX3 18 "PegBox$Kinds" "wholes" "[Z", Cond.fieldLink RX3 22 "PegBox$Kinds" "caps" "[I", Cond.fieldLink RX3 25 "PegBox$Kinds" "lastDays" "[I"]
def wsL_law0_r3 : List Cond := [Cond.methodLink RX4 25 yX0_init, Cond.instanceMethod yX0_init, Cond.code yX0_init cX0_init 1 none, Cond.methodLink RX0 3 objectInit, Cond.fieldLink RX0 9 "PegBox$ClaimBook" "kinds" "[I", Cond.fieldLink RX0 15 "PegBox$ClaimBook" "amounts" "[I", Cond.fieldLink RX0 18 "PegBox$ClaimBook" "offers" "[I", Cond.fieldLink RX0 21 "PegBox$ClaimBook" "settled" "[I", Cond.methodLink RX4 32 yX1_init, Cond.instanceMethod yX1_init, Cond.code yX1_init cX1_init 1 none, Cond.methodLink RX1 3 objectInit, Cond.fieldLink RX1 9 "PegBox$EarnOut" "targets" "[I", Cond.fieldLink RX1 15 "PegBox$EarnOut" "amounts" "[I", Cond.fieldLink RX1 18 "PegBox$EarnOut" "met" "[Z", Cond.methodLink RL 74 yX5_init, Cond.instanceMethod yX5_init, Cond.code yX5_init cX5_init 1 none, Cond.methodLink RX5 1 objectInit, Cond.fieldLink RX5 7 "PegBoxModel" "partAmount" "[I", Cond.fieldLink RX5 13 "PegBoxModel" "partDay" "[I", Cond.fieldLink RX5 16 "PegBoxModel" "least" "[I", Cond.fieldLink RX5 19 "PegBoxModel" "basket" "[I", Cond.fieldLink RX5 22 "PegBoxModel" "whole" "[Z"]
def wsL_law0_r4 : List Cond := [Cond.fieldLink RX5 26 "PegBoxModel" "cap" "[I", Cond.fieldLink RX5 29 "PegBoxModel" "lastDay" "[I", Cond.fieldLink RX5 32 "PegBoxModel" "target" "[I", Cond.fieldLink RX5 35 "PegBoxModel" "yearAmount" "[I", Cond.fieldLink RX5 38 "PegBoxModel" "kind" "[I", Cond.fieldLink RX5 41 "PegBoxModel" "amount" "[I", Cond.fieldLink RX5 44 "PegBoxModel" "offered" "[I", Cond.fieldLink RX5 47 "PegBoxModel" "settled" "[I", Cond.fieldLink RX5 50 "PegBoxModel" "results" "[I", Cond.fieldLink RX5 53 "PegBoxModel" "met" "[Z", Cond.methodLink RL 75 yL_setPrice, Cond.static yL_setPrice, Cond.initialized RL, Cond.codeWith yL_setPrice cL_setPrice 5 (some .int) [(0, 7, 10, 13), (0, 7, 14, 15)], Cond.classLink RL 13 "java/lang/IllegalArgumentException", Cond.classLink RL 15 "java/lang/IllegalStateException", Cond.methodLink RL 7 yX4_setPrice, Cond.instanceMethod yX4_setPrice, Cond.selects RX4 yX4_setPrice yX4_setPrice, Cond.code yX4_setPrice cX4_setPrice 4 none, Cond.constant RX4 44 (10000000), Cond.constant RX4 49 (-10000000), Cond.fieldLink RX4 53 "PegBox" "price" "I", Cond.fieldLink RX4 56 "PegBox" "peg" "I"]
def wsL_law0_r5 : List Cond := [Cond.fieldLink RX4 59 "PegBox" "collar" "I", Cond.methodLink RX4 45 yX4_checkRange, Cond.static yX4_checkRange, Cond.code yX4_checkRange cX4_checkRange 3 none, Cond.classLink RX4 204 "java/lang/IllegalArgumentException", Cond.initialized "java/lang/IllegalArgumentException", Cond.methodLink RX4 50 yX4_checkNotClosed, Cond.instanceMethod yX4_checkNotClosed, Cond.selects RX4 yX4_checkNotClosed yX4_checkNotClosed, Cond.code yX4_checkNotClosed cX4_checkNotClosed 1 none, Cond.classLink RX4 124 "java/lang/IllegalStateException", Cond.initialized "java/lang/IllegalStateException", Cond.methodLink RL 80 yX5_setPrice, Cond.instanceMethod yX5_setPrice, Cond.selects RX5 yX5_setPrice yX5_setPrice, Cond.code yX5_setPrice cX5_setPrice 4 none, Cond.constant RX5 60 (10000000), Cond.constant RX5 65 (-10000000), Cond.fieldLink RX5 66 "PegBoxModel" "closed" "Z", Cond.fieldLink RX5 74 "PegBoxModel" "price" "I", Cond.fieldLink RX5 77 "PegBoxModel" "peg" "I", Cond.fieldLink RX5 80 "PegBoxModel" "collar" "I", Cond.methodLink RX5 61 yX5_in, Cond.static yX5_in]
def wsL_law0_r6 : List Cond := [Cond.code yX5_in cX5_in 3 (some .boolean), Cond.methodLink RX5 70 yX5_isFine, Cond.instanceMethod yX5_isFine, Cond.selects RX5 yX5_isFine yX5_isFine, Cond.code yX5_isFine cX5_isFine 2 (some .boolean), Cond.fieldLink RX5 56 "PegBoxModel" "thrown" "I", Cond.methodLink RL 81 yX5_thrown, Cond.instanceMethod yX5_thrown, Cond.selects RX5 yX5_thrown yX5_thrown, Cond.code yX5_thrown cX5_thrown 1 (some .int), Cond.methodLink RL 84 yL_setPart, Cond.static yL_setPart, Cond.codeWith yL_setPart cL_setPart 5 (some .int) [(0, 7, 10, 20), (0, 7, 14, 13), (0, 7, 18, 15)], Cond.classLink RL 20 "java/lang/IndexOutOfBoundsException", Cond.methodLink RL 17 yX4_setPart, Cond.instanceMethod yX4_setPart, Cond.selects RX4 yX4_setPart yX4_setPart, Cond.code yX4_setPart cX4_setPart 4 none, Cond.fieldLink RX4 66 "PegBox$Escrow" "amounts" "[I", Cond.fieldLink RX4 70 "PegBox$Escrow" "days" "[I", Cond.methodLink RX4 62 yX4_checkNumber, Cond.static yX4_checkNumber, Cond.code yX4_checkNumber cX4_checkNumber 2 none, Cond.classLink RX4 199 "java/lang/IndexOutOfBoundsException"]
def wsL_law0_r7 : List Cond := [Cond.initialized "java/lang/IndexOutOfBoundsException", Cond.methodLink RL 86 yX5_setPart, Cond.instanceMethod yX5_setPart, Cond.selects RX5 yX5_setPart yX5_setPart, Cond.code yX5_setPart cX5_setPart 4 none, Cond.methodLink RL 87 yL_setKind, Cond.static yL_setKind, Cond.codeWith yL_setKind cL_setKind 8 (some .int) [(0, 13, 16, 20), (0, 13, 20, 13), (0, 13, 24, 15)], Cond.methodLink RL 22 yX4_setKind, Cond.instanceMethod yX4_setKind, Cond.selects RX4 yX4_setKind yX4_setKind, Cond.code yX4_setKind cX4_setKind 7 none, Cond.constant RX4 73 (100000000), Cond.fieldLink RX4 74 "PegBox$Kinds" "leasts" "[I", Cond.fieldLink RX4 77 "PegBox$Kinds" "baskets" "[I", Cond.fieldLink RX4 80 "PegBox$Kinds" "wholes" "[Z", Cond.fieldLink RX4 84 "PegBox$Kinds" "caps" "[I", Cond.fieldLink RX4 87 "PegBox$Kinds" "lastDays" "[I", Cond.methodLink RL 90 yX5_setKind, Cond.instanceMethod yX5_setKind, Cond.selects RX5 yX5_setKind yX5_setKind, Cond.code yX5_setKind cX5_setKind 8 none, Cond.constant RX5 83 (100000000), Cond.methodLink RL 91 yL_setYear]
def wsL_law0_r8 : List Cond := [Cond.static yL_setYear, Cond.codeWith yL_setYear cL_setYear 5 (some .int) [(0, 7, 10, 20), (0, 7, 14, 13), (0, 7, 18, 15)], Cond.methodLink RL 26 yX4_setYear, Cond.instanceMethod yX4_setYear, Cond.selects RX4 yX4_setYear yX4_setYear, Cond.code yX4_setYear cX4_setYear 4 none, Cond.fieldLink RX4 90 "PegBox$EarnOut" "targets" "[I", Cond.fieldLink RX4 93 "PegBox$EarnOut" "amounts" "[I", Cond.methodLink RL 93 yX5_setYear, Cond.instanceMethod yX5_setYear, Cond.selects RX5 yX5_setYear yX5_setYear, Cond.code yX5_setYear cX5_setYear 4 none, Cond.methodLink RL 94 yL_setCarry, Cond.static yL_setCarry, Cond.codeWith yL_setCarry cL_setCarry 3 (some .int) [(0, 5, 8, 15)], Cond.methodLink RL 29 yX4_setCarry, Cond.instanceMethod yX4_setCarry, Cond.selects RX4 yX4_setCarry yX4_setCarry, Cond.code yX4_setCarry cX4_setCarry 2 none, Cond.fieldLink RX4 94 "PegBox$EarnOut" "isCarried" "Z", Cond.methodLink RL 97 yX5_setCarry, Cond.instanceMethod yX5_setCarry, Cond.selects RX5 yX5_setCarry yX5_setCarry, Cond.code yX5_setCarry cX5_setCarry 2 none]
def wsL_law0_r9 : List Cond := [Cond.fieldLink RX5 84 "PegBoxModel" "carried" "Z", Cond.methodLink RL 98 yL_close, Cond.static yL_close, Cond.codeWith yL_close cL_close 6 (some .int) [(0, 12, 15, 13), (0, 12, 19, 15)], Cond.methodLink RL 33 yX4_close, Cond.instanceMethod yX4_close, Cond.selects RX4 yX4_close yX4_close, Cond.code yX4_close cX4_close 4 (some .int), Cond.methodLink RX4 102 Lib.Math.max.name, Cond.static Lib.Math.max.name, Cond.initialized "java/lang/Math", Cond.code Lib.Math.max.name Lib.Math.max.code 2 (some .int), Cond.methodLink RX4 112 Lib.Math.min.name, Cond.static Lib.Math.min.name, Cond.code Lib.Math.min.name Lib.Math.min.code 2 (some .int), Cond.fieldLink RX4 115 "PegBox" "held" "I", Cond.fieldLink RX4 118 "PegBox" "paid" "I", Cond.methodLink RX4 98 yX4_beyondCollar, Cond.instanceMethod yX4_beyondCollar, Cond.selects RX4 yX4_beyondCollar yX4_beyondCollar, Cond.code yX4_beyondCollar cX4_beyondCollar 2 (some .int), Cond.methodLink RX4 108 yX2_total, Cond.instanceMethod yX2_total, Cond.selects RX2 yX2_total yX2_total]
def wsL_law0_r10 : List Cond := [Cond.code yX2_total cX2_total 3 (some .int), Cond.methodLink RL 101 yX5_close, Cond.instanceMethod yX5_close, Cond.selects RX5 yX5_close yX5_close, Cond.code yX5_close cX5_close 9 (some .int), Cond.fieldLink RX5 87 "PegBoxModel" "finals" "I", Cond.fieldLink RX5 90 "PegBoxModel" "held" "I", Cond.fieldLink RX5 93 "PegBoxModel" "paid" "I", Cond.methodLink RL 102 yL_advance, Cond.static yL_advance, Cond.codeWith yL_advance cL_advance 4 (some .int) [(0, 9, 12, 13), (0, 9, 15, 15)], Cond.methodLink RL 37 yX4_advance, Cond.instanceMethod yX4_advance, Cond.selects RX4 yX4_advance yX4_advance, Cond.code yX4_advance cX4_advance 2 (some .int), Cond.methodLink RX4 121 yX4_checkClosed, Cond.instanceMethod yX4_checkClosed, Cond.selects RX4 yX4_checkClosed yX4_checkClosed, Cond.code yX4_checkClosed cX4_checkClosed 1 none, Cond.methodLink RX4 131 yX4_free, Cond.instanceMethod yX4_free, Cond.selects RX4 yX4_free yX4_free, Cond.code yX4_free cX4_free 2 none, Cond.methodLink RX4 221 yX2_totalAfter]
def wsL_law0_r11 : List Cond := [Cond.instanceMethod yX2_totalAfter, Cond.selects RX2 yX2_totalAfter yX2_totalAfter, Cond.code yX2_totalAfter cX2_totalAfter 4 (some .int), Cond.methodLink RX4 224 yX0_openSum, Cond.instanceMethod yX0_openSum, Cond.selects RX0 yX0_openSum yX0_openSum, Cond.code yX0_openSum cX0_openSum 3 (some .int), Cond.fieldLink RX0 24 "PegBox$ClaimBook" "count" "I", Cond.methodLink RL 105 yX5_advance, Cond.instanceMethod yX5_advance, Cond.selects RX5 yX5_advance yX5_advance, Cond.code yX5_advance cX5_advance 3 (some .int), Cond.fieldLink RX5 96 "PegBoxModel" "day" "I", Cond.methodLink RX5 102 yX5_frees, Cond.instanceMethod yX5_frees, Cond.selects RX5 yX5_frees yX5_frees, Cond.code yX5_frees cX5_frees 3 none, Cond.fieldLink RX5 99 "PegBoxModel" "claims" "I", Cond.methodLink RL 106 yL_claim, Cond.static yL_claim, Cond.codeWith yL_claim cL_claim 5 (some .int) [(0, 10, 13, 20), (0, 10, 17, 13), (0, 10, 21, 15)], Cond.methodLink RL 41 yX4_claim, Cond.instanceMethod yX4_claim, Cond.selects RX4 yX4_claim yX4_claim]
def wsL_law0_r12 : List Cond := [Cond.code yX4_claim cX4_claim 4 (some .int), Cond.fieldLink RX4 136 "PegBox$ClaimBook" "count" "I", Cond.fieldLink RX4 141 "PegBox$ClaimBook" "kinds" "[I", Cond.fieldLink RX4 143 "PegBox$ClaimBook" "amounts" "[I", Cond.fieldLink RX4 144 "PegBox$ClaimBook" "offers" "[I", Cond.fieldLink RX4 147 "PegBox$ClaimBook" "settled" "[I", Cond.methodLink RL 109 yX5_claim, Cond.instanceMethod yX5_claim, Cond.selects RX5 yX5_claim yX5_claim, Cond.code yX5_claim cX5_claim 4 (some .int), Cond.methodLink RL 110 yL_offer, Cond.static yL_offer, Cond.codeWith yL_offer cL_offer 5 (some .int) [(0, 10, 13, 20), (0, 10, 17, 15), (0, 10, 21, 13)], Cond.methodLink RL 45 yX4_offer, Cond.instanceMethod yX4_offer, Cond.selects RX4 yX4_offer yX4_offer, Cond.code yX4_offer cX4_offer 4 (some .int), Cond.methodLink RX4 150 yX4_checkOpen, Cond.static yX4_checkOpen, Cond.code yX4_checkOpen cX4_checkOpen 1 none, Cond.methodLink RL 112 yX5_offer, Cond.instanceMethod yX5_offer, Cond.selects RX5 yX5_offer yX5_offer, Cond.code yX5_offer cX5_offer 5 (some .int)]
def wsL_law0_r13 : List Cond := [Cond.methodLink RX5 105 yX5_isClaim, Cond.instanceMethod yX5_isClaim, Cond.selects RX5 yX5_isClaim yX5_isClaim, Cond.code yX5_isClaim cX5_isClaim 2 (some .boolean), Cond.methodLink RL 113 yL_agree, Cond.static yL_agree, Cond.codeWith yL_agree cL_agree 4 (some .int) [(0, 9, 12, 20), (0, 9, 15, 15)], Cond.methodLink RL 48 yX4_agree, Cond.instanceMethod yX4_agree, Cond.selects RX4 yX4_agree yX4_agree, Cond.code yX4_agree cX4_agree 3 (some .int), Cond.methodLink RX4 156 yX4_payOut, Cond.instanceMethod yX4_payOut, Cond.selects RX4 yX4_payOut yX4_payOut, Cond.code yX4_payOut cX4_payOut 2 (some .int), Cond.fieldLink RX4 178 "PegBox" "returned" "I", Cond.methodLink RX4 190 yX4_leftOutstanding, Cond.instanceMethod yX4_leftOutstanding, Cond.selects RX4 yX4_leftOutstanding yX4_leftOutstanding, Cond.code yX4_leftOutstanding cX4_leftOutstanding 1 (some .int), Cond.fieldLink RX4 181 "PegBox" "setOff" "I", Cond.methodLink RX4 187 yX4_dueInAll, Cond.instanceMethod yX4_dueInAll, Cond.selects RX4 yX4_dueInAll yX4_dueInAll]
def wsL_law0_r14 : List Cond := [Cond.code yX4_dueInAll cX4_dueInAll 3 (some .int), Cond.methodLink RX4 193 yX4_dueOfKind, Cond.instanceMethod yX4_dueOfKind, Cond.selects RX4 yX4_dueOfKind yX4_dueOfKind, Cond.code yX4_dueOfKind cX4_dueOfKind 2 (some .int), Cond.methodLink RX4 215 yX0_settledSum, Cond.instanceMethod yX0_settledSum, Cond.selects RX0 yX0_settledSum yX0_settledSum, Cond.code yX0_settledSum cX0_settledSum 5 (some .int), Cond.methodLink RX4 218 yX3_limit, Cond.instanceMethod yX3_limit, Cond.selects RX3 yX3_limit yX3_limit, Cond.code yX3_limit cX3_limit 3 (some .int), Cond.methodLink RX3 32 Lib.Math.min.name, Cond.methodLink RX3 28 yX3_pastBasket, Cond.instanceMethod yX3_pastBasket, Cond.selects RX3 yX3_pastBasket yX3_pastBasket, Cond.code yX3_pastBasket cX3_pastBasket 4 (some .int), Cond.methodLink RL 115 yX5_agree, Cond.instanceMethod yX5_agree, Cond.selects RX5 yX5_agree yX5_agree, Cond.code yX5_agree cX5_agree 3 (some .int), Cond.methodLink RX5 125 yX5_settles, Cond.instanceMethod yX5_settles]
def wsL_law0_r15 : List Cond := [Cond.selects RX5 yX5_settles yX5_settles, Cond.code yX5_settles cX5_settles 4 (some .int), Cond.fieldLink RX5 116 "PegBoxModel" "returned" "I", Cond.methodLink RX5 122 yX5_open, Cond.instanceMethod yX5_open, Cond.selects RX5 yX5_open yX5_open, Cond.code yX5_open cX5_open 1 (some .int), Cond.fieldLink RX5 119 "PegBoxModel" "setOff" "I", Cond.methodLink RX5 112 yX5_dueAll, Cond.instanceMethod yX5_dueAll, Cond.selects RX5 yX5_dueAll yX5_dueAll, Cond.code yX5_dueAll cX5_dueAll 1 (some .int), Cond.methodLink RX5 108 yX5_dueFor, Cond.instanceMethod yX5_dueFor, Cond.selects RX5 yX5_dueFor yX5_dueFor, Cond.code yX5_dueFor cX5_dueFor 4 (some .int), Cond.methodLink RL 116 yL_decide, Cond.static yL_decide, Cond.codeWith yL_decide cL_decide 5 (some .int) [(0, 10, 13, 20), (0, 10, 17, 15), (0, 10, 21, 13)], Cond.methodLink RL 51 yX4_decide, Cond.instanceMethod yX4_decide, Cond.selects RX4 yX4_decide yX4_decide, Cond.code yX4_decide cX4_decide 4 (some .int), Cond.methodLink RL 118 yX5_decide]
def wsL_law0_r16 : List Cond := [Cond.instanceMethod yX5_decide, Cond.selects RX5 yX5_decide yX5_decide, Cond.code yX5_decide cX5_decide 4 (some .int), Cond.methodLink RL 119 yL_report, Cond.static yL_report, Cond.codeWith yL_report cL_report 4 (some .int) [(0, 9, 12, 13), (0, 9, 15, 15)], Cond.methodLink RL 54 yX4_report, Cond.instanceMethod yX4_report, Cond.selects RX4 yX4_report yX4_report, Cond.code yX4_report cX4_report 2 (some .int), Cond.fieldLink RX4 159 "PegBox$EarnOut" "isSpedUp" "Z", Cond.fieldLink RX4 164 "PegBox$EarnOut" "told" "I", Cond.methodLink RX4 169 yX1_tell, Cond.instanceMethod yX1_tell, Cond.selects RX1 yX1_tell yX1_tell, Cond.code yX1_tell cX1_tell 3 (some .int), Cond.fieldLink RX1 22 "PegBox$EarnOut" "told" "I", Cond.fieldLink RX1 26 "PegBox$EarnOut" "resultSum" "I", Cond.fieldLink RX1 29 "PegBox$EarnOut" "targetSum" "I", Cond.fieldLink RX1 32 "PegBox$EarnOut" "isCarried" "Z", Cond.methodLink RX1 36 yX1_meet, Cond.instanceMethod yX1_meet, Cond.selects RX1 yX1_meet yX1_meet, Cond.code yX1_meet cX1_meet 5 (some .int)]
def wsL_law0_r17 : List Cond := [Cond.methodLink RX4 172 yX4_owe, Cond.instanceMethod yX4_owe, Cond.selects RX4 yX4_owe yX4_owe, Cond.code yX4_owe cX4_owe 3 (some .int), Cond.fieldLink RX4 184 "PegBox" "owed" "I", Cond.methodLink RL 121 yX5_report, Cond.instanceMethod yX5_report, Cond.selects RX5 yX5_report yX5_report, Cond.code yX5_report cX5_report 8 (some .int), Cond.fieldLink RX5 132 "PegBoxModel" "told" "I", Cond.fieldLink RX5 135 "PegBoxModel" "sped" "Z", Cond.methodLink RX5 138 yX5_owes, Cond.instanceMethod yX5_owes, Cond.selects RX5 yX5_owes yX5_owes, Cond.code yX5_owes cX5_owes 3 (some .int), Cond.fieldLink RX5 129 "PegBoxModel" "owed" "I", Cond.methodLink RL 122 yL_speedUp, Cond.static yL_speedUp, Cond.codeWith yL_speedUp cL_speedUp 3 (some .int) [(0, 8, 11, 15)], Cond.methodLink RL 57 yX4_speedUp, Cond.instanceMethod yX4_speedUp, Cond.selects RX4 yX4_speedUp yX4_speedUp, Cond.code yX4_speedUp cX4_speedUp 1 (some .int), Cond.methodLink RX4 175 yX1_hasten]
def wsL_law0_r18 : List Cond := [Cond.instanceMethod yX1_hasten, Cond.selects RX1 yX1_hasten yX1_hasten, Cond.code yX1_hasten cX1_hasten 1 (some .int), Cond.fieldLink RX1 40 "PegBox$EarnOut" "isSpedUp" "Z", Cond.methodLink RL 125 yX5_speedUp, Cond.instanceMethod yX5_speedUp, Cond.selects RX5 yX5_speedUp yX5_speedUp, Cond.code yX5_speedUp cX5_speedUp 3 (some .int), Cond.methodLink RL 126 yX4_day, Cond.instanceMethod yX4_day, Cond.selects RX4 yX4_day yX4_day, Cond.code yX4_day cX4_day 1 (some .int), Cond.methodLink RL 129 yX5_day, Cond.instanceMethod yX5_day, Cond.selects RX5 yX5_day yX5_day, Cond.code yX5_day cX5_day 1 (some .int), Cond.methodLink RL 130 yX4_finalPrice, Cond.instanceMethod yX4_finalPrice, Cond.selects RX4 yX4_finalPrice yX4_finalPrice, Cond.code yX4_finalPrice cX4_finalPrice 1 (some .int), Cond.methodLink RL 133 yX5_finalPrice, Cond.instanceMethod yX5_finalPrice, Cond.selects RX5 yX5_finalPrice yX5_finalPrice, Cond.code yX5_finalPrice cX5_finalPrice 1 (some .int)]
def wsL_law0_r19 : List Cond := [Cond.methodLink RL 134 yX4_held, Cond.instanceMethod yX4_held, Cond.selects RX4 yX4_held yX4_held, Cond.code yX4_held cX4_held 1 (some .int), Cond.methodLink RL 137 yX5_held, Cond.instanceMethod yX5_held, Cond.selects RX5 yX5_held yX5_held, Cond.code yX5_held cX5_held 1 (some .int), Cond.methodLink RL 138 yX4_paid, Cond.instanceMethod yX4_paid, Cond.selects RX4 yX4_paid yX4_paid, Cond.code yX4_paid cX4_paid 1 (some .int), Cond.methodLink RL 141 yX5_paid, Cond.instanceMethod yX5_paid, Cond.selects RX5 yX5_paid yX5_paid, Cond.code yX5_paid cX5_paid 1 (some .int), Cond.methodLink RL 142 yX4_returned, Cond.instanceMethod yX4_returned, Cond.selects RX4 yX4_returned yX4_returned, Cond.code yX4_returned cX4_returned 1 (some .int), Cond.methodLink RL 145 yX5_returned, Cond.instanceMethod yX5_returned, Cond.selects RX5 yX5_returned yX5_returned, Cond.code yX5_returned cX5_returned 1 (some .int)]
def wsL_law0_r20 : List Cond := [Cond.methodLink RL 146 yX4_setOff, Cond.instanceMethod yX4_setOff, Cond.selects RX4 yX4_setOff yX4_setOff, Cond.code yX4_setOff cX4_setOff 1 (some .int), Cond.methodLink RL 149 yX5_setOff, Cond.instanceMethod yX5_setOff, Cond.selects RX5 yX5_setOff yX5_setOff, Cond.code yX5_setOff cX5_setOff 1 (some .int), Cond.methodLink RL 150 yX4_owed, Cond.instanceMethod yX4_owed, Cond.selects RX4 yX4_owed yX4_owed, Cond.code yX4_owed cX4_owed 1 (some .int), Cond.methodLink RL 153 yX5_owed, Cond.instanceMethod yX5_owed, Cond.selects RX5 yX5_owed yX5_owed, Cond.code yX5_owed cX5_owed 1 (some .int), Cond.methodLink RL 154 yX4_due, Cond.instanceMethod yX4_due, Cond.selects RX4 yX4_due yX4_due, Cond.code yX4_due cX4_due 1 (some .int), Cond.methodLink RL 157 yX5_due, Cond.instanceMethod yX5_due, Cond.selects RX5 yX5_due yX5_due, Cond.code yX5_due cX5_due 1 (some .int)]
def wsL_law0_r21 : List Cond := [Cond.methodLink RL 158 yX4_outstanding, Cond.instanceMethod yX4_outstanding, Cond.selects RX4 yX4_outstanding yX4_outstanding, Cond.code yX4_outstanding cX4_outstanding 1 (some .int), Cond.methodLink RL 161 yX5_outstanding, Cond.instanceMethod yX5_outstanding, Cond.selects RX5 yX5_outstanding yX5_outstanding, Cond.code yX5_outstanding cX5_outstanding 1 (some .int), Cond.methodLink RL 162 yL_dueOf, Cond.static yL_dueOf, Cond.codeWith yL_dueOf cL_dueOf 4 (some .int) [(0, 9, 12, 20)], Cond.methodLink RL 61 yX4_dueOf, Cond.instanceMethod yX4_dueOf, Cond.selects RX4 yX4_dueOf yX4_dueOf, Cond.code yX4_dueOf cX4_dueOf 2 (some .int), Cond.methodLink RL 164 yX5_dueOf, Cond.instanceMethod yX5_dueOf, Cond.selects RX5 yX5_dueOf yX5_dueOf, Cond.code yX5_dueOf cX5_dueOf 2 (some .int), Cond.methodLink RL 165 yX4_claims, Cond.instanceMethod yX4_claims, Cond.selects RX4 yX4_claims yX4_claims, Cond.code yX4_claims cX4_claims 1 (some .int), Cond.methodLink RL 168 yX5_claims]
def wsL_law0_r22 : List Cond := [Cond.instanceMethod yX5_claims, Cond.selects RX5 yX5_claims yX5_claims, Cond.code yX5_claims cX5_claims 1 (some .int), Cond.methodLink RL 169 yL_settledAt, Cond.static yL_settledAt, Cond.codeWith yL_settledAt cL_settledAt 4 (some .int) [(0, 9, 12, 20)], Cond.methodLink RL 64 yX4_settledAt, Cond.instanceMethod yX4_settledAt, Cond.selects RX4 yX4_settledAt yX4_settledAt, Cond.code yX4_settledAt cX4_settledAt 2 (some .int), Cond.methodLink RL 171 yX5_settledAt, Cond.instanceMethod yX5_settledAt, Cond.selects RX5 yX5_settledAt yX5_settledAt, Cond.code yX5_settledAt cX5_settledAt 2 (some .int), Cond.methodLink RL 172 yL_isMet, Cond.static yL_isMet, Cond.codeWith yL_isMet cL_isMet 4 (some .int) [(0, 16, 19, 20)], Cond.methodLink RL 67 yX4_isMet, Cond.instanceMethod yX4_isMet, Cond.selects RX4 yX4_isMet yX4_isMet, Cond.code yX4_isMet cX4_isMet 2 (some .boolean), Cond.fieldLink RX4 196 "PegBox$EarnOut" "met" "[Z", Cond.methodLink RL 174 yX5_isMet, Cond.instanceMethod yX5_isMet]
def wsL_law0_r23 : List Cond := [Cond.selects RX5 yX5_isMet yX5_isMet, Cond.code yX5_isMet cX5_isMet 2 (some .boolean)]
def wsL_law0 : List Cond := (wsL_law0_r1 ++ (wsL_law0_r2 ++ (wsL_law0_r3 ++ (wsL_law0_r4 ++ (wsL_law0_r5 ++ (wsL_law0_r6 ++ (wsL_law0_r7 ++ (wsL_law0_r8 ++ (wsL_law0_r9 ++ (wsL_law0_r10 ++ (wsL_law0_r11 ++ (wsL_law0_r12 ++ (wsL_law0_r13 ++ (wsL_law0_r14 ++ (wsL_law0_r15 ++ (wsL_law0_r16 ++ (wsL_law0_r17 ++ (wsL_law0_r18 ++ (wsL_law0_r19 ++ (wsL_law0_r20 ++ (wsL_law0_r21 ++ (wsL_law0_r22 ++ wsL_law0_r23)))))))))))))))))))))) ++ wsX40 ++ wsX50 ++ wsX20 ++ wsX30 ++ wsX00 ++ wsX10 ++ ([] : List Cond)
def wsL_law : List Cond := wsL_law0 ++ (vx_atS RX4 208 "java/lang/IllegalArgumentException" ["java/lang/RuntimeException", "java/lang/Exception"]).filter goodWord ++ (vx_atS RX4 128 "java/lang/IllegalStateException" ["java/lang/RuntimeException", "java/lang/Exception"]).filter goodWord ++ (vx_atS RX4 203 "java/lang/IndexOutOfBoundsException" ["java/lang/RuntimeException", "java/lang/Exception"]).filter goodWord
set_option maxRecDepth 20000 in
theorem wsL_law_in0 : ∀ w ∈ wsL_law0, w ∈ lw_tbl := fun w h => (goodIn_p wsL_law0 [38, 41, 46, 62, 90, 117, 551, 268, 272, 345, 654, 658, 663, 650, 369, 372, 667, 395, 671, 403, 676, 410, 680, 417, 424, 247, 421, 428, 684, 436, 440, 446, 450, 454, 688, 692, 461, 696, 470, 473, 700, 704, 481, 486, 255, 228, 232, 236, 240, 244, 708, 712, 716, 720, 724, 493, 728, 500, 506, 510, 514, 732, 736, 521, 525, 740, 196, 744, 200, 748, 204, 752, 208, 756, 212, 760, 216, 764, 220, 768, 224, 772, 251, 776, 532, 780, 259, 784, 539, 788, 546, 792] (by decide +kernel) (by decide +kernel) w h).1
theorem wsL_law_x0 : ∀ w ∈ (vx_atS RX4 208 "java/lang/IllegalArgumentException" ["java/lang/RuntimeException", "java/lang/Exception"]).filter goodWord, w ∈ lw_tbl := by decide +kernel
theorem wsL_law_x1 : ∀ w ∈ (vx_atS RX4 128 "java/lang/IllegalStateException" ["java/lang/RuntimeException", "java/lang/Exception"]).filter goodWord, w ∈ lw_tbl := by decide +kernel
theorem wsL_law_x2 : ∀ w ∈ (vx_atS RX4 203 "java/lang/IndexOutOfBoundsException" ["java/lang/RuntimeException", "java/lang/Exception"]).filter goodWord, w ∈ lw_tbl := by decide +kernel
theorem wsL_law_in : ∀ w ∈ wsL_law, w ∈ lw_tbl := fun w h => (List.mem_append.mp h).elim (fun h => (List.mem_append.mp h).elim (fun h => (List.mem_append.mp h).elim (fun h => wsL_law_in0 w h) (fun h => wsL_law_x0 w h)) (fun h => wsL_law_x1 w h)) (fun h => wsL_law_x2 w h)
theorem inlX0 : ∀ w ∈ wsX00, w ∈ wsL_law := fun _ h => List.mem_append_left _ (List.mem_append_left _ (List.mem_append_left _ (List.mem_append_left _ (List.mem_append_left _ (List.mem_append_right _ h)))))
theorem inX0 : ∀ w ∈ wsX00, w ∈ lw_tbl := fun w h => wsL_law_in w (inlX0 w h)
theorem inlX1 : ∀ w ∈ wsX10, w ∈ wsL_law := fun _ h => List.mem_append_left _ (List.mem_append_left _ (List.mem_append_left _ (List.mem_append_left _ (List.mem_append_right _ h))))
theorem inX1 : ∀ w ∈ wsX10, w ∈ lw_tbl := fun w h => wsL_law_in w (inlX1 w h)
theorem inlX2 : ∀ w ∈ wsX20, w ∈ wsL_law := fun _ h => List.mem_append_left _ (List.mem_append_left _ (List.mem_append_left _ (List.mem_append_left _ (List.mem_append_left _ (List.mem_append_left _ (List.mem_append_left _ (List.mem_append_right _ h)))))))
theorem inX2 : ∀ w ∈ wsX20, w ∈ lw_tbl := fun w h => wsL_law_in w (inlX2 w h)
theorem inlX3 : ∀ w ∈ wsX30, w ∈ wsL_law := fun _ h => List.mem_append_left _ (List.mem_append_left _ (List.mem_append_left _ (List.mem_append_left _ (List.mem_append_left _ (List.mem_append_left _ (List.mem_append_right _ h))))))
theorem inX3 : ∀ w ∈ wsX30, w ∈ lw_tbl := fun w h => wsL_law_in w (inlX3 w h)
theorem inlX4 : ∀ w ∈ wsX40, w ∈ wsL_law := fun _ h => List.mem_append_left _ (List.mem_append_left _ (List.mem_append_left _ (List.mem_append_left _ (List.mem_append_left _ (List.mem_append_left _ (List.mem_append_left _ (List.mem_append_left _ (List.mem_append_left _ (List.mem_append_right _ h)))))))))
theorem inX4 : ∀ w ∈ wsX40, w ∈ lw_tbl := fun w h => wsL_law_in w (inlX4 w h)
theorem inlX5 : ∀ w ∈ wsX50, w ∈ wsL_law := fun _ h => List.mem_append_left _ (List.mem_append_left _ (List.mem_append_left _ (List.mem_append_left _ (List.mem_append_left _ (List.mem_append_left _ (List.mem_append_left _ (List.mem_append_left _ (List.mem_append_right _ h))))))))
theorem inX5 : ∀ w ∈ wsX50, w ∈ lw_tbl := fun w h => wsL_law_in w (inlX5 w h)
theorem inJ9 : ∀ w ∈ wsJ90, w ∈ lw_tbl := by decide +kernel
theorem inJ0 : ∀ w ∈ wsJ00, w ∈ lw_tbl := by decide +kernel
theorem dX0_init_0 : decode cX0_init 0 = .ok (.aload_n 0, 1) := by decide +kernel
theorem dX0_init_1 : decode cX0_init 1 = .ok (.invokespecial 3, 3) := by decide +kernel
theorem dX0_init_4 : decode cX0_init 4 = .ok (.aload_n 0, 1) := by decide +kernel
theorem dX0_init_5 : decode cX0_init 5 = .ok (.bipush 20, 2) := by decide +kernel
theorem dX0_init_7 : decode cX0_init 7 = .ok (.newarray .int, 2) := by decide +kernel
theorem dX0_init_9 : decode cX0_init 9 = .ok (.putfield 9, 3) := by decide +kernel
theorem dX0_init_12 : decode cX0_init 12 = .ok (.aload_n 0, 1) := by decide +kernel
theorem dX0_init_13 : decode cX0_init 13 = .ok (.bipush 20, 2) := by decide +kernel
theorem dX0_init_15 : decode cX0_init 15 = .ok (.newarray .int, 2) := by decide +kernel
theorem dX0_init_17 : decode cX0_init 17 = .ok (.putfield 15, 3) := by decide +kernel
theorem dX0_init_20 : decode cX0_init 20 = .ok (.aload_n 0, 1) := by decide +kernel
theorem dX0_init_21 : decode cX0_init 21 = .ok (.bipush 20, 2) := by decide +kernel
theorem dX0_init_23 : decode cX0_init 23 = .ok (.newarray .int, 2) := by decide +kernel
theorem dX0_init_25 : decode cX0_init 25 = .ok (.putfield 18, 3) := by decide +kernel
theorem dX0_init_28 : decode cX0_init 28 = .ok (.aload_n 0, 1) := by decide +kernel
theorem dX0_init_29 : decode cX0_init 29 = .ok (.bipush 20, 2) := by decide +kernel
theorem dX0_init_31 : decode cX0_init 31 = .ok (.newarray .int, 2) := by decide +kernel
theorem dX0_init_33 : decode cX0_init 33 = .ok (.putfield 21, 3) := by decide +kernel
theorem dX0_init_36 : decode cX0_init 36 = .ok (.return_, 1) := by decide +kernel
theorem dX0_settledSum_0 : decode cX0_settledSum 0 = .ok (.iconst 0, 1) := by decide +kernel
theorem dX0_settledSum_1 : decode cX0_settledSum 1 = .ok (.istore_n 3, 1) := by decide +kernel
theorem dX0_settledSum_2 : decode cX0_settledSum 2 = .ok (.iconst 0, 1) := by decide +kernel
theorem dX0_settledSum_3 : decode cX0_settledSum 3 = .ok (.istore 4, 2) := by decide +kernel
theorem dX0_settledSum_5 : decode cX0_settledSum 5 = .ok (.iload 4, 2) := by decide +kernel
theorem dX0_settledSum_7 : decode cX0_settledSum 7 = .ok (.aload_n 0, 1) := by decide +kernel
theorem dX0_settledSum_8 : decode cX0_settledSum 8 = .ok (.getfield 24, 3) := by decide +kernel
theorem dX0_settledSum_11 : decode cX0_settledSum 11 = .ok (.if_icmp .ge 52, 3) := by decide +kernel
theorem dX0_settledSum_14 : decode cX0_settledSum 14 = .ok (.aload_n 0, 1) := by decide +kernel
theorem dX0_settledSum_15 : decode cX0_settledSum 15 = .ok (.getfield 9, 3) := by decide +kernel
theorem dX0_settledSum_18 : decode cX0_settledSum 18 = .ok (.iload 4, 2) := by decide +kernel
theorem dX0_settledSum_20 : decode cX0_settledSum 20 = .ok (.iaload, 1) := by decide +kernel
theorem dX0_settledSum_21 : decode cX0_settledSum 21 = .ok (.iload_n 1, 1) := by decide +kernel
theorem dX0_settledSum_22 : decode cX0_settledSum 22 = .ok (.if_icmp .ne 35, 3) := by decide +kernel
theorem dX0_settledSum_25 : decode cX0_settledSum 25 = .ok (.aload_n 0, 1) := by decide +kernel
theorem dX0_settledSum_26 : decode cX0_settledSum 26 = .ok (.getfield 21, 3) := by decide +kernel
theorem dX0_settledSum_29 : decode cX0_settledSum 29 = .ok (.iload 4, 2) := by decide +kernel
theorem dX0_settledSum_31 : decode cX0_settledSum 31 = .ok (.iaload, 1) := by decide +kernel
theorem dX0_settledSum_32 : decode cX0_settledSum 32 = .ok (.iconst (-1), 1) := by decide +kernel
theorem dX0_settledSum_33 : decode cX0_settledSum 33 = .ok (.if_icmp .eq 24, 3) := by decide +kernel
theorem dX0_settledSum_36 : decode cX0_settledSum 36 = .ok (.aload_n 0, 1) := by decide +kernel
theorem dX0_settledSum_37 : decode cX0_settledSum 37 = .ok (.getfield 21, 3) := by decide +kernel
theorem dX0_settledSum_40 : decode cX0_settledSum 40 = .ok (.iload 4, 2) := by decide +kernel
theorem dX0_settledSum_42 : decode cX0_settledSum 42 = .ok (.iaload, 1) := by decide +kernel
theorem dX0_settledSum_43 : decode cX0_settledSum 43 = .ok (.iload_n 2, 1) := by decide +kernel
theorem dX0_settledSum_44 : decode cX0_settledSum 44 = .ok (.if_icmp .lt 13, 3) := by decide +kernel
theorem dX0_settledSum_47 : decode cX0_settledSum 47 = .ok (.iload_n 3, 1) := by decide +kernel
theorem dX0_settledSum_48 : decode cX0_settledSum 48 = .ok (.aload_n 0, 1) := by decide +kernel
theorem dX0_settledSum_49 : decode cX0_settledSum 49 = .ok (.getfield 21, 3) := by decide +kernel
theorem dX0_settledSum_52 : decode cX0_settledSum 52 = .ok (.iload 4, 2) := by decide +kernel
theorem dX0_settledSum_54 : decode cX0_settledSum 54 = .ok (.iaload, 1) := by decide +kernel
theorem dX0_settledSum_55 : decode cX0_settledSum 55 = .ok (.iadd, 1) := by decide +kernel
theorem dX0_settledSum_56 : decode cX0_settledSum 56 = .ok (.istore_n 3, 1) := by decide +kernel
theorem dX0_settledSum_57 : decode cX0_settledSum 57 = .ok (.iinc 4 1, 3) := by decide +kernel
theorem dX0_settledSum_60 : decode cX0_settledSum 60 = .ok (.goto (-55), 3) := by decide +kernel
theorem dX0_settledSum_63 : decode cX0_settledSum 63 = .ok (.iload_n 3, 1) := by decide +kernel
theorem dX0_settledSum_64 : decode cX0_settledSum 64 = .ok (.ireturn, 1) := by decide +kernel
theorem dX0_openSum_0 : decode cX0_openSum 0 = .ok (.iconst 0, 1) := by decide +kernel
theorem dX0_openSum_1 : decode cX0_openSum 1 = .ok (.istore_n 1, 1) := by decide +kernel
theorem dX0_openSum_2 : decode cX0_openSum 2 = .ok (.iconst 0, 1) := by decide +kernel
theorem dX0_openSum_3 : decode cX0_openSum 3 = .ok (.istore_n 2, 1) := by decide +kernel
theorem dX0_openSum_4 : decode cX0_openSum 4 = .ok (.iload_n 2, 1) := by decide +kernel
theorem dX0_openSum_5 : decode cX0_openSum 5 = .ok (.aload_n 0, 1) := by decide +kernel
theorem dX0_openSum_6 : decode cX0_openSum 6 = .ok (.getfield 24, 3) := by decide +kernel
theorem dX0_openSum_9 : decode cX0_openSum 9 = .ok (.if_icmp .ge 28, 3) := by decide +kernel
theorem dX0_openSum_12 : decode cX0_openSum 12 = .ok (.aload_n 0, 1) := by decide +kernel
theorem dX0_openSum_13 : decode cX0_openSum 13 = .ok (.getfield 21, 3) := by decide +kernel
theorem dX0_openSum_16 : decode cX0_openSum 16 = .ok (.iload_n 2, 1) := by decide +kernel
theorem dX0_openSum_17 : decode cX0_openSum 17 = .ok (.iaload, 1) := by decide +kernel
theorem dX0_openSum_18 : decode cX0_openSum 18 = .ok (.iconst (-1), 1) := by decide +kernel
theorem dX0_openSum_19 : decode cX0_openSum 19 = .ok (.if_icmp .ne 12, 3) := by decide +kernel
theorem dX0_openSum_22 : decode cX0_openSum 22 = .ok (.iload_n 1, 1) := by decide +kernel
theorem dX0_openSum_23 : decode cX0_openSum 23 = .ok (.aload_n 0, 1) := by decide +kernel
theorem dX0_openSum_24 : decode cX0_openSum 24 = .ok (.getfield 15, 3) := by decide +kernel
theorem dX0_openSum_27 : decode cX0_openSum 27 = .ok (.iload_n 2, 1) := by decide +kernel
theorem dX0_openSum_28 : decode cX0_openSum 28 = .ok (.iaload, 1) := by decide +kernel
theorem dX0_openSum_29 : decode cX0_openSum 29 = .ok (.iadd, 1) := by decide +kernel
theorem dX0_openSum_30 : decode cX0_openSum 30 = .ok (.istore_n 1, 1) := by decide +kernel
theorem dX0_openSum_31 : decode cX0_openSum 31 = .ok (.iinc 2 1, 3) := by decide +kernel
theorem dX0_openSum_34 : decode cX0_openSum 34 = .ok (.goto (-30), 3) := by decide +kernel
theorem dX0_openSum_37 : decode cX0_openSum 37 = .ok (.iload_n 1, 1) := by decide +kernel
theorem dX0_openSum_38 : decode cX0_openSum 38 = .ok (.ireturn, 1) := by decide +kernel
theorem dX1_init_0 : decode cX1_init 0 = .ok (.aload_n 0, 1) := by decide +kernel
theorem dX1_init_1 : decode cX1_init 1 = .ok (.invokespecial 3, 3) := by decide +kernel
theorem dX1_init_4 : decode cX1_init 4 = .ok (.aload_n 0, 1) := by decide +kernel
theorem dX1_init_5 : decode cX1_init 5 = .ok (.iconst 4, 1) := by decide +kernel
theorem dX1_init_6 : decode cX1_init 6 = .ok (.newarray .int, 2) := by decide +kernel
theorem dX1_init_8 : decode cX1_init 8 = .ok (.putfield 9, 3) := by decide +kernel
theorem dX1_init_11 : decode cX1_init 11 = .ok (.aload_n 0, 1) := by decide +kernel
theorem dX1_init_12 : decode cX1_init 12 = .ok (.iconst 4, 1) := by decide +kernel
theorem dX1_init_13 : decode cX1_init 13 = .ok (.newarray .int, 2) := by decide +kernel
theorem dX1_init_15 : decode cX1_init 15 = .ok (.putfield 15, 3) := by decide +kernel
theorem dX1_init_18 : decode cX1_init 18 = .ok (.aload_n 0, 1) := by decide +kernel
theorem dX1_init_19 : decode cX1_init 19 = .ok (.iconst 4, 1) := by decide +kernel
theorem dX1_init_20 : decode cX1_init 20 = .ok (.newarray .boolean, 2) := by decide +kernel
theorem dX1_init_22 : decode cX1_init 22 = .ok (.putfield 18, 3) := by decide +kernel
theorem dX1_init_25 : decode cX1_init 25 = .ok (.return_, 1) := by decide +kernel
set_option maxRecDepth 20000 in
theorem ggX1_tell_X1_meet : GoodIn wsX1_tell wsX1_meet := goodIn_r _ [10, 11, 12, 13, 14, 15, 16, 17, 18, 19, 20] (by decide +kernel) (by decide +kernel)
set_option maxRecDepth 20000 in
theorem gX1_tell_X1_meet : GoodIn wsX1_tell (wsV RX1 36 RX1 yX1_meet wsX1_meet) := goodIn_app (goodIn_of _ (by decide +kernel)) ggX1_tell_X1_meet
theorem dX1_tell_0 : decode cX1_tell 0 = .ok (.aload_n 0, 1) := by decide +kernel
theorem dX1_tell_1 : decode cX1_tell 1 = .ok (.getfield 22, 3) := by decide +kernel
theorem dX1_tell_4 : decode cX1_tell 4 = .ok (.istore_n 2, 1) := by decide +kernel
theorem dX1_tell_5 : decode cX1_tell 5 = .ok (.iload_n 2, 1) := by decide +kernel
theorem dX1_tell_6 : decode cX1_tell 6 = .ok (.iconst 4, 1) := by decide +kernel
theorem dX1_tell_7 : decode cX1_tell 7 = .ok (.if_icmp .lt 5, 3) := by decide +kernel
theorem dX1_tell_10 : decode cX1_tell 10 = .ok (.iconst 0, 1) := by decide +kernel
theorem dX1_tell_11 : decode cX1_tell 11 = .ok (.ireturn, 1) := by decide +kernel
theorem dX1_tell_12 : decode cX1_tell 12 = .ok (.aload_n 0, 1) := by decide +kernel
theorem dX1_tell_13 : decode cX1_tell 13 = .ok (.iload_n 2, 1) := by decide +kernel
theorem dX1_tell_14 : decode cX1_tell 14 = .ok (.iconst 1, 1) := by decide +kernel
theorem dX1_tell_15 : decode cX1_tell 15 = .ok (.iadd, 1) := by decide +kernel
theorem dX1_tell_16 : decode cX1_tell 16 = .ok (.putfield 22, 3) := by decide +kernel
theorem dX1_tell_19 : decode cX1_tell 19 = .ok (.aload_n 0, 1) := by decide +kernel
theorem dX1_tell_20 : decode cX1_tell 20 = .ok (.dup, 1) := by decide +kernel
theorem dX1_tell_21 : decode cX1_tell 21 = .ok (.getfield 26, 3) := by decide +kernel
theorem dX1_tell_24 : decode cX1_tell 24 = .ok (.iload_n 1, 1) := by decide +kernel
theorem dX1_tell_25 : decode cX1_tell 25 = .ok (.iadd, 1) := by decide +kernel
theorem dX1_tell_26 : decode cX1_tell 26 = .ok (.putfield 26, 3) := by decide +kernel
theorem dX1_tell_29 : decode cX1_tell 29 = .ok (.aload_n 0, 1) := by decide +kernel
theorem dX1_tell_30 : decode cX1_tell 30 = .ok (.dup, 1) := by decide +kernel
theorem dX1_tell_31 : decode cX1_tell 31 = .ok (.getfield 29, 3) := by decide +kernel
theorem dX1_tell_34 : decode cX1_tell 34 = .ok (.aload_n 0, 1) := by decide +kernel
theorem dX1_tell_35 : decode cX1_tell 35 = .ok (.getfield 9, 3) := by decide +kernel
theorem dX1_tell_38 : decode cX1_tell 38 = .ok (.iload_n 2, 1) := by decide +kernel
theorem dX1_tell_39 : decode cX1_tell 39 = .ok (.iaload, 1) := by decide +kernel
theorem dX1_tell_40 : decode cX1_tell 40 = .ok (.iadd, 1) := by decide +kernel
theorem dX1_tell_41 : decode cX1_tell 41 = .ok (.putfield 29, 3) := by decide +kernel
theorem dX1_tell_44 : decode cX1_tell 44 = .ok (.aload_n 0, 1) := by decide +kernel
theorem dX1_tell_45 : decode cX1_tell 45 = .ok (.getfield 32, 3) := by decide +kernel
theorem dX1_tell_48 : decode cX1_tell 48 = .ok (.ifCond .eq 24, 3) := by decide +kernel
theorem dX1_tell_51 : decode cX1_tell 51 = .ok (.aload_n 0, 1) := by decide +kernel
theorem dX1_tell_52 : decode cX1_tell 52 = .ok (.getfield 26, 3) := by decide +kernel
theorem dX1_tell_55 : decode cX1_tell 55 = .ok (.aload_n 0, 1) := by decide +kernel
theorem dX1_tell_56 : decode cX1_tell 56 = .ok (.getfield 29, 3) := by decide +kernel
theorem dX1_tell_59 : decode cX1_tell 59 = .ok (.if_icmp .lt 13, 3) := by decide +kernel
theorem dX1_tell_62 : decode cX1_tell 62 = .ok (.aload_n 0, 1) := by decide +kernel
theorem dX1_tell_63 : decode cX1_tell 63 = .ok (.iconst 0, 1) := by decide +kernel
theorem dX1_tell_64 : decode cX1_tell 64 = .ok (.aload_n 0, 1) := by decide +kernel
theorem dX1_tell_65 : decode cX1_tell 65 = .ok (.getfield 22, 3) := by decide +kernel
theorem dX1_tell_68 : decode cX1_tell 68 = .ok (.invokevirtual 36, 3) := by decide +kernel
theorem dX1_tell_71 : decode cX1_tell 71 = .ok (.ireturn, 1) := by decide +kernel
theorem dX1_tell_72 : decode cX1_tell 72 = .ok (.iload_n 1, 1) := by decide +kernel
theorem dX1_tell_73 : decode cX1_tell 73 = .ok (.aload_n 0, 1) := by decide +kernel
theorem dX1_tell_74 : decode cX1_tell 74 = .ok (.getfield 9, 3) := by decide +kernel
theorem dX1_tell_77 : decode cX1_tell 77 = .ok (.iload_n 2, 1) := by decide +kernel
theorem dX1_tell_78 : decode cX1_tell 78 = .ok (.iaload, 1) := by decide +kernel
theorem dX1_tell_79 : decode cX1_tell 79 = .ok (.if_icmp .lt 15, 3) := by decide +kernel
theorem dX1_tell_82 : decode cX1_tell 82 = .ok (.aload_n 0, 1) := by decide +kernel
theorem dX1_tell_83 : decode cX1_tell 83 = .ok (.iload_n 2, 1) := by decide +kernel
theorem dX1_tell_84 : decode cX1_tell 84 = .ok (.aload_n 0, 1) := by decide +kernel
theorem dX1_tell_85 : decode cX1_tell 85 = .ok (.getfield 22, 3) := by decide +kernel
theorem dX1_tell_88 : decode cX1_tell 88 = .ok (.invokevirtual 36, 3) := by decide +kernel
theorem dX1_tell_91 : decode cX1_tell 91 = .ok (.goto 4, 3) := by decide +kernel
theorem dX1_tell_94 : decode cX1_tell 94 = .ok (.iconst 0, 1) := by decide +kernel
theorem dX1_tell_95 : decode cX1_tell 95 = .ok (.ireturn, 1) := by decide +kernel
set_option maxRecDepth 20000 in
theorem ggX1_hasten_X1_meet : GoodIn wsX1_hasten wsX1_meet := goodIn_r _ [7, 8, 9, 10, 11, 12, 13, 14, 15, 16, 17] (by decide +kernel) (by decide +kernel)
set_option maxRecDepth 20000 in
theorem gX1_hasten_X1_meet : GoodIn wsX1_hasten (wsV RX1 36 RX1 yX1_meet wsX1_meet) := goodIn_app (goodIn_of _ (by decide +kernel)) ggX1_hasten_X1_meet
theorem dX1_hasten_0 : decode cX1_hasten 0 = .ok (.aload_n 0, 1) := by decide +kernel
theorem dX1_hasten_1 : decode cX1_hasten 1 = .ok (.iconst 1, 1) := by decide +kernel
theorem dX1_hasten_2 : decode cX1_hasten 2 = .ok (.putfield 40, 3) := by decide +kernel
theorem dX1_hasten_5 : decode cX1_hasten 5 = .ok (.aload_n 0, 1) := by decide +kernel
theorem dX1_hasten_6 : decode cX1_hasten 6 = .ok (.aload_n 0, 1) := by decide +kernel
theorem dX1_hasten_7 : decode cX1_hasten 7 = .ok (.getfield 22, 3) := by decide +kernel
theorem dX1_hasten_10 : decode cX1_hasten 10 = .ok (.iconst 4, 1) := by decide +kernel
theorem dX1_hasten_11 : decode cX1_hasten 11 = .ok (.invokevirtual 36, 3) := by decide +kernel
theorem dX1_hasten_14 : decode cX1_hasten 14 = .ok (.ireturn, 1) := by decide +kernel
theorem dX1_meet_0 : decode cX1_meet 0 = .ok (.iconst 0, 1) := by decide +kernel
theorem dX1_meet_1 : decode cX1_meet 1 = .ok (.istore_n 3, 1) := by decide +kernel
theorem dX1_meet_2 : decode cX1_meet 2 = .ok (.iload_n 1, 1) := by decide +kernel
theorem dX1_meet_3 : decode cX1_meet 3 = .ok (.istore 4, 2) := by decide +kernel
theorem dX1_meet_5 : decode cX1_meet 5 = .ok (.iload 4, 2) := by decide +kernel
theorem dX1_meet_7 : decode cX1_meet 7 = .ok (.iload_n 2, 1) := by decide +kernel
theorem dX1_meet_8 : decode cX1_meet 8 = .ok (.if_icmp .ge 37, 3) := by decide +kernel
theorem dX1_meet_11 : decode cX1_meet 11 = .ok (.aload_n 0, 1) := by decide +kernel
theorem dX1_meet_12 : decode cX1_meet 12 = .ok (.getfield 18, 3) := by decide +kernel
theorem dX1_meet_15 : decode cX1_meet 15 = .ok (.iload 4, 2) := by decide +kernel
theorem dX1_meet_17 : decode cX1_meet 17 = .ok (.baload, 1) := by decide +kernel
theorem dX1_meet_18 : decode cX1_meet 18 = .ok (.ifCond .ne 21, 3) := by decide +kernel
theorem dX1_meet_21 : decode cX1_meet 21 = .ok (.aload_n 0, 1) := by decide +kernel
theorem dX1_meet_22 : decode cX1_meet 22 = .ok (.getfield 18, 3) := by decide +kernel
theorem dX1_meet_25 : decode cX1_meet 25 = .ok (.iload 4, 2) := by decide +kernel
theorem dX1_meet_27 : decode cX1_meet 27 = .ok (.iconst 1, 1) := by decide +kernel
theorem dX1_meet_28 : decode cX1_meet 28 = .ok (.bastore, 1) := by decide +kernel
theorem dX1_meet_29 : decode cX1_meet 29 = .ok (.iload_n 3, 1) := by decide +kernel
theorem dX1_meet_30 : decode cX1_meet 30 = .ok (.aload_n 0, 1) := by decide +kernel
theorem dX1_meet_31 : decode cX1_meet 31 = .ok (.getfield 15, 3) := by decide +kernel
theorem dX1_meet_34 : decode cX1_meet 34 = .ok (.iload 4, 2) := by decide +kernel
theorem dX1_meet_36 : decode cX1_meet 36 = .ok (.iaload, 1) := by decide +kernel
theorem dX1_meet_37 : decode cX1_meet 37 = .ok (.iadd, 1) := by decide +kernel
theorem dX1_meet_38 : decode cX1_meet 38 = .ok (.istore_n 3, 1) := by decide +kernel
theorem dX1_meet_39 : decode cX1_meet 39 = .ok (.iinc 4 1, 3) := by decide +kernel
theorem dX1_meet_42 : decode cX1_meet 42 = .ok (.goto (-37), 3) := by decide +kernel
theorem dX1_meet_45 : decode cX1_meet 45 = .ok (.iload_n 3, 1) := by decide +kernel
theorem dX1_meet_46 : decode cX1_meet 46 = .ok (.ireturn, 1) := by decide +kernel
theorem dX2_init_0 : decode cX2_init 0 = .ok (.aload_n 0, 1) := by decide +kernel
theorem dX2_init_1 : decode cX2_init 1 = .ok (.invokespecial 3, 3) := by decide +kernel
theorem dX2_init_4 : decode cX2_init 4 = .ok (.aload_n 0, 1) := by decide +kernel
theorem dX2_init_5 : decode cX2_init 5 = .ok (.iconst 4, 1) := by decide +kernel
theorem dX2_init_6 : decode cX2_init 6 = .ok (.newarray .int, 2) := by decide +kernel
theorem dX2_init_8 : decode cX2_init 8 = .ok (.putfield 9, 3) := by decide +kernel
theorem dX2_init_11 : decode cX2_init 11 = .ok (.aload_n 0, 1) := by decide +kernel
theorem dX2_init_12 : decode cX2_init 12 = .ok (.iconst 4, 1) := by decide +kernel
theorem dX2_init_13 : decode cX2_init 13 = .ok (.newarray .int, 2) := by decide +kernel
theorem dX2_init_15 : decode cX2_init 15 = .ok (.putfield 15, 3) := by decide +kernel
theorem dX2_init_18 : decode cX2_init 18 = .ok (.return_, 1) := by decide +kernel
theorem dX2_total_0 : decode cX2_total 0 = .ok (.iconst 0, 1) := by decide +kernel
theorem dX2_total_1 : decode cX2_total 1 = .ok (.istore_n 1, 1) := by decide +kernel
theorem dX2_total_2 : decode cX2_total 2 = .ok (.iconst 0, 1) := by decide +kernel
theorem dX2_total_3 : decode cX2_total 3 = .ok (.istore_n 2, 1) := by decide +kernel
theorem dX2_total_4 : decode cX2_total 4 = .ok (.iload_n 2, 1) := by decide +kernel
theorem dX2_total_5 : decode cX2_total 5 = .ok (.iconst 4, 1) := by decide +kernel
theorem dX2_total_6 : decode cX2_total 6 = .ok (.if_icmp .ge 18, 3) := by decide +kernel
theorem dX2_total_9 : decode cX2_total 9 = .ok (.iload_n 1, 1) := by decide +kernel
theorem dX2_total_10 : decode cX2_total 10 = .ok (.aload_n 0, 1) := by decide +kernel
theorem dX2_total_11 : decode cX2_total 11 = .ok (.getfield 9, 3) := by decide +kernel
theorem dX2_total_14 : decode cX2_total 14 = .ok (.iload_n 2, 1) := by decide +kernel
theorem dX2_total_15 : decode cX2_total 15 = .ok (.iaload, 1) := by decide +kernel
theorem dX2_total_16 : decode cX2_total 16 = .ok (.iadd, 1) := by decide +kernel
theorem dX2_total_17 : decode cX2_total 17 = .ok (.istore_n 1, 1) := by decide +kernel
theorem dX2_total_18 : decode cX2_total 18 = .ok (.iinc 2 1, 3) := by decide +kernel
theorem dX2_total_21 : decode cX2_total 21 = .ok (.goto (-17), 3) := by decide +kernel
theorem dX2_total_24 : decode cX2_total 24 = .ok (.iload_n 1, 1) := by decide +kernel
theorem dX2_total_25 : decode cX2_total 25 = .ok (.ireturn, 1) := by decide +kernel
theorem dX2_totalAfter_0 : decode cX2_totalAfter 0 = .ok (.iconst 0, 1) := by decide +kernel
theorem dX2_totalAfter_1 : decode cX2_totalAfter 1 = .ok (.istore_n 2, 1) := by decide +kernel
theorem dX2_totalAfter_2 : decode cX2_totalAfter 2 = .ok (.iconst 0, 1) := by decide +kernel
theorem dX2_totalAfter_3 : decode cX2_totalAfter 3 = .ok (.istore_n 3, 1) := by decide +kernel
theorem dX2_totalAfter_4 : decode cX2_totalAfter 4 = .ok (.iload_n 3, 1) := by decide +kernel
theorem dX2_totalAfter_5 : decode cX2_totalAfter 5 = .ok (.iconst 4, 1) := by decide +kernel
theorem dX2_totalAfter_6 : decode cX2_totalAfter 6 = .ok (.if_icmp .ge 28, 3) := by decide +kernel
theorem dX2_totalAfter_9 : decode cX2_totalAfter 9 = .ok (.aload_n 0, 1) := by decide +kernel
theorem dX2_totalAfter_10 : decode cX2_totalAfter 10 = .ok (.getfield 15, 3) := by decide +kernel
theorem dX2_totalAfter_13 : decode cX2_totalAfter 13 = .ok (.iload_n 3, 1) := by decide +kernel
theorem dX2_totalAfter_14 : decode cX2_totalAfter 14 = .ok (.iaload, 1) := by decide +kernel
theorem dX2_totalAfter_15 : decode cX2_totalAfter 15 = .ok (.iload_n 1, 1) := by decide +kernel
theorem dX2_totalAfter_16 : decode cX2_totalAfter 16 = .ok (.if_icmp .le 12, 3) := by decide +kernel
theorem dX2_totalAfter_19 : decode cX2_totalAfter 19 = .ok (.iload_n 2, 1) := by decide +kernel
theorem dX2_totalAfter_20 : decode cX2_totalAfter 20 = .ok (.aload_n 0, 1) := by decide +kernel
theorem dX2_totalAfter_21 : decode cX2_totalAfter 21 = .ok (.getfield 9, 3) := by decide +kernel
theorem dX2_totalAfter_24 : decode cX2_totalAfter 24 = .ok (.iload_n 3, 1) := by decide +kernel
theorem dX2_totalAfter_25 : decode cX2_totalAfter 25 = .ok (.iaload, 1) := by decide +kernel
theorem dX2_totalAfter_26 : decode cX2_totalAfter 26 = .ok (.iadd, 1) := by decide +kernel
theorem dX2_totalAfter_27 : decode cX2_totalAfter 27 = .ok (.istore_n 2, 1) := by decide +kernel
theorem dX2_totalAfter_28 : decode cX2_totalAfter 28 = .ok (.iinc 3 1, 3) := by decide +kernel
theorem dX2_totalAfter_31 : decode cX2_totalAfter 31 = .ok (.goto (-27), 3) := by decide +kernel
theorem dX2_totalAfter_34 : decode cX2_totalAfter 34 = .ok (.iload_n 2, 1) := by decide +kernel
theorem dX2_totalAfter_35 : decode cX2_totalAfter 35 = .ok (.ireturn, 1) := by decide +kernel
theorem dX3_init_0 : decode cX3_init 0 = .ok (.aload_n 0, 1) := by decide +kernel
theorem dX3_init_1 : decode cX3_init 1 = .ok (.invokespecial 3, 3) := by decide +kernel
theorem dX3_init_4 : decode cX3_init 4 = .ok (.aload_n 0, 1) := by decide +kernel
theorem dX3_init_5 : decode cX3_init 5 = .ok (.iconst 3, 1) := by decide +kernel
theorem dX3_init_6 : decode cX3_init 6 = .ok (.newarray .int, 2) := by decide +kernel
theorem dX3_init_8 : decode cX3_init 8 = .ok (.putfield 9, 3) := by decide +kernel
theorem dX3_init_11 : decode cX3_init 11 = .ok (.aload_n 0, 1) := by decide +kernel
theorem dX3_init_12 : decode cX3_init 12 = .ok (.iconst 3, 1) := by decide +kernel
theorem dX3_init_13 : decode cX3_init 13 = .ok (.newarray .int, 2) := by decide +kernel
theorem dX3_init_15 : decode cX3_init 15 = .ok (.putfield 15, 3) := by decide +kernel
theorem dX3_init_18 : decode cX3_init 18 = .ok (.aload_n 0, 1) := by decide +kernel
theorem dX3_init_19 : decode cX3_init 19 = .ok (.iconst 3, 1) := by decide +kernel
theorem dX3_init_20 : decode cX3_init 20 = .ok (.newarray .boolean, 2) := by decide +kernel
theorem dX3_init_22 : decode cX3_init 22 = .ok (.putfield 18, 3) := by decide +kernel
theorem dX3_init_25 : decode cX3_init 25 = .ok (.aload_n 0, 1) := by decide +kernel
theorem dX3_init_26 : decode cX3_init 26 = .ok (.iconst 3, 1) := by decide +kernel
theorem dX3_init_27 : decode cX3_init 27 = .ok (.newarray .int, 2) := by decide +kernel
theorem dX3_init_29 : decode cX3_init 29 = .ok (.putfield 22, 3) := by decide +kernel
theorem dX3_init_32 : decode cX3_init 32 = .ok (.aload_n 0, 1) := by decide +kernel
theorem dX3_init_33 : decode cX3_init 33 = .ok (.iconst 3, 1) := by decide +kernel
theorem dX3_init_34 : decode cX3_init 34 = .ok (.newarray .int, 2) := by decide +kernel
theorem dX3_init_36 : decode cX3_init 36 = .ok (.putfield 25, 3) := by decide +kernel
theorem dX3_init_39 : decode cX3_init 39 = .ok (.return_, 1) := by decide +kernel
set_option maxRecDepth 20000 in
theorem ggX3_limit_X3_pastBasket : GoodIn wsX3_limit wsX3_pastBasket := goodIn_r _ [10, 11, 12, 13, 14, 15, 16, 17] (by decide +kernel) (by decide +kernel)
set_option maxRecDepth 20000 in
theorem gX3_limit_X3_pastBasket : GoodIn wsX3_limit (wsV RX3 28 RX3 yX3_pastBasket wsX3_pastBasket) := goodIn_app (goodIn_of _ (by decide +kernel)) ggX3_limit_X3_pastBasket
theorem dX3_limit_0 : decode cX3_limit 0 = .ok (.aload_n 0, 1) := by decide +kernel
theorem dX3_limit_1 : decode cX3_limit 1 = .ok (.iload_n 1, 1) := by decide +kernel
theorem dX3_limit_2 : decode cX3_limit 2 = .ok (.iload_n 2, 1) := by decide +kernel
theorem dX3_limit_3 : decode cX3_limit 3 = .ok (.invokevirtual 28, 3) := by decide +kernel
theorem dX3_limit_6 : decode cX3_limit 6 = .ok (.aload_n 0, 1) := by decide +kernel
theorem dX3_limit_7 : decode cX3_limit 7 = .ok (.getfield 22, 3) := by decide +kernel
theorem dX3_limit_10 : decode cX3_limit 10 = .ok (.iload_n 1, 1) := by decide +kernel
theorem dX3_limit_11 : decode cX3_limit 11 = .ok (.iaload, 1) := by decide +kernel
theorem dX3_limit_12 : decode cX3_limit 12 = .ok (.invokestatic 32, 3) := by decide +kernel
theorem dX3_limit_15 : decode cX3_limit 15 = .ok (.ireturn, 1) := by decide +kernel
theorem dX3_pastBasket_0 : decode cX3_pastBasket 0 = .ok (.aload_n 0, 1) := by decide +kernel
theorem dX3_pastBasket_1 : decode cX3_pastBasket 1 = .ok (.getfield 15, 3) := by decide +kernel
theorem dX3_pastBasket_4 : decode cX3_pastBasket 4 = .ok (.iload_n 1, 1) := by decide +kernel
theorem dX3_pastBasket_5 : decode cX3_pastBasket 5 = .ok (.iaload, 1) := by decide +kernel
theorem dX3_pastBasket_6 : decode cX3_pastBasket 6 = .ok (.istore_n 3, 1) := by decide +kernel
theorem dX3_pastBasket_7 : decode cX3_pastBasket 7 = .ok (.aload_n 0, 1) := by decide +kernel
theorem dX3_pastBasket_8 : decode cX3_pastBasket 8 = .ok (.getfield 18, 3) := by decide +kernel
theorem dX3_pastBasket_11 : decode cX3_pastBasket 11 = .ok (.iload_n 1, 1) := by decide +kernel
theorem dX3_pastBasket_12 : decode cX3_pastBasket 12 = .ok (.baload, 1) := by decide +kernel
theorem dX3_pastBasket_13 : decode cX3_pastBasket 13 = .ok (.ifCond .eq 14, 3) := by decide +kernel
theorem dX3_pastBasket_16 : decode cX3_pastBasket 16 = .ok (.iload_n 2, 1) := by decide +kernel
theorem dX3_pastBasket_17 : decode cX3_pastBasket 17 = .ok (.iload_n 3, 1) := by decide +kernel
theorem dX3_pastBasket_18 : decode cX3_pastBasket 18 = .ok (.if_icmp .lt 7, 3) := by decide +kernel
theorem dX3_pastBasket_21 : decode cX3_pastBasket 21 = .ok (.iload_n 2, 1) := by decide +kernel
theorem dX3_pastBasket_22 : decode cX3_pastBasket 22 = .ok (.goto 4, 3) := by decide +kernel
theorem dX3_pastBasket_25 : decode cX3_pastBasket 25 = .ok (.iconst 0, 1) := by decide +kernel
theorem dX3_pastBasket_26 : decode cX3_pastBasket 26 = .ok (.ireturn, 1) := by decide +kernel
theorem dX3_pastBasket_27 : decode cX3_pastBasket 27 = .ok (.iload_n 2, 1) := by decide +kernel
theorem dX3_pastBasket_28 : decode cX3_pastBasket 28 = .ok (.iload_n 3, 1) := by decide +kernel
theorem dX3_pastBasket_29 : decode cX3_pastBasket 29 = .ok (.if_icmp .le 9, 3) := by decide +kernel
theorem dX3_pastBasket_32 : decode cX3_pastBasket 32 = .ok (.iload_n 2, 1) := by decide +kernel
theorem dX3_pastBasket_33 : decode cX3_pastBasket 33 = .ok (.iload_n 3, 1) := by decide +kernel
theorem dX3_pastBasket_34 : decode cX3_pastBasket 34 = .ok (.isub, 1) := by decide +kernel
theorem dX3_pastBasket_35 : decode cX3_pastBasket 35 = .ok (.goto 4, 3) := by decide +kernel
theorem dX3_pastBasket_38 : decode cX3_pastBasket 38 = .ok (.iconst 0, 1) := by decide +kernel
theorem dX3_pastBasket_39 : decode cX3_pastBasket 39 = .ok (.ireturn, 1) := by decide +kernel
set_option maxRecDepth 20000 in
theorem ggX4_init_X2_init : GoodIn wsX4_init wsX2_init := goodIn_r _ [24, 25, 2, 3, 26, 27, 28, 54, 55] (by decide +kernel) (by decide +kernel)
set_option maxRecDepth 20000 in
theorem gX4_init_X2_init : GoodIn wsX4_init (wsX2_init) := ggX4_init_X2_init
set_option maxRecDepth 20000 in
theorem ggX4_init_X3_init : GoodIn wsX4_init wsX3_init := goodIn_r _ [31, 32, 2, 3, 26, 33, 34, 35, 36, 37, 38, 70, 71, 72, 73, 74] (by decide +kernel) (by decide +kernel)
set_option maxRecDepth 20000 in
theorem gX4_init_X3_init : GoodIn wsX4_init (wsX3_init) := ggX4_init_X3_init
set_option maxRecDepth 20000 in
theorem ggX4_init_X0_init : GoodIn wsX4_init wsX0_init := goodIn_r _ [41, 42, 2, 3, 26, 43, 44, 45, 46, 75, 76, 77, 78, 79] (by decide +kernel) (by decide +kernel)
set_option maxRecDepth 20000 in
theorem gX4_init_X0_init : GoodIn wsX4_init (wsX0_init) := ggX4_init_X0_init
set_option maxRecDepth 20000 in
theorem ggX4_init_X1_init : GoodIn wsX4_init wsX1_init := goodIn_r _ [49, 50, 2, 3, 26, 51, 52, 35, 53, 80, 81, 82, 83, 84, 85, 86, 87] (by decide +kernel) (by decide +kernel)
set_option maxRecDepth 20000 in
theorem gX4_init_X1_init : GoodIn wsX4_init (wsX1_init) := ggX4_init_X1_init
theorem dX4_init_0 : decode cX4_init 0 = .ok (.aload_n 0, 1) := by decide +kernel
theorem dX4_init_1 : decode cX4_init 1 = .ok (.invokespecial 1, 3) := by decide +kernel
theorem dX4_init_4 : decode cX4_init 4 = .ok (.aload_n 0, 1) := by decide +kernel
theorem dX4_init_5 : decode cX4_init 5 = .ok (.new 7, 3) := by decide +kernel
theorem dX4_init_8 : decode cX4_init 8 = .ok (.dup, 1) := by decide +kernel
theorem dX4_init_9 : decode cX4_init 9 = .ok (.invokespecial 9, 3) := by decide +kernel
theorem dX4_init_12 : decode cX4_init 12 = .ok (.putfield 10, 3) := by decide +kernel
theorem dX4_init_15 : decode cX4_init 15 = .ok (.aload_n 0, 1) := by decide +kernel
theorem dX4_init_16 : decode cX4_init 16 = .ok (.new 16, 3) := by decide +kernel
theorem dX4_init_19 : decode cX4_init 19 = .ok (.dup, 1) := by decide +kernel
theorem dX4_init_20 : decode cX4_init 20 = .ok (.invokespecial 18, 3) := by decide +kernel
theorem dX4_init_23 : decode cX4_init 23 = .ok (.putfield 19, 3) := by decide +kernel
theorem dX4_init_26 : decode cX4_init 26 = .ok (.aload_n 0, 1) := by decide +kernel
theorem dX4_init_27 : decode cX4_init 27 = .ok (.new 23, 3) := by decide +kernel
theorem dX4_init_30 : decode cX4_init 30 = .ok (.dup, 1) := by decide +kernel
theorem dX4_init_31 : decode cX4_init 31 = .ok (.invokespecial 25, 3) := by decide +kernel
theorem dX4_init_34 : decode cX4_init 34 = .ok (.putfield 26, 3) := by decide +kernel
theorem dX4_init_37 : decode cX4_init 37 = .ok (.aload_n 0, 1) := by decide +kernel
theorem dX4_init_38 : decode cX4_init 38 = .ok (.new 30, 3) := by decide +kernel
theorem dX4_init_41 : decode cX4_init 41 = .ok (.dup, 1) := by decide +kernel
theorem dX4_init_42 : decode cX4_init 42 = .ok (.invokespecial 32, 3) := by decide +kernel
theorem dX4_init_45 : decode cX4_init 45 = .ok (.putfield 33, 3) := by decide +kernel
theorem dX4_init_48 : decode cX4_init 48 = .ok (.aload_n 0, 1) := by decide +kernel
theorem dX4_init_49 : decode cX4_init 49 = .ok (.iconst (-1), 1) := by decide +kernel
theorem dX4_init_50 : decode cX4_init 50 = .ok (.putfield 37, 3) := by decide +kernel
theorem dX4_init_53 : decode cX4_init 53 = .ok (.aload_n 0, 1) := by decide +kernel
theorem dX4_init_54 : decode cX4_init 54 = .ok (.iconst (-1), 1) := by decide +kernel
theorem dX4_init_55 : decode cX4_init 55 = .ok (.putfield 41, 3) := by decide +kernel
theorem dX4_init_58 : decode cX4_init 58 = .ok (.return_, 1) := by decide +kernel
set_option maxRecDepth 20000 in
theorem ggX4_setPrice_X4_checkRange : GoodIn wsX4_setPrice wsX4_checkRange := goodIn_ca (goodIn_r _ [9, 10, 11] (by decide +kernel) (by decide +kernel)) (goodIn_sub (fun _ h => List.mem_cons_of_mem _ (List.mem_append_left _ (List.mem_append_right _ h))) (by decide +kernel))
set_option maxRecDepth 20000 in
theorem gX4_setPrice_X4_checkRange : GoodIn wsX4_setPrice (va_wsS RX4 45 yX4_checkRange wsX4_checkRange) := goodIn_app (goodIn_of _ (by decide +kernel)) ggX4_setPrice_X4_checkRange
set_option maxRecDepth 20000 in
theorem ggX4_setPrice_X4_checkNotClosed : GoodIn wsX4_setPrice wsX4_checkNotClosed := goodIn_ca (goodIn_r _ [15, 16, 17, 18, 19, 20, 21, 22, 23, 24, 25, 26, 27, 28, 29, 30, 31, 32] (by decide +kernel) (by decide +kernel)) (goodIn_sub (fun _ h => List.mem_cons_of_mem _ (List.mem_append_right _ h)) (by decide +kernel))
set_option maxRecDepth 20000 in
theorem gX4_setPrice_X4_checkNotClosed : GoodIn wsX4_setPrice (wsV RX4 50 RX4 yX4_checkNotClosed wsX4_checkNotClosed) := goodIn_app (goodIn_of _ (by decide +kernel)) ggX4_setPrice_X4_checkNotClosed
theorem dX4_setPrice_0 : decode cX4_setPrice 0 = .ok (.iload_n 1, 1) := by decide +kernel
theorem dX4_setPrice_1 : decode cX4_setPrice 1 = .ok (.iconst 0, 1) := by decide +kernel
theorem dX4_setPrice_2 : decode cX4_setPrice 2 = .ok (.ldc 44, 2) := by decide +kernel
theorem dX4_setPrice_4 : decode cX4_setPrice 4 = .ok (.invokestatic 45, 3) := by decide +kernel
theorem dX4_setPrice_7 : decode cX4_setPrice 7 = .ok (.iload_n 2, 1) := by decide +kernel
theorem dX4_setPrice_8 : decode cX4_setPrice 8 = .ok (.ldc 49, 2) := by decide +kernel
theorem dX4_setPrice_10 : decode cX4_setPrice 10 = .ok (.ldc 44, 2) := by decide +kernel
theorem dX4_setPrice_12 : decode cX4_setPrice 12 = .ok (.invokestatic 45, 3) := by decide +kernel
theorem dX4_setPrice_15 : decode cX4_setPrice 15 = .ok (.iload_n 3, 1) := by decide +kernel
theorem dX4_setPrice_16 : decode cX4_setPrice 16 = .ok (.iconst 0, 1) := by decide +kernel
theorem dX4_setPrice_17 : decode cX4_setPrice 17 = .ok (.ldc 44, 2) := by decide +kernel
theorem dX4_setPrice_19 : decode cX4_setPrice 19 = .ok (.invokestatic 45, 3) := by decide +kernel
theorem dX4_setPrice_22 : decode cX4_setPrice 22 = .ok (.aload_n 0, 1) := by decide +kernel
theorem dX4_setPrice_23 : decode cX4_setPrice 23 = .ok (.invokevirtual 50, 3) := by decide +kernel
theorem dX4_setPrice_26 : decode cX4_setPrice 26 = .ok (.aload_n 0, 1) := by decide +kernel
theorem dX4_setPrice_27 : decode cX4_setPrice 27 = .ok (.iload_n 1, 1) := by decide +kernel
theorem dX4_setPrice_28 : decode cX4_setPrice 28 = .ok (.putfield 53, 3) := by decide +kernel
theorem dX4_setPrice_31 : decode cX4_setPrice 31 = .ok (.aload_n 0, 1) := by decide +kernel
theorem dX4_setPrice_32 : decode cX4_setPrice 32 = .ok (.iload_n 2, 1) := by decide +kernel
theorem dX4_setPrice_33 : decode cX4_setPrice 33 = .ok (.putfield 56, 3) := by decide +kernel
theorem dX4_setPrice_36 : decode cX4_setPrice 36 = .ok (.aload_n 0, 1) := by decide +kernel
theorem dX4_setPrice_37 : decode cX4_setPrice 37 = .ok (.iload_n 3, 1) := by decide +kernel
theorem dX4_setPrice_38 : decode cX4_setPrice 38 = .ok (.putfield 59, 3) := by decide +kernel
theorem dX4_setPrice_41 : decode cX4_setPrice 41 = .ok (.return_, 1) := by decide +kernel
set_option maxRecDepth 20000 in
theorem ggX4_setPart_X4_checkNumber : GoodIn wsX4_setPart wsX4_checkNumber := goodIn_ca (goodIn_r _ [8, 9, 10] (by decide +kernel) (by decide +kernel)) (goodIn_sub (fun _ h => List.mem_cons_of_mem _ (List.mem_append_left _ (List.mem_append_left _ (List.mem_append_right _ h)))) (by decide +kernel))
set_option maxRecDepth 20000 in
theorem gX4_setPart_X4_checkNumber : GoodIn wsX4_setPart (va_wsS RX4 62 yX4_checkNumber wsX4_checkNumber) := goodIn_app (goodIn_of _ (by decide +kernel)) ggX4_setPart_X4_checkNumber
set_option maxRecDepth 20000 in
theorem ggX4_setPart_X4_checkRange : GoodIn wsX4_setPart wsX4_checkRange := goodIn_ca (goodIn_r _ [13, 14, 15] (by decide +kernel) (by decide +kernel)) (goodIn_sub (fun _ h => List.mem_cons_of_mem _ (List.mem_append_left _ (List.mem_append_right _ h))) (by decide +kernel))
set_option maxRecDepth 20000 in
theorem gX4_setPart_X4_checkRange : GoodIn wsX4_setPart (va_wsS RX4 45 yX4_checkRange wsX4_checkRange) := goodIn_app (goodIn_of _ (by decide +kernel)) ggX4_setPart_X4_checkRange
set_option maxRecDepth 20000 in
theorem ggX4_setPart_X4_checkNotClosed : GoodIn wsX4_setPart wsX4_checkNotClosed := goodIn_ca (goodIn_r _ [19, 20, 21, 22, 23, 24, 25, 26, 27, 28, 29, 30, 31, 32, 33, 34, 35, 36] (by decide +kernel) (by decide +kernel)) (goodIn_sub (fun _ h => List.mem_cons_of_mem _ (List.mem_append_right _ h)) (by decide +kernel))
set_option maxRecDepth 20000 in
theorem gX4_setPart_X4_checkNotClosed : GoodIn wsX4_setPart (wsV RX4 50 RX4 yX4_checkNotClosed wsX4_checkNotClosed) := goodIn_app (goodIn_of _ (by decide +kernel)) ggX4_setPart_X4_checkNotClosed
theorem dX4_setPart_0 : decode cX4_setPart 0 = .ok (.iload_n 1, 1) := by decide +kernel
theorem dX4_setPart_1 : decode cX4_setPart 1 = .ok (.iconst 4, 1) := by decide +kernel
theorem dX4_setPart_2 : decode cX4_setPart 2 = .ok (.invokestatic 62, 3) := by decide +kernel
theorem dX4_setPart_5 : decode cX4_setPart 5 = .ok (.iload_n 2, 1) := by decide +kernel
theorem dX4_setPart_6 : decode cX4_setPart 6 = .ok (.iconst 0, 1) := by decide +kernel
theorem dX4_setPart_7 : decode cX4_setPart 7 = .ok (.ldc 44, 2) := by decide +kernel
theorem dX4_setPart_9 : decode cX4_setPart 9 = .ok (.invokestatic 45, 3) := by decide +kernel
theorem dX4_setPart_12 : decode cX4_setPart 12 = .ok (.iload_n 3, 1) := by decide +kernel
theorem dX4_setPart_13 : decode cX4_setPart 13 = .ok (.iconst 1, 1) := by decide +kernel
theorem dX4_setPart_14 : decode cX4_setPart 14 = .ok (.sipush 2000, 3) := by decide +kernel
theorem dX4_setPart_17 : decode cX4_setPart 17 = .ok (.invokestatic 45, 3) := by decide +kernel
theorem dX4_setPart_20 : decode cX4_setPart 20 = .ok (.aload_n 0, 1) := by decide +kernel
theorem dX4_setPart_21 : decode cX4_setPart 21 = .ok (.invokevirtual 50, 3) := by decide +kernel
theorem dX4_setPart_24 : decode cX4_setPart 24 = .ok (.aload_n 0, 1) := by decide +kernel
theorem dX4_setPart_25 : decode cX4_setPart 25 = .ok (.getfield 10, 3) := by decide +kernel
theorem dX4_setPart_28 : decode cX4_setPart 28 = .ok (.getfield 66, 3) := by decide +kernel
theorem dX4_setPart_31 : decode cX4_setPart 31 = .ok (.iload_n 1, 1) := by decide +kernel
theorem dX4_setPart_32 : decode cX4_setPart 32 = .ok (.iload_n 2, 1) := by decide +kernel
theorem dX4_setPart_33 : decode cX4_setPart 33 = .ok (.iastore, 1) := by decide +kernel
theorem dX4_setPart_34 : decode cX4_setPart 34 = .ok (.aload_n 0, 1) := by decide +kernel
theorem dX4_setPart_35 : decode cX4_setPart 35 = .ok (.getfield 10, 3) := by decide +kernel
theorem dX4_setPart_38 : decode cX4_setPart 38 = .ok (.getfield 70, 3) := by decide +kernel
theorem dX4_setPart_41 : decode cX4_setPart 41 = .ok (.iload_n 1, 1) := by decide +kernel
theorem dX4_setPart_42 : decode cX4_setPart 42 = .ok (.iload_n 3, 1) := by decide +kernel
theorem dX4_setPart_43 : decode cX4_setPart 43 = .ok (.iastore, 1) := by decide +kernel
theorem dX4_setPart_44 : decode cX4_setPart 44 = .ok (.return_, 1) := by decide +kernel
set_option maxRecDepth 20000 in
theorem ggX4_setKind_X4_checkNumber : GoodIn wsX4_setKind wsX4_checkNumber := goodIn_ca (goodIn_r _ [12, 13, 14] (by decide +kernel) (by decide +kernel)) (goodIn_sub (fun _ h => List.mem_cons_of_mem _ (List.mem_append_left _ (List.mem_append_left _ (List.mem_append_right _ h)))) (by decide +kernel))
set_option maxRecDepth 20000 in
theorem gX4_setKind_X4_checkNumber : GoodIn wsX4_setKind (va_wsS RX4 62 yX4_checkNumber wsX4_checkNumber) := goodIn_app (goodIn_of _ (by decide +kernel)) ggX4_setKind_X4_checkNumber
set_option maxRecDepth 20000 in
theorem ggX4_setKind_X4_checkRange : GoodIn wsX4_setKind wsX4_checkRange := goodIn_ca (goodIn_r _ [17, 18, 19] (by decide +kernel) (by decide +kernel)) (goodIn_sub (fun _ h => List.mem_cons_of_mem _ (List.mem_append_left _ (List.mem_append_right _ h))) (by decide +kernel))
set_option maxRecDepth 20000 in
theorem gX4_setKind_X4_checkRange : GoodIn wsX4_setKind (va_wsS RX4 45 yX4_checkRange wsX4_checkRange) := goodIn_app (goodIn_of _ (by decide +kernel)) ggX4_setKind_X4_checkRange
set_option maxRecDepth 20000 in
theorem ggX4_setKind_X4_checkNotClosed : GoodIn wsX4_setKind wsX4_checkNotClosed := goodIn_ca (goodIn_r _ [23, 24, 25, 26, 27, 28, 29, 30, 31, 32, 33, 34, 35, 36, 37, 38, 39, 40] (by decide +kernel) (by decide +kernel)) (goodIn_sub (fun _ h => List.mem_cons_of_mem _ (List.mem_append_right _ h)) (by decide +kernel))
set_option maxRecDepth 20000 in
theorem gX4_setKind_X4_checkNotClosed : GoodIn wsX4_setKind (wsV RX4 50 RX4 yX4_checkNotClosed wsX4_checkNotClosed) := goodIn_app (goodIn_of _ (by decide +kernel)) ggX4_setKind_X4_checkNotClosed
theorem dX4_setKind_0 : decode cX4_setKind 0 = .ok (.iload_n 1, 1) := by decide +kernel
theorem dX4_setKind_1 : decode cX4_setKind 1 = .ok (.iconst 3, 1) := by decide +kernel
theorem dX4_setKind_2 : decode cX4_setKind 2 = .ok (.invokestatic 62, 3) := by decide +kernel
theorem dX4_setKind_5 : decode cX4_setKind 5 = .ok (.iload_n 2, 1) := by decide +kernel
theorem dX4_setKind_6 : decode cX4_setKind 6 = .ok (.iconst 0, 1) := by decide +kernel
theorem dX4_setKind_7 : decode cX4_setKind 7 = .ok (.ldc 44, 2) := by decide +kernel
theorem dX4_setKind_9 : decode cX4_setKind 9 = .ok (.invokestatic 45, 3) := by decide +kernel
theorem dX4_setKind_12 : decode cX4_setKind 12 = .ok (.iload_n 3, 1) := by decide +kernel
theorem dX4_setKind_13 : decode cX4_setKind 13 = .ok (.iconst 0, 1) := by decide +kernel
theorem dX4_setKind_14 : decode cX4_setKind 14 = .ok (.ldc 44, 2) := by decide +kernel
theorem dX4_setKind_16 : decode cX4_setKind 16 = .ok (.invokestatic 45, 3) := by decide +kernel
theorem dX4_setKind_19 : decode cX4_setKind 19 = .ok (.iload 5, 2) := by decide +kernel
theorem dX4_setKind_21 : decode cX4_setKind 21 = .ok (.iconst 0, 1) := by decide +kernel
theorem dX4_setKind_22 : decode cX4_setKind 22 = .ok (.ldc 73, 2) := by decide +kernel
theorem dX4_setKind_24 : decode cX4_setKind 24 = .ok (.invokestatic 45, 3) := by decide +kernel
theorem dX4_setKind_27 : decode cX4_setKind 27 = .ok (.iload 6, 2) := by decide +kernel
theorem dX4_setKind_29 : decode cX4_setKind 29 = .ok (.iconst 0, 1) := by decide +kernel
theorem dX4_setKind_30 : decode cX4_setKind 30 = .ok (.sipush 2000, 3) := by decide +kernel
theorem dX4_setKind_33 : decode cX4_setKind 33 = .ok (.invokestatic 45, 3) := by decide +kernel
theorem dX4_setKind_36 : decode cX4_setKind 36 = .ok (.aload_n 0, 1) := by decide +kernel
theorem dX4_setKind_37 : decode cX4_setKind 37 = .ok (.invokevirtual 50, 3) := by decide +kernel
theorem dX4_setKind_40 : decode cX4_setKind 40 = .ok (.aload_n 0, 1) := by decide +kernel
theorem dX4_setKind_41 : decode cX4_setKind 41 = .ok (.getfield 19, 3) := by decide +kernel
theorem dX4_setKind_44 : decode cX4_setKind 44 = .ok (.getfield 74, 3) := by decide +kernel
theorem dX4_setKind_47 : decode cX4_setKind 47 = .ok (.iload_n 1, 1) := by decide +kernel
theorem dX4_setKind_48 : decode cX4_setKind 48 = .ok (.iload_n 2, 1) := by decide +kernel
theorem dX4_setKind_49 : decode cX4_setKind 49 = .ok (.iastore, 1) := by decide +kernel
theorem dX4_setKind_50 : decode cX4_setKind 50 = .ok (.aload_n 0, 1) := by decide +kernel
theorem dX4_setKind_51 : decode cX4_setKind 51 = .ok (.getfield 19, 3) := by decide +kernel
theorem dX4_setKind_54 : decode cX4_setKind 54 = .ok (.getfield 77, 3) := by decide +kernel
theorem dX4_setKind_57 : decode cX4_setKind 57 = .ok (.iload_n 1, 1) := by decide +kernel
theorem dX4_setKind_58 : decode cX4_setKind 58 = .ok (.iload_n 3, 1) := by decide +kernel
theorem dX4_setKind_59 : decode cX4_setKind 59 = .ok (.iastore, 1) := by decide +kernel
theorem dX4_setKind_60 : decode cX4_setKind 60 = .ok (.aload_n 0, 1) := by decide +kernel
theorem dX4_setKind_61 : decode cX4_setKind 61 = .ok (.getfield 19, 3) := by decide +kernel
theorem dX4_setKind_64 : decode cX4_setKind 64 = .ok (.getfield 80, 3) := by decide +kernel
theorem dX4_setKind_67 : decode cX4_setKind 67 = .ok (.iload_n 1, 1) := by decide +kernel
theorem dX4_setKind_68 : decode cX4_setKind 68 = .ok (.iload 4, 2) := by decide +kernel
theorem dX4_setKind_70 : decode cX4_setKind 70 = .ok (.bastore, 1) := by decide +kernel
theorem dX4_setKind_71 : decode cX4_setKind 71 = .ok (.aload_n 0, 1) := by decide +kernel
theorem dX4_setKind_72 : decode cX4_setKind 72 = .ok (.getfield 19, 3) := by decide +kernel
theorem dX4_setKind_75 : decode cX4_setKind 75 = .ok (.getfield 84, 3) := by decide +kernel
theorem dX4_setKind_78 : decode cX4_setKind 78 = .ok (.iload_n 1, 1) := by decide +kernel
theorem dX4_setKind_79 : decode cX4_setKind 79 = .ok (.iload 5, 2) := by decide +kernel
theorem dX4_setKind_81 : decode cX4_setKind 81 = .ok (.iastore, 1) := by decide +kernel
theorem dX4_setKind_82 : decode cX4_setKind 82 = .ok (.aload_n 0, 1) := by decide +kernel
theorem dX4_setKind_83 : decode cX4_setKind 83 = .ok (.getfield 19, 3) := by decide +kernel
theorem dX4_setKind_86 : decode cX4_setKind 86 = .ok (.getfield 87, 3) := by decide +kernel
theorem dX4_setKind_89 : decode cX4_setKind 89 = .ok (.iload_n 1, 1) := by decide +kernel
theorem dX4_setKind_90 : decode cX4_setKind 90 = .ok (.iload 6, 2) := by decide +kernel
theorem dX4_setKind_92 : decode cX4_setKind 92 = .ok (.iastore, 1) := by decide +kernel
theorem dX4_setKind_93 : decode cX4_setKind 93 = .ok (.return_, 1) := by decide +kernel
set_option maxRecDepth 20000 in
theorem ggX4_setYear_X4_checkNumber : GoodIn wsX4_setYear wsX4_checkNumber := goodIn_ca (goodIn_r _ [8, 9, 10] (by decide +kernel) (by decide +kernel)) (goodIn_sub (fun _ h => List.mem_cons_of_mem _ (List.mem_append_left _ (List.mem_append_left _ (List.mem_append_right _ h)))) (by decide +kernel))
set_option maxRecDepth 20000 in
theorem gX4_setYear_X4_checkNumber : GoodIn wsX4_setYear (va_wsS RX4 62 yX4_checkNumber wsX4_checkNumber) := goodIn_app (goodIn_of _ (by decide +kernel)) ggX4_setYear_X4_checkNumber
set_option maxRecDepth 20000 in
theorem ggX4_setYear_X4_checkRange : GoodIn wsX4_setYear wsX4_checkRange := goodIn_ca (goodIn_r _ [13, 14, 15] (by decide +kernel) (by decide +kernel)) (goodIn_sub (fun _ h => List.mem_cons_of_mem _ (List.mem_append_left _ (List.mem_append_right _ h))) (by decide +kernel))
set_option maxRecDepth 20000 in
theorem gX4_setYear_X4_checkRange : GoodIn wsX4_setYear (va_wsS RX4 45 yX4_checkRange wsX4_checkRange) := goodIn_app (goodIn_of _ (by decide +kernel)) ggX4_setYear_X4_checkRange
set_option maxRecDepth 20000 in
theorem ggX4_setYear_X4_checkNotClosed : GoodIn wsX4_setYear wsX4_checkNotClosed := goodIn_ca (goodIn_r _ [19, 20, 21, 22, 23, 24, 25, 26, 27, 28, 29, 30, 31, 32, 33, 34, 35, 36] (by decide +kernel) (by decide +kernel)) (goodIn_sub (fun _ h => List.mem_cons_of_mem _ (List.mem_append_right _ h)) (by decide +kernel))
set_option maxRecDepth 20000 in
theorem gX4_setYear_X4_checkNotClosed : GoodIn wsX4_setYear (wsV RX4 50 RX4 yX4_checkNotClosed wsX4_checkNotClosed) := goodIn_app (goodIn_of _ (by decide +kernel)) ggX4_setYear_X4_checkNotClosed
theorem dX4_setYear_0 : decode cX4_setYear 0 = .ok (.iload_n 1, 1) := by decide +kernel
theorem dX4_setYear_1 : decode cX4_setYear 1 = .ok (.iconst 4, 1) := by decide +kernel
theorem dX4_setYear_2 : decode cX4_setYear 2 = .ok (.invokestatic 62, 3) := by decide +kernel
theorem dX4_setYear_5 : decode cX4_setYear 5 = .ok (.iload_n 2, 1) := by decide +kernel
theorem dX4_setYear_6 : decode cX4_setYear 6 = .ok (.iconst 0, 1) := by decide +kernel
theorem dX4_setYear_7 : decode cX4_setYear 7 = .ok (.ldc 44, 2) := by decide +kernel
theorem dX4_setYear_9 : decode cX4_setYear 9 = .ok (.invokestatic 45, 3) := by decide +kernel
theorem dX4_setYear_12 : decode cX4_setYear 12 = .ok (.iload_n 3, 1) := by decide +kernel
theorem dX4_setYear_13 : decode cX4_setYear 13 = .ok (.iconst 0, 1) := by decide +kernel
theorem dX4_setYear_14 : decode cX4_setYear 14 = .ok (.ldc 44, 2) := by decide +kernel
theorem dX4_setYear_16 : decode cX4_setYear 16 = .ok (.invokestatic 45, 3) := by decide +kernel
theorem dX4_setYear_19 : decode cX4_setYear 19 = .ok (.aload_n 0, 1) := by decide +kernel
theorem dX4_setYear_20 : decode cX4_setYear 20 = .ok (.invokevirtual 50, 3) := by decide +kernel
theorem dX4_setYear_23 : decode cX4_setYear 23 = .ok (.aload_n 0, 1) := by decide +kernel
theorem dX4_setYear_24 : decode cX4_setYear 24 = .ok (.getfield 33, 3) := by decide +kernel
theorem dX4_setYear_27 : decode cX4_setYear 27 = .ok (.getfield 90, 3) := by decide +kernel
theorem dX4_setYear_30 : decode cX4_setYear 30 = .ok (.iload_n 1, 1) := by decide +kernel
theorem dX4_setYear_31 : decode cX4_setYear 31 = .ok (.iload_n 2, 1) := by decide +kernel
theorem dX4_setYear_32 : decode cX4_setYear 32 = .ok (.iastore, 1) := by decide +kernel
theorem dX4_setYear_33 : decode cX4_setYear 33 = .ok (.aload_n 0, 1) := by decide +kernel
theorem dX4_setYear_34 : decode cX4_setYear 34 = .ok (.getfield 33, 3) := by decide +kernel
theorem dX4_setYear_37 : decode cX4_setYear 37 = .ok (.getfield 93, 3) := by decide +kernel
theorem dX4_setYear_40 : decode cX4_setYear 40 = .ok (.iload_n 1, 1) := by decide +kernel
theorem dX4_setYear_41 : decode cX4_setYear 41 = .ok (.iload_n 3, 1) := by decide +kernel
theorem dX4_setYear_42 : decode cX4_setYear 42 = .ok (.iastore, 1) := by decide +kernel
theorem dX4_setYear_43 : decode cX4_setYear 43 = .ok (.return_, 1) := by decide +kernel
set_option maxRecDepth 20000 in
theorem ggX4_setCarry_X4_checkNotClosed : GoodIn wsX4_setCarry wsX4_checkNotClosed := goodIn_ca (goodIn_r _ [7, 8, 9, 10, 11, 12, 13, 14, 15, 16, 17, 18, 19, 20, 21, 22, 23, 24] (by decide +kernel) (by decide +kernel)) (goodIn_sub (fun _ h => List.mem_cons_of_mem _ (List.mem_append_right _ h)) (by decide +kernel))
set_option maxRecDepth 20000 in
theorem gX4_setCarry_X4_checkNotClosed : GoodIn wsX4_setCarry (wsV RX4 50 RX4 yX4_checkNotClosed wsX4_checkNotClosed) := goodIn_app (goodIn_of _ (by decide +kernel)) ggX4_setCarry_X4_checkNotClosed
theorem dX4_setCarry_0 : decode cX4_setCarry 0 = .ok (.aload_n 0, 1) := by decide +kernel
theorem dX4_setCarry_1 : decode cX4_setCarry 1 = .ok (.invokevirtual 50, 3) := by decide +kernel
theorem dX4_setCarry_4 : decode cX4_setCarry 4 = .ok (.aload_n 0, 1) := by decide +kernel
theorem dX4_setCarry_5 : decode cX4_setCarry 5 = .ok (.getfield 33, 3) := by decide +kernel
theorem dX4_setCarry_8 : decode cX4_setCarry 8 = .ok (.iload_n 1, 1) := by decide +kernel
theorem dX4_setCarry_9 : decode cX4_setCarry 9 = .ok (.putfield 94, 3) := by decide +kernel
theorem dX4_setCarry_12 : decode cX4_setCarry 12 = .ok (.return_, 1) := by decide +kernel
set_option maxRecDepth 20000 in
theorem ggX4_close_X4_checkRange : GoodIn wsX4_close wsX4_checkRange := goodIn_ca (goodIn_r _ [20, 21, 22] (by decide +kernel) (by decide +kernel)) (goodIn_sub (fun _ h => List.mem_cons_of_mem _ (List.mem_append_left _ (List.mem_append_right _ h))) (by decide +kernel))
set_option maxRecDepth 20000 in
theorem gX4_close_X4_checkRange : GoodIn wsX4_close (va_wsS RX4 45 yX4_checkRange wsX4_checkRange) := goodIn_app (goodIn_of _ (by decide +kernel)) ggX4_close_X4_checkRange
set_option maxRecDepth 20000 in
theorem ggX4_close_X4_checkNotClosed : GoodIn wsX4_close wsX4_checkNotClosed := goodIn_ca (goodIn_r _ [26, 27, 28, 3, 40, 41, 42, 43, 44, 45, 46, 47, 48, 49, 50, 51, 52, 53] (by decide +kernel) (by decide +kernel)) (goodIn_sub (fun _ h => List.mem_cons_of_mem _ (List.mem_append_right _ h)) (by decide +kernel))
set_option maxRecDepth 20000 in
theorem gX4_close_X4_checkNotClosed : GoodIn wsX4_close (wsV RX4 50 RX4 yX4_checkNotClosed wsX4_checkNotClosed) := goodIn_app (goodIn_of _ (by decide +kernel)) ggX4_close_X4_checkNotClosed
set_option maxRecDepth 20000 in
theorem ggX4_close_X4_beyondCollar : GoodIn wsX4_close wsX4_beyondCollar := goodIn_r _ [32, 33, 40, 41, 42, 43, 44, 45, 46, 47, 48, 49, 50, 51, 52, 53] (by decide +kernel) (by decide +kernel)
set_option maxRecDepth 20000 in
theorem gX4_close_X4_beyondCollar : GoodIn wsX4_close (wsV RX4 98 RX4 yX4_beyondCollar wsX4_beyondCollar) := goodIn_app (goodIn_of _ (by decide +kernel)) ggX4_close_X4_beyondCollar
set_option maxRecDepth 20000 in
theorem ggX4_close_X2_total : GoodIn wsX4_close wsX2_total := goodIn_r _ [38, 39, 54, 55] (by decide +kernel) (by decide +kernel)
set_option maxRecDepth 20000 in
theorem gX4_close_X2_total : GoodIn wsX4_close (wsV RX4 108 RX2 yX2_total wsX2_total) := goodIn_app (goodIn_of _ (by decide +kernel)) ggX4_close_X2_total
theorem dX4_close_0 : decode cX4_close 0 = .ok (.iload_n 1, 1) := by decide +kernel
theorem dX4_close_1 : decode cX4_close 1 = .ok (.iconst 0, 1) := by decide +kernel
theorem dX4_close_2 : decode cX4_close 2 = .ok (.ldc 44, 2) := by decide +kernel
theorem dX4_close_4 : decode cX4_close 4 = .ok (.invokestatic 45, 3) := by decide +kernel
theorem dX4_close_7 : decode cX4_close 7 = .ok (.iload_n 2, 1) := by decide +kernel
theorem dX4_close_8 : decode cX4_close 8 = .ok (.iconst 0, 1) := by decide +kernel
theorem dX4_close_9 : decode cX4_close 9 = .ok (.ldc 44, 2) := by decide +kernel
theorem dX4_close_11 : decode cX4_close 11 = .ok (.invokestatic 45, 3) := by decide +kernel
theorem dX4_close_14 : decode cX4_close 14 = .ok (.iload_n 3, 1) := by decide +kernel
theorem dX4_close_15 : decode cX4_close 15 = .ok (.ldc 49, 2) := by decide +kernel
theorem dX4_close_17 : decode cX4_close 17 = .ok (.ldc 44, 2) := by decide +kernel
theorem dX4_close_19 : decode cX4_close 19 = .ok (.invokestatic 45, 3) := by decide +kernel
theorem dX4_close_22 : decode cX4_close 22 = .ok (.aload_n 0, 1) := by decide +kernel
theorem dX4_close_23 : decode cX4_close 23 = .ok (.invokevirtual 50, 3) := by decide +kernel
theorem dX4_close_26 : decode cX4_close 26 = .ok (.aload_n 0, 1) := by decide +kernel
theorem dX4_close_27 : decode cX4_close 27 = .ok (.iconst 0, 1) := by decide +kernel
theorem dX4_close_28 : decode cX4_close 28 = .ok (.putfield 37, 3) := by decide +kernel
theorem dX4_close_31 : decode cX4_close 31 = .ok (.aload_n 0, 1) := by decide +kernel
theorem dX4_close_32 : decode cX4_close 32 = .ok (.iconst 0, 1) := by decide +kernel
theorem dX4_close_33 : decode cX4_close 33 = .ok (.aload_n 0, 1) := by decide +kernel
theorem dX4_close_34 : decode cX4_close 34 = .ok (.getfield 53, 3) := by decide +kernel
theorem dX4_close_37 : decode cX4_close 37 = .ok (.iload_n 1, 1) := by decide +kernel
theorem dX4_close_38 : decode cX4_close 38 = .ok (.iadd, 1) := by decide +kernel
theorem dX4_close_39 : decode cX4_close 39 = .ok (.iload_n 2, 1) := by decide +kernel
theorem dX4_close_40 : decode cX4_close 40 = .ok (.isub, 1) := by decide +kernel
theorem dX4_close_41 : decode cX4_close 41 = .ok (.aload_n 0, 1) := by decide +kernel
theorem dX4_close_42 : decode cX4_close 42 = .ok (.iload_n 3, 1) := by decide +kernel
theorem dX4_close_43 : decode cX4_close 43 = .ok (.aload_n 0, 1) := by decide +kernel
theorem dX4_close_44 : decode cX4_close 44 = .ok (.getfield 56, 3) := by decide +kernel
theorem dX4_close_47 : decode cX4_close 47 = .ok (.isub, 1) := by decide +kernel
theorem dX4_close_48 : decode cX4_close 48 = .ok (.invokevirtual 98, 3) := by decide +kernel
theorem dX4_close_51 : decode cX4_close 51 = .ok (.iadd, 1) := by decide +kernel
theorem dX4_close_52 : decode cX4_close 52 = .ok (.invokestatic 102, 3) := by decide +kernel
theorem dX4_close_55 : decode cX4_close 55 = .ok (.putfield 41, 3) := by decide +kernel
theorem dX4_close_58 : decode cX4_close 58 = .ok (.aload_n 0, 1) := by decide +kernel
theorem dX4_close_59 : decode cX4_close 59 = .ok (.aload_n 0, 1) := by decide +kernel
theorem dX4_close_60 : decode cX4_close 60 = .ok (.getfield 10, 3) := by decide +kernel
theorem dX4_close_63 : decode cX4_close 63 = .ok (.invokevirtual 108, 3) := by decide +kernel
theorem dX4_close_66 : decode cX4_close 66 = .ok (.aload_n 0, 1) := by decide +kernel
theorem dX4_close_67 : decode cX4_close 67 = .ok (.getfield 41, 3) := by decide +kernel
theorem dX4_close_70 : decode cX4_close 70 = .ok (.invokestatic 112, 3) := by decide +kernel
theorem dX4_close_73 : decode cX4_close 73 = .ok (.putfield 115, 3) := by decide +kernel
theorem dX4_close_76 : decode cX4_close 76 = .ok (.aload_n 0, 1) := by decide +kernel
theorem dX4_close_77 : decode cX4_close 77 = .ok (.aload_n 0, 1) := by decide +kernel
theorem dX4_close_78 : decode cX4_close 78 = .ok (.getfield 41, 3) := by decide +kernel
theorem dX4_close_81 : decode cX4_close 81 = .ok (.aload_n 0, 1) := by decide +kernel
theorem dX4_close_82 : decode cX4_close 82 = .ok (.getfield 115, 3) := by decide +kernel
theorem dX4_close_85 : decode cX4_close 85 = .ok (.isub, 1) := by decide +kernel
theorem dX4_close_86 : decode cX4_close 86 = .ok (.putfield 118, 3) := by decide +kernel
theorem dX4_close_89 : decode cX4_close 89 = .ok (.aload_n 0, 1) := by decide +kernel
theorem dX4_close_90 : decode cX4_close 90 = .ok (.getfield 41, 3) := by decide +kernel
theorem dX4_close_93 : decode cX4_close 93 = .ok (.ireturn, 1) := by decide +kernel
set_option maxRecDepth 20000 in
theorem ggX4_advance_X4_checkRange : GoodIn wsX4_advance wsX4_checkRange := goodIn_ca (goodIn_r _ [7, 8, 9] (by decide +kernel) (by decide +kernel)) (goodIn_sub (fun _ h => List.mem_cons_of_mem _ (List.mem_append_right _ h)) (by decide +kernel))
set_option maxRecDepth 20000 in
theorem gX4_advance_X4_checkRange : GoodIn wsX4_advance (va_wsS RX4 45 yX4_checkRange wsX4_checkRange) := goodIn_app (goodIn_of _ (by decide +kernel)) ggX4_advance_X4_checkRange
set_option maxRecDepth 20000 in
theorem ggX4_advance_X4_checkClosed : GoodIn wsX4_advance wsX4_checkClosed := goodIn_ca (goodIn_r _ [13, 1, 2, 3, 37, 38, 39, 40, 41, 42, 43, 44, 45, 46, 47, 48, 49, 50] (by decide +kernel) (by decide +kernel)) (goodIn_sub (fun _ h => List.mem_cons_of_mem _ (List.mem_append_left _ (List.mem_append_right _ h))) (by decide +kernel))
set_option maxRecDepth 20000 in
theorem gX4_advance_X4_checkClosed : GoodIn wsX4_advance (wsV RX4 121 RX4 yX4_checkClosed wsX4_checkClosed) := goodIn_app (goodIn_of _ (by decide +kernel)) ggX4_advance_X4_checkClosed
set_option maxRecDepth 20000 in
theorem ggX4_advance_X4_free : GoodIn wsX4_advance wsX4_free := goodIn_r _ [17, 18, 3, 19, 20, 21, 22, 23, 24, 25, 26, 27, 28, 29, 30, 31, 32, 33, 34, 35, 36, 37, 38, 39, 40, 41, 42, 43, 44, 45, 46, 47, 48, 49, 50, 51, 52, 53, 54, 55, 56, 57] (by decide +kernel) (by decide +kernel)
set_option maxRecDepth 20000 in
theorem gX4_advance_X4_free : GoodIn wsX4_advance (wsV RX4 131 RX4 yX4_free wsX4_free) := goodIn_app (goodIn_of _ (by decide +kernel)) ggX4_advance_X4_free
theorem dX4_advance_0 : decode cX4_advance 0 = .ok (.iload_n 1, 1) := by decide +kernel
theorem dX4_advance_1 : decode cX4_advance 1 = .ok (.iconst 1, 1) := by decide +kernel
theorem dX4_advance_2 : decode cX4_advance 2 = .ok (.sipush 400, 3) := by decide +kernel
theorem dX4_advance_5 : decode cX4_advance 5 = .ok (.invokestatic 45, 3) := by decide +kernel
theorem dX4_advance_8 : decode cX4_advance 8 = .ok (.aload_n 0, 1) := by decide +kernel
theorem dX4_advance_9 : decode cX4_advance 9 = .ok (.invokevirtual 121, 3) := by decide +kernel
theorem dX4_advance_12 : decode cX4_advance 12 = .ok (.aload_n 0, 1) := by decide +kernel
theorem dX4_advance_13 : decode cX4_advance 13 = .ok (.getfield 37, 3) := by decide +kernel
theorem dX4_advance_16 : decode cX4_advance 16 = .ok (.iload_n 1, 1) := by decide +kernel
theorem dX4_advance_17 : decode cX4_advance 17 = .ok (.iadd, 1) := by decide +kernel
theorem dX4_advance_18 : decode cX4_advance 18 = .ok (.sipush 4000, 3) := by decide +kernel
theorem dX4_advance_21 : decode cX4_advance 21 = .ok (.if_icmp .le 13, 3) := by decide +kernel
theorem dX4_advance_24 : decode cX4_advance 24 = .ok (.new 124, 3) := by decide +kernel
theorem dX4_advance_27 : decode cX4_advance 27 = .ok (.dup, 1) := by decide +kernel
theorem dX4_advance_28 : decode cX4_advance 28 = .ok (.ldc 126, 2) := by decide +kernel
theorem dX4_advance_30 : decode cX4_advance 30 = .ok (.invokespecial 128, 3) := by decide +kernel
theorem dX4_advance_33 : decode cX4_advance 33 = .ok (.athrow, 1) := by decide +kernel
theorem dX4_advance_34 : decode cX4_advance 34 = .ok (.aload_n 0, 1) := by decide +kernel
theorem dX4_advance_35 : decode cX4_advance 35 = .ok (.dup, 1) := by decide +kernel
theorem dX4_advance_36 : decode cX4_advance 36 = .ok (.getfield 37, 3) := by decide +kernel
theorem dX4_advance_39 : decode cX4_advance 39 = .ok (.iload_n 1, 1) := by decide +kernel
theorem dX4_advance_40 : decode cX4_advance 40 = .ok (.iadd, 1) := by decide +kernel
theorem dX4_advance_41 : decode cX4_advance 41 = .ok (.putfield 37, 3) := by decide +kernel
theorem dX4_advance_44 : decode cX4_advance 44 = .ok (.aload_n 0, 1) := by decide +kernel
theorem dX4_advance_45 : decode cX4_advance 45 = .ok (.invokevirtual 131, 3) := by decide +kernel
theorem dX4_advance_48 : decode cX4_advance 48 = .ok (.aload_n 0, 1) := by decide +kernel
theorem dX4_advance_49 : decode cX4_advance 49 = .ok (.getfield 37, 3) := by decide +kernel
theorem dX4_advance_52 : decode cX4_advance 52 = .ok (.ireturn, 1) := by decide +kernel
set_option maxRecDepth 20000 in
theorem ggX4_claim_X4_checkNumber : GoodIn wsX4_claim wsX4_checkNumber := goodIn_ca (goodIn_r _ [16, 17, 18] (by decide +kernel) (by decide +kernel)) (goodIn_sub (fun _ h => List.mem_cons_of_mem _ (List.mem_append_left _ (List.mem_append_right _ h))) (by decide +kernel))
set_option maxRecDepth 20000 in
theorem gX4_claim_X4_checkNumber : GoodIn wsX4_claim (va_wsS RX4 62 yX4_checkNumber wsX4_checkNumber) := goodIn_app (goodIn_of _ (by decide +kernel)) ggX4_claim_X4_checkNumber
set_option maxRecDepth 20000 in
theorem ggX4_claim_X4_checkRange : GoodIn wsX4_claim wsX4_checkRange := goodIn_ca (goodIn_r _ [21, 22, 23] (by decide +kernel) (by decide +kernel)) (goodIn_sub (fun _ h => List.mem_cons_of_mem _ (List.mem_append_right _ h)) (by decide +kernel))
set_option maxRecDepth 20000 in
theorem gX4_claim_X4_checkRange : GoodIn wsX4_claim (va_wsS RX4 45 yX4_checkRange wsX4_checkRange) := goodIn_app (goodIn_of _ (by decide +kernel)) ggX4_claim_X4_checkRange
set_option maxRecDepth 20000 in
theorem ggX4_claim_X4_checkClosed : GoodIn wsX4_claim wsX4_checkClosed := goodIn_ca (goodIn_r _ [27, 1, 2, 4, 28, 29, 30, 31, 32, 33, 34, 35, 36, 37, 38, 39, 40, 41] (by decide +kernel) (by decide +kernel)) (goodIn_sub (fun _ h => List.mem_cons_of_mem _ (List.mem_append_left _ (List.mem_append_left _ (List.mem_append_right _ h)))) (by decide +kernel))
set_option maxRecDepth 20000 in
theorem gX4_claim_X4_checkClosed : GoodIn wsX4_claim (wsV RX4 121 RX4 yX4_checkClosed wsX4_checkClosed) := goodIn_app (goodIn_of _ (by decide +kernel)) ggX4_claim_X4_checkClosed
theorem dX4_claim_0 : decode cX4_claim 0 = .ok (.iload_n 1, 1) := by decide +kernel
theorem dX4_claim_1 : decode cX4_claim 1 = .ok (.iconst 3, 1) := by decide +kernel
theorem dX4_claim_2 : decode cX4_claim 2 = .ok (.invokestatic 62, 3) := by decide +kernel
theorem dX4_claim_5 : decode cX4_claim 5 = .ok (.iload_n 2, 1) := by decide +kernel
theorem dX4_claim_6 : decode cX4_claim 6 = .ok (.iconst 1, 1) := by decide +kernel
theorem dX4_claim_7 : decode cX4_claim 7 = .ok (.ldc 44, 2) := by decide +kernel
theorem dX4_claim_9 : decode cX4_claim 9 = .ok (.invokestatic 45, 3) := by decide +kernel
theorem dX4_claim_12 : decode cX4_claim 12 = .ok (.aload_n 0, 1) := by decide +kernel
theorem dX4_claim_13 : decode cX4_claim 13 = .ok (.invokevirtual 121, 3) := by decide +kernel
theorem dX4_claim_16 : decode cX4_claim 16 = .ok (.aload_n 0, 1) := by decide +kernel
theorem dX4_claim_17 : decode cX4_claim 17 = .ok (.getfield 37, 3) := by decide +kernel
theorem dX4_claim_20 : decode cX4_claim 20 = .ok (.aload_n 0, 1) := by decide +kernel
theorem dX4_claim_21 : decode cX4_claim 21 = .ok (.getfield 19, 3) := by decide +kernel
theorem dX4_claim_24 : decode cX4_claim 24 = .ok (.getfield 87, 3) := by decide +kernel
theorem dX4_claim_27 : decode cX4_claim 27 = .ok (.iload_n 1, 1) := by decide +kernel
theorem dX4_claim_28 : decode cX4_claim 28 = .ok (.iaload, 1) := by decide +kernel
theorem dX4_claim_29 : decode cX4_claim 29 = .ok (.if_icmp .le 13, 3) := by decide +kernel
theorem dX4_claim_32 : decode cX4_claim 32 = .ok (.new 124, 3) := by decide +kernel
theorem dX4_claim_35 : decode cX4_claim 35 = .ok (.dup, 1) := by decide +kernel
theorem dX4_claim_36 : decode cX4_claim 36 = .ok (.ldc 134, 2) := by decide +kernel
theorem dX4_claim_38 : decode cX4_claim 38 = .ok (.invokespecial 128, 3) := by decide +kernel
theorem dX4_claim_41 : decode cX4_claim 41 = .ok (.athrow, 1) := by decide +kernel
theorem dX4_claim_42 : decode cX4_claim 42 = .ok (.aload_n 0, 1) := by decide +kernel
theorem dX4_claim_43 : decode cX4_claim 43 = .ok (.getfield 26, 3) := by decide +kernel
theorem dX4_claim_46 : decode cX4_claim 46 = .ok (.getfield 136, 3) := by decide +kernel
theorem dX4_claim_49 : decode cX4_claim 49 = .ok (.istore_n 3, 1) := by decide +kernel
theorem dX4_claim_50 : decode cX4_claim 50 = .ok (.iload_n 3, 1) := by decide +kernel
theorem dX4_claim_51 : decode cX4_claim 51 = .ok (.bipush 20, 2) := by decide +kernel
theorem dX4_claim_53 : decode cX4_claim 53 = .ok (.if_icmp .lt 13, 3) := by decide +kernel
theorem dX4_claim_56 : decode cX4_claim 56 = .ok (.new 124, 3) := by decide +kernel
theorem dX4_claim_59 : decode cX4_claim 59 = .ok (.dup, 1) := by decide +kernel
theorem dX4_claim_60 : decode cX4_claim 60 = .ok (.ldc 139, 2) := by decide +kernel
theorem dX4_claim_62 : decode cX4_claim 62 = .ok (.invokespecial 128, 3) := by decide +kernel
theorem dX4_claim_65 : decode cX4_claim 65 = .ok (.athrow, 1) := by decide +kernel
theorem dX4_claim_66 : decode cX4_claim 66 = .ok (.aload_n 0, 1) := by decide +kernel
theorem dX4_claim_67 : decode cX4_claim 67 = .ok (.getfield 26, 3) := by decide +kernel
theorem dX4_claim_70 : decode cX4_claim 70 = .ok (.getfield 141, 3) := by decide +kernel
theorem dX4_claim_73 : decode cX4_claim 73 = .ok (.iload_n 3, 1) := by decide +kernel
theorem dX4_claim_74 : decode cX4_claim 74 = .ok (.iload_n 1, 1) := by decide +kernel
theorem dX4_claim_75 : decode cX4_claim 75 = .ok (.iastore, 1) := by decide +kernel
theorem dX4_claim_76 : decode cX4_claim 76 = .ok (.aload_n 0, 1) := by decide +kernel
theorem dX4_claim_77 : decode cX4_claim 77 = .ok (.getfield 26, 3) := by decide +kernel
theorem dX4_claim_80 : decode cX4_claim 80 = .ok (.getfield 143, 3) := by decide +kernel
theorem dX4_claim_83 : decode cX4_claim 83 = .ok (.iload_n 3, 1) := by decide +kernel
theorem dX4_claim_84 : decode cX4_claim 84 = .ok (.iload_n 2, 1) := by decide +kernel
theorem dX4_claim_85 : decode cX4_claim 85 = .ok (.iastore, 1) := by decide +kernel
theorem dX4_claim_86 : decode cX4_claim 86 = .ok (.aload_n 0, 1) := by decide +kernel
theorem dX4_claim_87 : decode cX4_claim 87 = .ok (.getfield 26, 3) := by decide +kernel
theorem dX4_claim_90 : decode cX4_claim 90 = .ok (.getfield 144, 3) := by decide +kernel
theorem dX4_claim_93 : decode cX4_claim 93 = .ok (.iload_n 3, 1) := by decide +kernel
theorem dX4_claim_94 : decode cX4_claim 94 = .ok (.iconst (-1), 1) := by decide +kernel
theorem dX4_claim_95 : decode cX4_claim 95 = .ok (.iastore, 1) := by decide +kernel
theorem dX4_claim_96 : decode cX4_claim 96 = .ok (.aload_n 0, 1) := by decide +kernel
theorem dX4_claim_97 : decode cX4_claim 97 = .ok (.getfield 26, 3) := by decide +kernel
theorem dX4_claim_100 : decode cX4_claim 100 = .ok (.getfield 147, 3) := by decide +kernel
theorem dX4_claim_103 : decode cX4_claim 103 = .ok (.iload_n 3, 1) := by decide +kernel
theorem dX4_claim_104 : decode cX4_claim 104 = .ok (.iconst (-1), 1) := by decide +kernel
theorem dX4_claim_105 : decode cX4_claim 105 = .ok (.iastore, 1) := by decide +kernel
theorem dX4_claim_106 : decode cX4_claim 106 = .ok (.aload_n 0, 1) := by decide +kernel
theorem dX4_claim_107 : decode cX4_claim 107 = .ok (.getfield 26, 3) := by decide +kernel
theorem dX4_claim_110 : decode cX4_claim 110 = .ok (.iload_n 3, 1) := by decide +kernel
theorem dX4_claim_111 : decode cX4_claim 111 = .ok (.iconst 1, 1) := by decide +kernel
theorem dX4_claim_112 : decode cX4_claim 112 = .ok (.iadd, 1) := by decide +kernel
theorem dX4_claim_113 : decode cX4_claim 113 = .ok (.putfield 136, 3) := by decide +kernel
theorem dX4_claim_116 : decode cX4_claim 116 = .ok (.iload_n 3, 1) := by decide +kernel
theorem dX4_claim_117 : decode cX4_claim 117 = .ok (.ireturn, 1) := by decide +kernel
set_option maxRecDepth 20000 in
theorem ggX4_offer_X4_checkNumber : GoodIn wsX4_offer wsX4_checkNumber := goodIn_ca (goodIn_r _ [9, 10, 11] (by decide +kernel) (by decide +kernel)) (goodIn_sub (fun _ h => List.mem_cons_of_mem _ (List.mem_append_left _ (List.mem_append_left _ (List.mem_append_right _ h)))) (by decide +kernel))
set_option maxRecDepth 20000 in
theorem gX4_offer_X4_checkNumber : GoodIn wsX4_offer (va_wsS RX4 62 yX4_checkNumber wsX4_checkNumber) := goodIn_app (goodIn_of _ (by decide +kernel)) ggX4_offer_X4_checkNumber
set_option maxRecDepth 20000 in
theorem ggX4_offer_X4_checkOpen : GoodIn wsX4_offer wsX4_checkOpen := goodIn_ca (goodIn_r _ [14, 15, 16] (by decide +kernel) (by decide +kernel)) (goodIn_sub (fun _ h => List.mem_cons_of_mem _ (List.mem_append_left _ (List.mem_append_right _ h))) (by decide +kernel))
set_option maxRecDepth 20000 in
theorem gX4_offer_X4_checkOpen : GoodIn wsX4_offer (va_wsS RX4 150 yX4_checkOpen wsX4_checkOpen) := goodIn_app (goodIn_of _ (by decide +kernel)) ggX4_offer_X4_checkOpen
set_option maxRecDepth 20000 in
theorem ggX4_offer_X4_checkRange : GoodIn wsX4_offer wsX4_checkRange := goodIn_ca (goodIn_r _ [19, 20, 21] (by decide +kernel) (by decide +kernel)) (goodIn_sub (fun _ h => List.mem_cons_of_mem _ (List.mem_append_right _ h)) (by decide +kernel))
set_option maxRecDepth 20000 in
theorem gX4_offer_X4_checkRange : GoodIn wsX4_offer (va_wsS RX4 45 yX4_checkRange wsX4_checkRange) := goodIn_app (goodIn_of _ (by decide +kernel)) ggX4_offer_X4_checkRange
theorem dX4_offer_0 : decode cX4_offer 0 = .ok (.iload_n 1, 1) := by decide +kernel
theorem dX4_offer_1 : decode cX4_offer 1 = .ok (.aload_n 0, 1) := by decide +kernel
theorem dX4_offer_2 : decode cX4_offer 2 = .ok (.getfield 26, 3) := by decide +kernel
theorem dX4_offer_5 : decode cX4_offer 5 = .ok (.getfield 136, 3) := by decide +kernel
theorem dX4_offer_8 : decode cX4_offer 8 = .ok (.invokestatic 62, 3) := by decide +kernel
theorem dX4_offer_11 : decode cX4_offer 11 = .ok (.aload_n 0, 1) := by decide +kernel
theorem dX4_offer_12 : decode cX4_offer 12 = .ok (.getfield 26, 3) := by decide +kernel
theorem dX4_offer_15 : decode cX4_offer 15 = .ok (.getfield 147, 3) := by decide +kernel
theorem dX4_offer_18 : decode cX4_offer 18 = .ok (.iload_n 1, 1) := by decide +kernel
theorem dX4_offer_19 : decode cX4_offer 19 = .ok (.iaload, 1) := by decide +kernel
theorem dX4_offer_20 : decode cX4_offer 20 = .ok (.invokestatic 150, 3) := by decide +kernel
theorem dX4_offer_23 : decode cX4_offer 23 = .ok (.iload_n 2, 1) := by decide +kernel
theorem dX4_offer_24 : decode cX4_offer 24 = .ok (.iconst 0, 1) := by decide +kernel
theorem dX4_offer_25 : decode cX4_offer 25 = .ok (.aload_n 0, 1) := by decide +kernel
theorem dX4_offer_26 : decode cX4_offer 26 = .ok (.getfield 26, 3) := by decide +kernel
theorem dX4_offer_29 : decode cX4_offer 29 = .ok (.getfield 143, 3) := by decide +kernel
theorem dX4_offer_32 : decode cX4_offer 32 = .ok (.iload_n 1, 1) := by decide +kernel
theorem dX4_offer_33 : decode cX4_offer 33 = .ok (.iaload, 1) := by decide +kernel
theorem dX4_offer_34 : decode cX4_offer 34 = .ok (.invokestatic 45, 3) := by decide +kernel
theorem dX4_offer_37 : decode cX4_offer 37 = .ok (.aload_n 0, 1) := by decide +kernel
theorem dX4_offer_38 : decode cX4_offer 38 = .ok (.getfield 26, 3) := by decide +kernel
theorem dX4_offer_41 : decode cX4_offer 41 = .ok (.getfield 144, 3) := by decide +kernel
theorem dX4_offer_44 : decode cX4_offer 44 = .ok (.iload_n 1, 1) := by decide +kernel
theorem dX4_offer_45 : decode cX4_offer 45 = .ok (.iaload, 1) := by decide +kernel
theorem dX4_offer_46 : decode cX4_offer 46 = .ok (.istore_n 3, 1) := by decide +kernel
theorem dX4_offer_47 : decode cX4_offer 47 = .ok (.aload_n 0, 1) := by decide +kernel
theorem dX4_offer_48 : decode cX4_offer 48 = .ok (.getfield 26, 3) := by decide +kernel
theorem dX4_offer_51 : decode cX4_offer 51 = .ok (.getfield 144, 3) := by decide +kernel
theorem dX4_offer_54 : decode cX4_offer 54 = .ok (.iload_n 1, 1) := by decide +kernel
theorem dX4_offer_55 : decode cX4_offer 55 = .ok (.iload_n 2, 1) := by decide +kernel
theorem dX4_offer_56 : decode cX4_offer 56 = .ok (.iastore, 1) := by decide +kernel
theorem dX4_offer_57 : decode cX4_offer 57 = .ok (.iload_n 3, 1) := by decide +kernel
theorem dX4_offer_58 : decode cX4_offer 58 = .ok (.ireturn, 1) := by decide +kernel
set_option maxRecDepth 20000 in
theorem ggX4_agree_X4_checkNumber : GoodIn wsX4_agree wsX4_checkNumber := goodIn_ca (goodIn_r _ [10, 11, 12] (by decide +kernel) (by decide +kernel)) (goodIn_sub (fun _ h => List.mem_cons_of_mem _ (List.mem_append_right _ h)) (by decide +kernel))
set_option maxRecDepth 20000 in
theorem gX4_agree_X4_checkNumber : GoodIn wsX4_agree (va_wsS RX4 62 yX4_checkNumber wsX4_checkNumber) := goodIn_app (goodIn_of _ (by decide +kernel)) ggX4_agree_X4_checkNumber
set_option maxRecDepth 20000 in
theorem ggX4_agree_X4_checkOpen : GoodIn wsX4_agree wsX4_checkOpen := goodIn_ca (goodIn_r _ [15, 1, 2] (by decide +kernel) (by decide +kernel)) (goodIn_sub (fun _ h => List.mem_cons_of_mem _ (List.mem_append_left _ (List.mem_append_right _ h))) (by decide +kernel))
set_option maxRecDepth 20000 in
theorem gX4_agree_X4_checkOpen : GoodIn wsX4_agree (va_wsS RX4 150 yX4_checkOpen wsX4_checkOpen) := goodIn_app (goodIn_of _ (by decide +kernel)) ggX4_agree_X4_checkOpen
set_option maxRecDepth 20000 in
theorem ggX4_agree_X4_payOut : GoodIn wsX4_agree wsX4_payOut := goodIn_r _ [19, 20, 21, 22, 23, 24, 25, 26, 27, 28, 9, 29, 30, 31, 32, 33, 34, 35, 36, 37, 38, 39, 3, 40, 41, 42, 43, 44, 45, 46, 47, 48, 49, 50, 51, 52, 53, 54, 55, 56, 57, 58, 59, 60, 61, 62, 63, 64, 65, 66, 67, 68, 69, 70, 71, 72, 73, 74, 75, 76, 77, 78, 79, 80, 81, 82, 83, 84, 85, 86, 87, 88, 89, 90, 91, 92, 93, 94, 100, 101, 102, 103, 104, 95, 96, 97, 98, 99, 105, 106] (by decide +kernel) (by decide +kernel)
set_option maxRecDepth 20000 in
theorem gX4_agree_X4_payOut : GoodIn wsX4_agree (wsV RX4 156 RX4 yX4_payOut wsX4_payOut) := goodIn_app (goodIn_of _ (by decide +kernel)) ggX4_agree_X4_payOut
theorem dX4_agree_0 : decode cX4_agree 0 = .ok (.iload_n 1, 1) := by decide +kernel
theorem dX4_agree_1 : decode cX4_agree 1 = .ok (.aload_n 0, 1) := by decide +kernel
theorem dX4_agree_2 : decode cX4_agree 2 = .ok (.getfield 26, 3) := by decide +kernel
theorem dX4_agree_5 : decode cX4_agree 5 = .ok (.getfield 136, 3) := by decide +kernel
theorem dX4_agree_8 : decode cX4_agree 8 = .ok (.invokestatic 62, 3) := by decide +kernel
theorem dX4_agree_11 : decode cX4_agree 11 = .ok (.aload_n 0, 1) := by decide +kernel
theorem dX4_agree_12 : decode cX4_agree 12 = .ok (.getfield 26, 3) := by decide +kernel
theorem dX4_agree_15 : decode cX4_agree 15 = .ok (.getfield 147, 3) := by decide +kernel
theorem dX4_agree_18 : decode cX4_agree 18 = .ok (.iload_n 1, 1) := by decide +kernel
theorem dX4_agree_19 : decode cX4_agree 19 = .ok (.iaload, 1) := by decide +kernel
theorem dX4_agree_20 : decode cX4_agree 20 = .ok (.invokestatic 150, 3) := by decide +kernel
theorem dX4_agree_23 : decode cX4_agree 23 = .ok (.aload_n 0, 1) := by decide +kernel
theorem dX4_agree_24 : decode cX4_agree 24 = .ok (.getfield 26, 3) := by decide +kernel
theorem dX4_agree_27 : decode cX4_agree 27 = .ok (.getfield 144, 3) := by decide +kernel
theorem dX4_agree_30 : decode cX4_agree 30 = .ok (.iload_n 1, 1) := by decide +kernel
theorem dX4_agree_31 : decode cX4_agree 31 = .ok (.iaload, 1) := by decide +kernel
theorem dX4_agree_32 : decode cX4_agree 32 = .ok (.istore_n 2, 1) := by decide +kernel
theorem dX4_agree_33 : decode cX4_agree 33 = .ok (.iload_n 2, 1) := by decide +kernel
theorem dX4_agree_34 : decode cX4_agree 34 = .ok (.iconst (-1), 1) := by decide +kernel
theorem dX4_agree_35 : decode cX4_agree 35 = .ok (.if_icmp .ne 13, 3) := by decide +kernel
theorem dX4_agree_38 : decode cX4_agree 38 = .ok (.new 124, 3) := by decide +kernel
theorem dX4_agree_41 : decode cX4_agree 41 = .ok (.dup, 1) := by decide +kernel
theorem dX4_agree_42 : decode cX4_agree 42 = .ok (.ldc 154, 2) := by decide +kernel
theorem dX4_agree_44 : decode cX4_agree 44 = .ok (.invokespecial 128, 3) := by decide +kernel
theorem dX4_agree_47 : decode cX4_agree 47 = .ok (.athrow, 1) := by decide +kernel
theorem dX4_agree_48 : decode cX4_agree 48 = .ok (.aload_n 0, 1) := by decide +kernel
theorem dX4_agree_49 : decode cX4_agree 49 = .ok (.getfield 26, 3) := by decide +kernel
theorem dX4_agree_52 : decode cX4_agree 52 = .ok (.getfield 147, 3) := by decide +kernel
theorem dX4_agree_55 : decode cX4_agree 55 = .ok (.iload_n 1, 1) := by decide +kernel
theorem dX4_agree_56 : decode cX4_agree 56 = .ok (.iload_n 2, 1) := by decide +kernel
theorem dX4_agree_57 : decode cX4_agree 57 = .ok (.iastore, 1) := by decide +kernel
theorem dX4_agree_58 : decode cX4_agree 58 = .ok (.aload_n 0, 1) := by decide +kernel
theorem dX4_agree_59 : decode cX4_agree 59 = .ok (.invokevirtual 156, 3) := by decide +kernel
theorem dX4_agree_62 : decode cX4_agree 62 = .ok (.ireturn, 1) := by decide +kernel
set_option maxRecDepth 20000 in
theorem ggX4_decide_X4_checkNumber : GoodIn wsX4_decide wsX4_checkNumber := goodIn_ca (goodIn_r _ [9, 10, 11] (by decide +kernel) (by decide +kernel)) (goodIn_sub (fun _ h => List.mem_cons_of_mem _ (List.mem_append_left _ (List.mem_append_left _ (List.mem_append_right _ h)))) (by decide +kernel))
set_option maxRecDepth 20000 in
theorem gX4_decide_X4_checkNumber : GoodIn wsX4_decide (va_wsS RX4 62 yX4_checkNumber wsX4_checkNumber) := goodIn_app (goodIn_of _ (by decide +kernel)) ggX4_decide_X4_checkNumber
set_option maxRecDepth 20000 in
theorem ggX4_decide_X4_checkOpen : GoodIn wsX4_decide wsX4_checkOpen := goodIn_ca (goodIn_r _ [14, 15, 16] (by decide +kernel) (by decide +kernel)) (goodIn_sub (fun _ h => List.mem_cons_of_mem _ (List.mem_append_left _ (List.mem_append_right _ h))) (by decide +kernel))
set_option maxRecDepth 20000 in
theorem gX4_decide_X4_checkOpen : GoodIn wsX4_decide (va_wsS RX4 150 yX4_checkOpen wsX4_checkOpen) := goodIn_app (goodIn_of _ (by decide +kernel)) ggX4_decide_X4_checkOpen
set_option maxRecDepth 20000 in
theorem ggX4_decide_X4_checkRange : GoodIn wsX4_decide wsX4_checkRange := goodIn_ca (goodIn_r _ [19, 20, 21] (by decide +kernel) (by decide +kernel)) (goodIn_sub (fun _ h => List.mem_cons_of_mem _ (List.mem_append_right _ h)) (by decide +kernel))
set_option maxRecDepth 20000 in
theorem gX4_decide_X4_checkRange : GoodIn wsX4_decide (va_wsS RX4 45 yX4_checkRange wsX4_checkRange) := goodIn_app (goodIn_of _ (by decide +kernel)) ggX4_decide_X4_checkRange
set_option maxRecDepth 20000 in
theorem ggX4_decide_X4_payOut : GoodIn wsX4_decide wsX4_payOut := goodIn_r _ [25, 26, 27, 28, 29, 30, 31, 32, 33, 34, 8, 35, 36, 37, 38, 39, 40, 41, 42, 43, 44, 45, 1, 46, 47, 48, 49, 50, 51, 52, 53, 54, 55, 56, 57, 58, 59, 60, 61, 62, 63, 64, 65, 66, 67, 68, 69, 70, 71, 72, 73, 74, 75, 76, 77, 78, 79, 80, 81, 82, 83, 84, 85, 86, 87, 88, 89, 90, 91, 92, 93, 94, 95, 96, 97, 98, 99, 100, 106, 107, 108, 109, 110, 101, 102, 103, 104, 105, 111, 112] (by decide +kernel) (by decide +kernel)
set_option maxRecDepth 20000 in
theorem gX4_decide_X4_payOut : GoodIn wsX4_decide (wsV RX4 156 RX4 yX4_payOut wsX4_payOut) := goodIn_app (goodIn_of _ (by decide +kernel)) ggX4_decide_X4_payOut
theorem dX4_decide_0 : decode cX4_decide 0 = .ok (.iload_n 1, 1) := by decide +kernel
theorem dX4_decide_1 : decode cX4_decide 1 = .ok (.aload_n 0, 1) := by decide +kernel
theorem dX4_decide_2 : decode cX4_decide 2 = .ok (.getfield 26, 3) := by decide +kernel
theorem dX4_decide_5 : decode cX4_decide 5 = .ok (.getfield 136, 3) := by decide +kernel
theorem dX4_decide_8 : decode cX4_decide 8 = .ok (.invokestatic 62, 3) := by decide +kernel
theorem dX4_decide_11 : decode cX4_decide 11 = .ok (.aload_n 0, 1) := by decide +kernel
theorem dX4_decide_12 : decode cX4_decide 12 = .ok (.getfield 26, 3) := by decide +kernel
theorem dX4_decide_15 : decode cX4_decide 15 = .ok (.getfield 147, 3) := by decide +kernel
theorem dX4_decide_18 : decode cX4_decide 18 = .ok (.iload_n 1, 1) := by decide +kernel
theorem dX4_decide_19 : decode cX4_decide 19 = .ok (.iaload, 1) := by decide +kernel
theorem dX4_decide_20 : decode cX4_decide 20 = .ok (.invokestatic 150, 3) := by decide +kernel
theorem dX4_decide_23 : decode cX4_decide 23 = .ok (.aload_n 0, 1) := by decide +kernel
theorem dX4_decide_24 : decode cX4_decide 24 = .ok (.getfield 26, 3) := by decide +kernel
theorem dX4_decide_27 : decode cX4_decide 27 = .ok (.getfield 144, 3) := by decide +kernel
theorem dX4_decide_30 : decode cX4_decide 30 = .ok (.iload_n 1, 1) := by decide +kernel
theorem dX4_decide_31 : decode cX4_decide 31 = .ok (.iaload, 1) := by decide +kernel
theorem dX4_decide_32 : decode cX4_decide 32 = .ok (.istore_n 3, 1) := by decide +kernel
theorem dX4_decide_33 : decode cX4_decide 33 = .ok (.iload_n 2, 1) := by decide +kernel
theorem dX4_decide_34 : decode cX4_decide 34 = .ok (.iload_n 3, 1) := by decide +kernel
theorem dX4_decide_35 : decode cX4_decide 35 = .ok (.iconst (-1), 1) := by decide +kernel
theorem dX4_decide_36 : decode cX4_decide 36 = .ok (.if_icmp .ne 7, 3) := by decide +kernel
theorem dX4_decide_39 : decode cX4_decide 39 = .ok (.iconst 0, 1) := by decide +kernel
theorem dX4_decide_40 : decode cX4_decide 40 = .ok (.goto 4, 3) := by decide +kernel
theorem dX4_decide_43 : decode cX4_decide 43 = .ok (.iload_n 3, 1) := by decide +kernel
theorem dX4_decide_44 : decode cX4_decide 44 = .ok (.aload_n 0, 1) := by decide +kernel
theorem dX4_decide_45 : decode cX4_decide 45 = .ok (.getfield 26, 3) := by decide +kernel
theorem dX4_decide_48 : decode cX4_decide 48 = .ok (.getfield 143, 3) := by decide +kernel
theorem dX4_decide_51 : decode cX4_decide 51 = .ok (.iload_n 1, 1) := by decide +kernel
theorem dX4_decide_52 : decode cX4_decide 52 = .ok (.iaload, 1) := by decide +kernel
theorem dX4_decide_53 : decode cX4_decide 53 = .ok (.invokestatic 45, 3) := by decide +kernel
theorem dX4_decide_56 : decode cX4_decide 56 = .ok (.aload_n 0, 1) := by decide +kernel
theorem dX4_decide_57 : decode cX4_decide 57 = .ok (.getfield 26, 3) := by decide +kernel
theorem dX4_decide_60 : decode cX4_decide 60 = .ok (.getfield 147, 3) := by decide +kernel
theorem dX4_decide_63 : decode cX4_decide 63 = .ok (.iload_n 1, 1) := by decide +kernel
theorem dX4_decide_64 : decode cX4_decide 64 = .ok (.iload_n 2, 1) := by decide +kernel
theorem dX4_decide_65 : decode cX4_decide 65 = .ok (.iastore, 1) := by decide +kernel
theorem dX4_decide_66 : decode cX4_decide 66 = .ok (.aload_n 0, 1) := by decide +kernel
theorem dX4_decide_67 : decode cX4_decide 67 = .ok (.invokevirtual 156, 3) := by decide +kernel
theorem dX4_decide_70 : decode cX4_decide 70 = .ok (.ireturn, 1) := by decide +kernel
set_option maxRecDepth 20000 in
theorem ggX4_report_X4_checkRange : GoodIn wsX4_report wsX4_checkRange := goodIn_ca (goodIn_r _ [11, 12, 13] (by decide +kernel) (by decide +kernel)) (goodIn_sub (fun _ h => List.mem_cons_of_mem _ (List.mem_append_right _ h)) (by decide +kernel))
set_option maxRecDepth 20000 in
theorem gX4_report_X4_checkRange : GoodIn wsX4_report (va_wsS RX4 45 yX4_checkRange wsX4_checkRange) := goodIn_app (goodIn_of _ (by decide +kernel)) ggX4_report_X4_checkRange
set_option maxRecDepth 20000 in
theorem ggX4_report_X4_checkClosed : GoodIn wsX4_report wsX4_checkClosed := goodIn_ca (goodIn_r _ [17, 1, 2, 18, 83, 84, 85, 86, 87, 88, 89, 90, 91, 92, 93, 94, 95, 96] (by decide +kernel) (by decide +kernel)) (goodIn_sub (fun _ h => List.mem_cons_of_mem _ (List.mem_append_left _ (List.mem_append_right _ h))) (by decide +kernel))
set_option maxRecDepth 20000 in
theorem gX4_report_X4_checkClosed : GoodIn wsX4_report (wsV RX4 121 RX4 yX4_checkClosed wsX4_checkClosed) := goodIn_app (goodIn_of _ (by decide +kernel)) ggX4_report_X4_checkClosed
set_option maxRecDepth 20000 in
theorem ggX4_report_X1_tell : GoodIn wsX4_report wsX1_tell := goodIn_r _ [23, 24, 25, 26, 27, 28, 29, 30, 31, 22, 32, 33, 34, 97, 98, 99, 100, 101, 102, 103, 104] (by decide +kernel) (by decide +kernel)
set_option maxRecDepth 20000 in
theorem gX4_report_X1_tell : GoodIn wsX4_report (wsV RX4 169 RX1 yX1_tell wsX1_tell) := goodIn_app (goodIn_of _ (by decide +kernel)) ggX4_report_X1_tell
set_option maxRecDepth 20000 in
theorem ggX4_report_X4_owe : GoodIn wsX4_report wsX4_owe := goodIn_r _ [38, 39, 40, 41, 42, 43, 44, 45, 46, 47, 48, 10, 49, 50, 51, 52, 53, 54, 55, 56, 57, 58, 59, 60, 61, 62, 63, 64, 65, 66, 67, 68, 69, 70, 71, 72, 73, 74, 75, 76, 77, 78, 79, 80, 81, 82, 83, 84, 85, 86, 87, 88, 89, 90, 91, 92, 93, 94, 95, 96, 105, 106, 107, 108, 109, 110, 111, 112, 113, 114] (by decide +kernel) (by decide +kernel)
set_option maxRecDepth 20000 in
theorem gX4_report_X4_owe : GoodIn wsX4_report (wsV RX4 172 RX4 yX4_owe wsX4_owe) := goodIn_app (goodIn_of _ (by decide +kernel)) ggX4_report_X4_owe
theorem dX4_report_0 : decode cX4_report 0 = .ok (.iload_n 1, 1) := by decide +kernel
theorem dX4_report_1 : decode cX4_report 1 = .ok (.ldc 49, 2) := by decide +kernel
theorem dX4_report_3 : decode cX4_report 3 = .ok (.ldc 44, 2) := by decide +kernel
theorem dX4_report_5 : decode cX4_report 5 = .ok (.invokestatic 45, 3) := by decide +kernel
theorem dX4_report_8 : decode cX4_report 8 = .ok (.aload_n 0, 1) := by decide +kernel
theorem dX4_report_9 : decode cX4_report 9 = .ok (.invokevirtual 121, 3) := by decide +kernel
theorem dX4_report_12 : decode cX4_report 12 = .ok (.aload_n 0, 1) := by decide +kernel
theorem dX4_report_13 : decode cX4_report 13 = .ok (.getfield 33, 3) := by decide +kernel
theorem dX4_report_16 : decode cX4_report 16 = .ok (.getfield 159, 3) := by decide +kernel
theorem dX4_report_19 : decode cX4_report 19 = .ok (.ifCond .eq 13, 3) := by decide +kernel
theorem dX4_report_22 : decode cX4_report 22 = .ok (.new 124, 3) := by decide +kernel
theorem dX4_report_25 : decode cX4_report 25 = .ok (.dup, 1) := by decide +kernel
theorem dX4_report_26 : decode cX4_report 26 = .ok (.ldc 162, 2) := by decide +kernel
theorem dX4_report_28 : decode cX4_report 28 = .ok (.invokespecial 128, 3) := by decide +kernel
theorem dX4_report_31 : decode cX4_report 31 = .ok (.athrow, 1) := by decide +kernel
theorem dX4_report_32 : decode cX4_report 32 = .ok (.aload_n 0, 1) := by decide +kernel
theorem dX4_report_33 : decode cX4_report 33 = .ok (.getfield 33, 3) := by decide +kernel
theorem dX4_report_36 : decode cX4_report 36 = .ok (.getfield 164, 3) := by decide +kernel
theorem dX4_report_39 : decode cX4_report 39 = .ok (.iconst 4, 1) := by decide +kernel
theorem dX4_report_40 : decode cX4_report 40 = .ok (.if_icmp .lt 13, 3) := by decide +kernel
theorem dX4_report_43 : decode cX4_report 43 = .ok (.new 124, 3) := by decide +kernel
theorem dX4_report_46 : decode cX4_report 46 = .ok (.dup, 1) := by decide +kernel
theorem dX4_report_47 : decode cX4_report 47 = .ok (.ldc 167, 2) := by decide +kernel
theorem dX4_report_49 : decode cX4_report 49 = .ok (.invokespecial 128, 3) := by decide +kernel
theorem dX4_report_52 : decode cX4_report 52 = .ok (.athrow, 1) := by decide +kernel
theorem dX4_report_53 : decode cX4_report 53 = .ok (.aload_n 0, 1) := by decide +kernel
theorem dX4_report_54 : decode cX4_report 54 = .ok (.aload_n 0, 1) := by decide +kernel
theorem dX4_report_55 : decode cX4_report 55 = .ok (.getfield 33, 3) := by decide +kernel
theorem dX4_report_58 : decode cX4_report 58 = .ok (.iload_n 1, 1) := by decide +kernel
theorem dX4_report_59 : decode cX4_report 59 = .ok (.invokevirtual 169, 3) := by decide +kernel
theorem dX4_report_62 : decode cX4_report 62 = .ok (.invokevirtual 172, 3) := by decide +kernel
theorem dX4_report_65 : decode cX4_report 65 = .ok (.ireturn, 1) := by decide +kernel
set_option maxRecDepth 20000 in
theorem ggX4_speedUp_X4_checkClosed : GoodIn wsX4_speedUp wsX4_checkClosed := goodIn_ca (goodIn_r _ [9, 1, 2, 10, 72, 73, 74, 75, 76, 77, 78, 79, 80, 81, 82, 83, 84, 85] (by decide +kernel) (by decide +kernel)) (goodIn_sub (fun _ h => List.mem_cons_of_mem _ (List.mem_append_right _ h)) (by decide +kernel))
set_option maxRecDepth 20000 in
theorem gX4_speedUp_X4_checkClosed : GoodIn wsX4_speedUp (wsV RX4 121 RX4 yX4_checkClosed wsX4_checkClosed) := goodIn_app (goodIn_of _ (by decide +kernel)) ggX4_speedUp_X4_checkClosed
set_option maxRecDepth 20000 in
theorem ggX4_speedUp_X1_hasten : GoodIn wsX4_speedUp wsX1_hasten := goodIn_r _ [15, 16, 17, 18, 19, 20, 14, 21, 22, 23, 86, 87, 88, 89, 90, 91, 92, 93] (by decide +kernel) (by decide +kernel)
set_option maxRecDepth 20000 in
theorem gX4_speedUp_X1_hasten : GoodIn wsX4_speedUp (wsV RX4 175 RX1 yX1_hasten wsX1_hasten) := goodIn_app (goodIn_of _ (by decide +kernel)) ggX4_speedUp_X1_hasten
set_option maxRecDepth 20000 in
theorem ggX4_speedUp_X4_owe : GoodIn wsX4_speedUp wsX4_owe := goodIn_r _ [27, 28, 29, 30, 31, 32, 33, 34, 35, 36, 37, 8, 38, 39, 40, 41, 42, 43, 44, 45, 46, 47, 48, 49, 50, 51, 52, 53, 54, 55, 56, 57, 58, 59, 60, 61, 62, 63, 64, 65, 66, 67, 68, 69, 70, 71, 72, 73, 74, 75, 76, 77, 78, 79, 80, 81, 82, 83, 84, 85, 94, 95, 96, 97, 98, 99, 100, 101, 102, 103] (by decide +kernel) (by decide +kernel)
set_option maxRecDepth 20000 in
theorem gX4_speedUp_X4_owe : GoodIn wsX4_speedUp (wsV RX4 172 RX4 yX4_owe wsX4_owe) := goodIn_app (goodIn_of _ (by decide +kernel)) ggX4_speedUp_X4_owe
theorem dX4_speedUp_0 : decode cX4_speedUp 0 = .ok (.aload_n 0, 1) := by decide +kernel
theorem dX4_speedUp_1 : decode cX4_speedUp 1 = .ok (.invokevirtual 121, 3) := by decide +kernel
theorem dX4_speedUp_4 : decode cX4_speedUp 4 = .ok (.aload_n 0, 1) := by decide +kernel
theorem dX4_speedUp_5 : decode cX4_speedUp 5 = .ok (.getfield 33, 3) := by decide +kernel
theorem dX4_speedUp_8 : decode cX4_speedUp 8 = .ok (.getfield 159, 3) := by decide +kernel
theorem dX4_speedUp_11 : decode cX4_speedUp 11 = .ok (.ifCond .eq 13, 3) := by decide +kernel
theorem dX4_speedUp_14 : decode cX4_speedUp 14 = .ok (.new 124, 3) := by decide +kernel
theorem dX4_speedUp_17 : decode cX4_speedUp 17 = .ok (.dup, 1) := by decide +kernel
theorem dX4_speedUp_18 : decode cX4_speedUp 18 = .ok (.ldc 162, 2) := by decide +kernel
theorem dX4_speedUp_20 : decode cX4_speedUp 20 = .ok (.invokespecial 128, 3) := by decide +kernel
theorem dX4_speedUp_23 : decode cX4_speedUp 23 = .ok (.athrow, 1) := by decide +kernel
theorem dX4_speedUp_24 : decode cX4_speedUp 24 = .ok (.aload_n 0, 1) := by decide +kernel
theorem dX4_speedUp_25 : decode cX4_speedUp 25 = .ok (.aload_n 0, 1) := by decide +kernel
theorem dX4_speedUp_26 : decode cX4_speedUp 26 = .ok (.getfield 33, 3) := by decide +kernel
theorem dX4_speedUp_29 : decode cX4_speedUp 29 = .ok (.invokevirtual 175, 3) := by decide +kernel
theorem dX4_speedUp_32 : decode cX4_speedUp 32 = .ok (.invokevirtual 172, 3) := by decide +kernel
theorem dX4_speedUp_35 : decode cX4_speedUp 35 = .ok (.ireturn, 1) := by decide +kernel
theorem dX4_day_0 : decode cX4_day 0 = .ok (.aload_n 0, 1) := by decide +kernel
theorem dX4_day_1 : decode cX4_day 1 = .ok (.getfield 37, 3) := by decide +kernel
theorem dX4_day_4 : decode cX4_day 4 = .ok (.ireturn, 1) := by decide +kernel
theorem dX4_finalPrice_0 : decode cX4_finalPrice 0 = .ok (.aload_n 0, 1) := by decide +kernel
theorem dX4_finalPrice_1 : decode cX4_finalPrice 1 = .ok (.getfield 41, 3) := by decide +kernel
theorem dX4_finalPrice_4 : decode cX4_finalPrice 4 = .ok (.ireturn, 1) := by decide +kernel
theorem dX4_held_0 : decode cX4_held 0 = .ok (.aload_n 0, 1) := by decide +kernel
theorem dX4_held_1 : decode cX4_held 1 = .ok (.getfield 115, 3) := by decide +kernel
theorem dX4_held_4 : decode cX4_held 4 = .ok (.ireturn, 1) := by decide +kernel
theorem dX4_paid_0 : decode cX4_paid 0 = .ok (.aload_n 0, 1) := by decide +kernel
theorem dX4_paid_1 : decode cX4_paid 1 = .ok (.getfield 118, 3) := by decide +kernel
theorem dX4_paid_4 : decode cX4_paid 4 = .ok (.ireturn, 1) := by decide +kernel
theorem dX4_returned_0 : decode cX4_returned 0 = .ok (.aload_n 0, 1) := by decide +kernel
theorem dX4_returned_1 : decode cX4_returned 1 = .ok (.getfield 178, 3) := by decide +kernel
theorem dX4_returned_4 : decode cX4_returned 4 = .ok (.ireturn, 1) := by decide +kernel
theorem dX4_setOff_0 : decode cX4_setOff 0 = .ok (.aload_n 0, 1) := by decide +kernel
theorem dX4_setOff_1 : decode cX4_setOff 1 = .ok (.getfield 181, 3) := by decide +kernel
theorem dX4_setOff_4 : decode cX4_setOff 4 = .ok (.ireturn, 1) := by decide +kernel
theorem dX4_owed_0 : decode cX4_owed 0 = .ok (.aload_n 0, 1) := by decide +kernel
theorem dX4_owed_1 : decode cX4_owed 1 = .ok (.getfield 184, 3) := by decide +kernel
theorem dX4_owed_4 : decode cX4_owed 4 = .ok (.ireturn, 1) := by decide +kernel
set_option maxRecDepth 20000 in
theorem ggX4_due_X4_dueInAll : GoodIn wsX4_due wsX4_dueInAll := goodIn_r _ [5, 6, 7, 8, 4, 9, 10, 11, 12, 13, 14, 15, 16, 17, 18, 19, 20, 21, 22, 23, 24, 25, 26, 27, 28, 29, 30, 31, 32, 33, 34, 35, 36, 37, 38, 39, 40, 41, 42, 43, 44, 45, 46, 47, 48, 49, 50, 51, 52, 53, 54, 55, 56, 57, 58, 59, 60] (by decide +kernel) (by decide +kernel)
set_option maxRecDepth 20000 in
theorem gX4_due_X4_dueInAll : GoodIn wsX4_due (wsV RX4 187 RX4 yX4_dueInAll wsX4_dueInAll) := goodIn_app (goodIn_of _ (by decide +kernel)) ggX4_due_X4_dueInAll
theorem dX4_due_0 : decode cX4_due 0 = .ok (.aload_n 0, 1) := by decide +kernel
theorem dX4_due_1 : decode cX4_due 1 = .ok (.invokevirtual 187, 3) := by decide +kernel
theorem dX4_due_4 : decode cX4_due 4 = .ok (.ireturn, 1) := by decide +kernel
set_option maxRecDepth 20000 in
theorem ggX4_outstanding_X4_leftOutstanding : GoodIn wsX4_outstanding wsX4_leftOutstanding := goodIn_r _ [5, 6, 7, 8, 9, 10, 4, 11, 12, 13, 14, 15, 16, 17, 18, 19, 20, 21, 22, 23, 24, 25, 26, 27, 28, 29, 30, 31, 32, 33, 34, 35, 36, 37, 38, 39, 40, 41, 42, 43, 44, 45, 46, 47, 48, 49, 50, 51, 52, 53, 54, 55, 56, 57, 58, 59, 60, 61, 62, 63, 64, 65, 66] (by decide +kernel) (by decide +kernel)
set_option maxRecDepth 20000 in
theorem gX4_outstanding_X4_leftOutstanding : GoodIn wsX4_outstanding (wsV RX4 190 RX4 yX4_leftOutstanding wsX4_leftOutstanding) := goodIn_app (goodIn_of _ (by decide +kernel)) ggX4_outstanding_X4_leftOutstanding
theorem dX4_outstanding_0 : decode cX4_outstanding 0 = .ok (.aload_n 0, 1) := by decide +kernel
theorem dX4_outstanding_1 : decode cX4_outstanding 1 = .ok (.invokevirtual 190, 3) := by decide +kernel
theorem dX4_outstanding_4 : decode cX4_outstanding 4 = .ok (.ireturn, 1) := by decide +kernel
set_option maxRecDepth 20000 in
theorem ggX4_dueOf_X4_checkNumber : GoodIn wsX4_dueOf wsX4_checkNumber := goodIn_ca (goodIn_r _ [4, 5, 6] (by decide +kernel) (by decide +kernel)) (goodIn_sub (fun _ h => List.mem_cons_of_mem _ (List.mem_append_right _ h)) (by decide +kernel))
set_option maxRecDepth 20000 in
theorem gX4_dueOf_X4_checkNumber : GoodIn wsX4_dueOf (va_wsS RX4 62 yX4_checkNumber wsX4_checkNumber) := goodIn_app (goodIn_of _ (by decide +kernel)) ggX4_dueOf_X4_checkNumber
set_option maxRecDepth 20000 in
theorem ggX4_dueOf_X4_dueOfKind : GoodIn wsX4_dueOf wsX4_dueOfKind := goodIn_r _ [10, 11, 12, 13, 14, 15, 16, 17, 18, 19, 20, 21, 22, 23, 24, 25, 26, 27, 28, 29, 30, 31, 32, 33, 34, 35, 36, 37, 38, 39, 40, 41, 42, 43, 44, 45, 46, 47, 48, 49, 50, 51, 52, 53, 54, 55, 56, 57, 58, 59, 60, 61] (by decide +kernel) (by decide +kernel)
set_option maxRecDepth 20000 in
theorem gX4_dueOf_X4_dueOfKind : GoodIn wsX4_dueOf (wsV RX4 193 RX4 yX4_dueOfKind wsX4_dueOfKind) := goodIn_app (goodIn_of _ (by decide +kernel)) ggX4_dueOf_X4_dueOfKind
theorem dX4_dueOf_0 : decode cX4_dueOf 0 = .ok (.iload_n 1, 1) := by decide +kernel
theorem dX4_dueOf_1 : decode cX4_dueOf 1 = .ok (.iconst 3, 1) := by decide +kernel
theorem dX4_dueOf_2 : decode cX4_dueOf 2 = .ok (.invokestatic 62, 3) := by decide +kernel
theorem dX4_dueOf_5 : decode cX4_dueOf 5 = .ok (.aload_n 0, 1) := by decide +kernel
theorem dX4_dueOf_6 : decode cX4_dueOf 6 = .ok (.iload_n 1, 1) := by decide +kernel
theorem dX4_dueOf_7 : decode cX4_dueOf 7 = .ok (.invokevirtual 193, 3) := by decide +kernel
theorem dX4_dueOf_10 : decode cX4_dueOf 10 = .ok (.ireturn, 1) := by decide +kernel
theorem dX4_claims_0 : decode cX4_claims 0 = .ok (.aload_n 0, 1) := by decide +kernel
theorem dX4_claims_1 : decode cX4_claims 1 = .ok (.getfield 26, 3) := by decide +kernel
theorem dX4_claims_4 : decode cX4_claims 4 = .ok (.getfield 136, 3) := by decide +kernel
theorem dX4_claims_7 : decode cX4_claims 7 = .ok (.ireturn, 1) := by decide +kernel
set_option maxRecDepth 20000 in
theorem ggX4_settledAt_X4_checkNumber : GoodIn wsX4_settledAt wsX4_checkNumber := goodIn_ca (goodIn_r _ [7, 8, 9] (by decide +kernel) (by decide +kernel)) (goodIn_sub (fun _ h => List.mem_cons_of_mem _ (List.mem_append_right _ h)) (by decide +kernel))
set_option maxRecDepth 20000 in
theorem gX4_settledAt_X4_checkNumber : GoodIn wsX4_settledAt (va_wsS RX4 62 yX4_checkNumber wsX4_checkNumber) := goodIn_app (goodIn_of _ (by decide +kernel)) ggX4_settledAt_X4_checkNumber
theorem dX4_settledAt_0 : decode cX4_settledAt 0 = .ok (.iload_n 1, 1) := by decide +kernel
theorem dX4_settledAt_1 : decode cX4_settledAt 1 = .ok (.aload_n 0, 1) := by decide +kernel
theorem dX4_settledAt_2 : decode cX4_settledAt 2 = .ok (.getfield 26, 3) := by decide +kernel
theorem dX4_settledAt_5 : decode cX4_settledAt 5 = .ok (.getfield 136, 3) := by decide +kernel
theorem dX4_settledAt_8 : decode cX4_settledAt 8 = .ok (.invokestatic 62, 3) := by decide +kernel
theorem dX4_settledAt_11 : decode cX4_settledAt 11 = .ok (.aload_n 0, 1) := by decide +kernel
theorem dX4_settledAt_12 : decode cX4_settledAt 12 = .ok (.getfield 26, 3) := by decide +kernel
theorem dX4_settledAt_15 : decode cX4_settledAt 15 = .ok (.getfield 147, 3) := by decide +kernel
theorem dX4_settledAt_18 : decode cX4_settledAt 18 = .ok (.iload_n 1, 1) := by decide +kernel
theorem dX4_settledAt_19 : decode cX4_settledAt 19 = .ok (.iaload, 1) := by decide +kernel
theorem dX4_settledAt_20 : decode cX4_settledAt 20 = .ok (.ireturn, 1) := by decide +kernel
set_option maxRecDepth 20000 in
theorem ggX4_isMet_X4_checkNumber : GoodIn wsX4_isMet wsX4_checkNumber := goodIn_ca (goodIn_r _ [6, 7, 8] (by decide +kernel) (by decide +kernel)) (goodIn_sub (fun _ h => List.mem_cons_of_mem _ (List.mem_append_right _ h)) (by decide +kernel))
set_option maxRecDepth 20000 in
theorem gX4_isMet_X4_checkNumber : GoodIn wsX4_isMet (va_wsS RX4 62 yX4_checkNumber wsX4_checkNumber) := goodIn_app (goodIn_of _ (by decide +kernel)) ggX4_isMet_X4_checkNumber
theorem dX4_isMet_0 : decode cX4_isMet 0 = .ok (.iload_n 1, 1) := by decide +kernel
theorem dX4_isMet_1 : decode cX4_isMet 1 = .ok (.iconst 4, 1) := by decide +kernel
theorem dX4_isMet_2 : decode cX4_isMet 2 = .ok (.invokestatic 62, 3) := by decide +kernel
theorem dX4_isMet_5 : decode cX4_isMet 5 = .ok (.aload_n 0, 1) := by decide +kernel
theorem dX4_isMet_6 : decode cX4_isMet 6 = .ok (.getfield 33, 3) := by decide +kernel
theorem dX4_isMet_9 : decode cX4_isMet 9 = .ok (.getfield 196, 3) := by decide +kernel
theorem dX4_isMet_12 : decode cX4_isMet 12 = .ok (.iload_n 1, 1) := by decide +kernel
theorem dX4_isMet_13 : decode cX4_isMet 13 = .ok (.baload, 1) := by decide +kernel
theorem dX4_isMet_14 : decode cX4_isMet 14 = .ok (.ireturn, 1) := by decide +kernel
theorem dX4_checkNumber_0 : decode cX4_checkNumber 0 = .ok (.iload_n 0, 1) := by decide +kernel
theorem dX4_checkNumber_1 : decode cX4_checkNumber 1 = .ok (.ifCond .lt 8, 3) := by decide +kernel
theorem dX4_checkNumber_4 : decode cX4_checkNumber 4 = .ok (.iload_n 0, 1) := by decide +kernel
theorem dX4_checkNumber_5 : decode cX4_checkNumber 5 = .ok (.iload_n 1, 1) := by decide +kernel
theorem dX4_checkNumber_6 : decode cX4_checkNumber 6 = .ok (.if_icmp .lt 13, 3) := by decide +kernel
theorem dX4_checkNumber_9 : decode cX4_checkNumber 9 = .ok (.new 199, 3) := by decide +kernel
theorem dX4_checkNumber_12 : decode cX4_checkNumber 12 = .ok (.dup, 1) := by decide +kernel
theorem dX4_checkNumber_13 : decode cX4_checkNumber 13 = .ok (.ldc 201, 2) := by decide +kernel
theorem dX4_checkNumber_15 : decode cX4_checkNumber 15 = .ok (.invokespecial 203, 3) := by decide +kernel
theorem dX4_checkNumber_18 : decode cX4_checkNumber 18 = .ok (.athrow, 1) := by decide +kernel
theorem dX4_checkNumber_19 : decode cX4_checkNumber 19 = .ok (.return_, 1) := by decide +kernel
theorem dX4_checkRange_0 : decode cX4_checkRange 0 = .ok (.iload_n 0, 1) := by decide +kernel
theorem dX4_checkRange_1 : decode cX4_checkRange 1 = .ok (.iload_n 1, 1) := by decide +kernel
theorem dX4_checkRange_2 : decode cX4_checkRange 2 = .ok (.if_icmp .lt 8, 3) := by decide +kernel
theorem dX4_checkRange_5 : decode cX4_checkRange 5 = .ok (.iload_n 0, 1) := by decide +kernel
theorem dX4_checkRange_6 : decode cX4_checkRange 6 = .ok (.iload_n 2, 1) := by decide +kernel
theorem dX4_checkRange_7 : decode cX4_checkRange 7 = .ok (.if_icmp .le 13, 3) := by decide +kernel
theorem dX4_checkRange_10 : decode cX4_checkRange 10 = .ok (.new 204, 3) := by decide +kernel
theorem dX4_checkRange_13 : decode cX4_checkRange 13 = .ok (.dup, 1) := by decide +kernel
theorem dX4_checkRange_14 : decode cX4_checkRange 14 = .ok (.ldc 206, 2) := by decide +kernel
theorem dX4_checkRange_16 : decode cX4_checkRange 16 = .ok (.invokespecial 208, 3) := by decide +kernel
theorem dX4_checkRange_19 : decode cX4_checkRange 19 = .ok (.athrow, 1) := by decide +kernel
theorem dX4_checkRange_20 : decode cX4_checkRange 20 = .ok (.return_, 1) := by decide +kernel
theorem dX4_checkOpen_0 : decode cX4_checkOpen 0 = .ok (.iload_n 0, 1) := by decide +kernel
theorem dX4_checkOpen_1 : decode cX4_checkOpen 1 = .ok (.iconst (-1), 1) := by decide +kernel
theorem dX4_checkOpen_2 : decode cX4_checkOpen 2 = .ok (.if_icmp .eq 13, 3) := by decide +kernel
theorem dX4_checkOpen_5 : decode cX4_checkOpen 5 = .ok (.new 124, 3) := by decide +kernel
theorem dX4_checkOpen_8 : decode cX4_checkOpen 8 = .ok (.dup, 1) := by decide +kernel
theorem dX4_checkOpen_9 : decode cX4_checkOpen 9 = .ok (.ldc 209, 2) := by decide +kernel
theorem dX4_checkOpen_11 : decode cX4_checkOpen 11 = .ok (.invokespecial 128, 3) := by decide +kernel
theorem dX4_checkOpen_14 : decode cX4_checkOpen 14 = .ok (.athrow, 1) := by decide +kernel
theorem dX4_checkOpen_15 : decode cX4_checkOpen 15 = .ok (.return_, 1) := by decide +kernel
theorem dX4_checkNotClosed_0 : decode cX4_checkNotClosed 0 = .ok (.aload_n 0, 1) := by decide +kernel
theorem dX4_checkNotClosed_1 : decode cX4_checkNotClosed 1 = .ok (.getfield 37, 3) := by decide +kernel
theorem dX4_checkNotClosed_4 : decode cX4_checkNotClosed 4 = .ok (.iconst (-1), 1) := by decide +kernel
theorem dX4_checkNotClosed_5 : decode cX4_checkNotClosed 5 = .ok (.if_icmp .eq 13, 3) := by decide +kernel
theorem dX4_checkNotClosed_8 : decode cX4_checkNotClosed 8 = .ok (.new 124, 3) := by decide +kernel
theorem dX4_checkNotClosed_11 : decode cX4_checkNotClosed 11 = .ok (.dup, 1) := by decide +kernel
theorem dX4_checkNotClosed_12 : decode cX4_checkNotClosed 12 = .ok (.ldc 211, 2) := by decide +kernel
theorem dX4_checkNotClosed_14 : decode cX4_checkNotClosed 14 = .ok (.invokespecial 128, 3) := by decide +kernel
theorem dX4_checkNotClosed_17 : decode cX4_checkNotClosed 17 = .ok (.athrow, 1) := by decide +kernel
theorem dX4_checkNotClosed_18 : decode cX4_checkNotClosed 18 = .ok (.return_, 1) := by decide +kernel
theorem dX4_checkClosed_0 : decode cX4_checkClosed 0 = .ok (.aload_n 0, 1) := by decide +kernel
theorem dX4_checkClosed_1 : decode cX4_checkClosed 1 = .ok (.getfield 37, 3) := by decide +kernel
theorem dX4_checkClosed_4 : decode cX4_checkClosed 4 = .ok (.iconst (-1), 1) := by decide +kernel
theorem dX4_checkClosed_5 : decode cX4_checkClosed 5 = .ok (.if_icmp .ne 13, 3) := by decide +kernel
theorem dX4_checkClosed_8 : decode cX4_checkClosed 8 = .ok (.new 124, 3) := by decide +kernel
theorem dX4_checkClosed_11 : decode cX4_checkClosed 11 = .ok (.dup, 1) := by decide +kernel
theorem dX4_checkClosed_12 : decode cX4_checkClosed 12 = .ok (.ldc 213, 2) := by decide +kernel
theorem dX4_checkClosed_14 : decode cX4_checkClosed 14 = .ok (.invokespecial 128, 3) := by decide +kernel
theorem dX4_checkClosed_17 : decode cX4_checkClosed 17 = .ok (.athrow, 1) := by decide +kernel
theorem dX4_checkClosed_18 : decode cX4_checkClosed 18 = .ok (.return_, 1) := by decide +kernel
theorem dX4_beyondCollar_0 : decode cX4_beyondCollar 0 = .ok (.iload_n 1, 1) := by decide +kernel
theorem dX4_beyondCollar_1 : decode cX4_beyondCollar 1 = .ok (.aload_n 0, 1) := by decide +kernel
theorem dX4_beyondCollar_2 : decode cX4_beyondCollar 2 = .ok (.getfield 59, 3) := by decide +kernel
theorem dX4_beyondCollar_5 : decode cX4_beyondCollar 5 = .ok (.if_icmp .le 10, 3) := by decide +kernel
theorem dX4_beyondCollar_8 : decode cX4_beyondCollar 8 = .ok (.iload_n 1, 1) := by decide +kernel
theorem dX4_beyondCollar_9 : decode cX4_beyondCollar 9 = .ok (.aload_n 0, 1) := by decide +kernel
theorem dX4_beyondCollar_10 : decode cX4_beyondCollar 10 = .ok (.getfield 59, 3) := by decide +kernel
theorem dX4_beyondCollar_13 : decode cX4_beyondCollar 13 = .ok (.isub, 1) := by decide +kernel
theorem dX4_beyondCollar_14 : decode cX4_beyondCollar 14 = .ok (.ireturn, 1) := by decide +kernel
theorem dX4_beyondCollar_15 : decode cX4_beyondCollar 15 = .ok (.iload_n 1, 1) := by decide +kernel
theorem dX4_beyondCollar_16 : decode cX4_beyondCollar 16 = .ok (.aload_n 0, 1) := by decide +kernel
theorem dX4_beyondCollar_17 : decode cX4_beyondCollar 17 = .ok (.getfield 59, 3) := by decide +kernel
theorem dX4_beyondCollar_20 : decode cX4_beyondCollar 20 = .ok (.ineg, 1) := by decide +kernel
theorem dX4_beyondCollar_21 : decode cX4_beyondCollar 21 = .ok (.if_icmp .ge 10, 3) := by decide +kernel
theorem dX4_beyondCollar_24 : decode cX4_beyondCollar 24 = .ok (.iload_n 1, 1) := by decide +kernel
theorem dX4_beyondCollar_25 : decode cX4_beyondCollar 25 = .ok (.aload_n 0, 1) := by decide +kernel
theorem dX4_beyondCollar_26 : decode cX4_beyondCollar 26 = .ok (.getfield 59, 3) := by decide +kernel
theorem dX4_beyondCollar_29 : decode cX4_beyondCollar 29 = .ok (.iadd, 1) := by decide +kernel
theorem dX4_beyondCollar_30 : decode cX4_beyondCollar 30 = .ok (.ireturn, 1) := by decide +kernel
theorem dX4_beyondCollar_31 : decode cX4_beyondCollar 31 = .ok (.iconst 0, 1) := by decide +kernel
theorem dX4_beyondCollar_32 : decode cX4_beyondCollar 32 = .ok (.ireturn, 1) := by decide +kernel
set_option maxRecDepth 20000 in
theorem ggX4_dueOfKind_X0_settledSum : GoodIn wsX4_dueOfKind wsX0_settledSum := goodIn_r _ [8, 9, 10, 11, 47, 48, 49, 50, 51] (by decide +kernel) (by decide +kernel)
set_option maxRecDepth 20000 in
theorem gX4_dueOfKind_X0_settledSum : GoodIn wsX4_dueOfKind (wsV RX4 215 RX0 yX0_settledSum wsX0_settledSum) := goodIn_app (goodIn_of _ (by decide +kernel)) ggX4_dueOfKind_X0_settledSum
set_option maxRecDepth 20000 in
theorem ggX4_dueOfKind_X3_limit : GoodIn wsX4_dueOfKind wsX3_limit := goodIn_r _ [16, 17, 18, 19, 20, 21, 22, 23, 24, 15, 25, 26, 27, 42, 43, 44, 45, 46] (by decide +kernel) (by decide +kernel)
set_option maxRecDepth 20000 in
theorem gX4_dueOfKind_X3_limit : GoodIn wsX4_dueOfKind (wsV RX4 218 RX3 yX3_limit wsX3_limit) := goodIn_app (goodIn_of _ (by decide +kernel)) ggX4_dueOfKind_X3_limit
theorem dX4_dueOfKind_0 : decode cX4_dueOfKind 0 = .ok (.aload_n 0, 1) := by decide +kernel
theorem dX4_dueOfKind_1 : decode cX4_dueOfKind 1 = .ok (.getfield 19, 3) := by decide +kernel
theorem dX4_dueOfKind_4 : decode cX4_dueOfKind 4 = .ok (.iload_n 1, 1) := by decide +kernel
theorem dX4_dueOfKind_5 : decode cX4_dueOfKind 5 = .ok (.aload_n 0, 1) := by decide +kernel
theorem dX4_dueOfKind_6 : decode cX4_dueOfKind 6 = .ok (.getfield 26, 3) := by decide +kernel
theorem dX4_dueOfKind_9 : decode cX4_dueOfKind 9 = .ok (.iload_n 1, 1) := by decide +kernel
theorem dX4_dueOfKind_10 : decode cX4_dueOfKind 10 = .ok (.aload_n 0, 1) := by decide +kernel
theorem dX4_dueOfKind_11 : decode cX4_dueOfKind 11 = .ok (.getfield 19, 3) := by decide +kernel
theorem dX4_dueOfKind_14 : decode cX4_dueOfKind 14 = .ok (.getfield 74, 3) := by decide +kernel
theorem dX4_dueOfKind_17 : decode cX4_dueOfKind 17 = .ok (.iload_n 1, 1) := by decide +kernel
theorem dX4_dueOfKind_18 : decode cX4_dueOfKind 18 = .ok (.iaload, 1) := by decide +kernel
theorem dX4_dueOfKind_19 : decode cX4_dueOfKind 19 = .ok (.invokevirtual 215, 3) := by decide +kernel
theorem dX4_dueOfKind_22 : decode cX4_dueOfKind 22 = .ok (.invokevirtual 218, 3) := by decide +kernel
theorem dX4_dueOfKind_25 : decode cX4_dueOfKind 25 = .ok (.ireturn, 1) := by decide +kernel
set_option maxRecDepth 20000 in
theorem ggX4_dueInAll_X4_dueOfKind : GoodIn wsX4_dueInAll wsX4_dueOfKind := goodIn_r _ [5, 6, 7, 8, 9, 10, 11, 12, 13, 14, 15, 16, 17, 18, 19, 20, 21, 22, 23, 24, 25, 26, 27, 28, 29, 30, 31, 32, 33, 34, 35, 36, 37, 38, 39, 40, 41, 42, 43, 44, 45, 46, 47, 48, 49, 50, 51, 52, 53, 54, 55, 56] (by decide +kernel) (by decide +kernel)
set_option maxRecDepth 20000 in
theorem gX4_dueInAll_X4_dueOfKind : GoodIn wsX4_dueInAll (wsV RX4 193 RX4 yX4_dueOfKind wsX4_dueOfKind) := goodIn_app (goodIn_of _ (by decide +kernel)) ggX4_dueInAll_X4_dueOfKind
theorem dX4_dueInAll_0 : decode cX4_dueInAll 0 = .ok (.iconst 0, 1) := by decide +kernel
theorem dX4_dueInAll_1 : decode cX4_dueInAll 1 = .ok (.istore_n 1, 1) := by decide +kernel
theorem dX4_dueInAll_2 : decode cX4_dueInAll 2 = .ok (.iconst 0, 1) := by decide +kernel
theorem dX4_dueInAll_3 : decode cX4_dueInAll 3 = .ok (.istore_n 2, 1) := by decide +kernel
theorem dX4_dueInAll_4 : decode cX4_dueInAll 4 = .ok (.iload_n 2, 1) := by decide +kernel
theorem dX4_dueInAll_5 : decode cX4_dueInAll 5 = .ok (.iconst 3, 1) := by decide +kernel
theorem dX4_dueInAll_6 : decode cX4_dueInAll 6 = .ok (.if_icmp .ge 17, 3) := by decide +kernel
theorem dX4_dueInAll_9 : decode cX4_dueInAll 9 = .ok (.iload_n 1, 1) := by decide +kernel
theorem dX4_dueInAll_10 : decode cX4_dueInAll 10 = .ok (.aload_n 0, 1) := by decide +kernel
theorem dX4_dueInAll_11 : decode cX4_dueInAll 11 = .ok (.iload_n 2, 1) := by decide +kernel
theorem dX4_dueInAll_12 : decode cX4_dueInAll 12 = .ok (.invokevirtual 193, 3) := by decide +kernel
theorem dX4_dueInAll_15 : decode cX4_dueInAll 15 = .ok (.iadd, 1) := by decide +kernel
theorem dX4_dueInAll_16 : decode cX4_dueInAll 16 = .ok (.istore_n 1, 1) := by decide +kernel
theorem dX4_dueInAll_17 : decode cX4_dueInAll 17 = .ok (.iinc 2 1, 3) := by decide +kernel
theorem dX4_dueInAll_20 : decode cX4_dueInAll 20 = .ok (.goto (-16), 3) := by decide +kernel
theorem dX4_dueInAll_23 : decode cX4_dueInAll 23 = .ok (.iload_n 1, 1) := by decide +kernel
theorem dX4_dueInAll_24 : decode cX4_dueInAll 24 = .ok (.ireturn, 1) := by decide +kernel
set_option maxRecDepth 20000 in
theorem ggX4_leftOutstanding_X4_dueInAll : GoodIn wsX4_leftOutstanding wsX4_dueInAll := goodIn_r _ [7, 8, 9, 10, 6, 11, 12, 13, 14, 15, 16, 17, 18, 19, 20, 21, 22, 23, 24, 25, 26, 27, 28, 29, 30, 31, 32, 33, 34, 35, 36, 37, 38, 39, 40, 41, 42, 43, 44, 45, 46, 47, 48, 49, 50, 51, 52, 53, 54, 55, 56, 57, 58, 59, 60, 61, 62] (by decide +kernel) (by decide +kernel)
set_option maxRecDepth 20000 in
theorem gX4_leftOutstanding_X4_dueInAll : GoodIn wsX4_leftOutstanding (wsV RX4 187 RX4 yX4_dueInAll wsX4_dueInAll) := goodIn_app (goodIn_of _ (by decide +kernel)) ggX4_leftOutstanding_X4_dueInAll
theorem dX4_leftOutstanding_0 : decode cX4_leftOutstanding 0 = .ok (.aload_n 0, 1) := by decide +kernel
theorem dX4_leftOutstanding_1 : decode cX4_leftOutstanding 1 = .ok (.invokevirtual 187, 3) := by decide +kernel
theorem dX4_leftOutstanding_4 : decode cX4_leftOutstanding 4 = .ok (.aload_n 0, 1) := by decide +kernel
theorem dX4_leftOutstanding_5 : decode cX4_leftOutstanding 5 = .ok (.getfield 178, 3) := by decide +kernel
theorem dX4_leftOutstanding_8 : decode cX4_leftOutstanding 8 = .ok (.isub, 1) := by decide +kernel
theorem dX4_leftOutstanding_9 : decode cX4_leftOutstanding 9 = .ok (.aload_n 0, 1) := by decide +kernel
theorem dX4_leftOutstanding_10 : decode cX4_leftOutstanding 10 = .ok (.getfield 181, 3) := by decide +kernel
theorem dX4_leftOutstanding_13 : decode cX4_leftOutstanding 13 = .ok (.isub, 1) := by decide +kernel
theorem dX4_leftOutstanding_14 : decode cX4_leftOutstanding 14 = .ok (.ireturn, 1) := by decide +kernel
set_option maxRecDepth 20000 in
theorem ggX4_payOut_X4_leftOutstanding : GoodIn wsX4_payOut wsX4_leftOutstanding := goodIn_r _ [11, 6, 12, 13, 14, 15, 10, 16, 17, 18, 19, 20, 21, 22, 23, 24, 25, 26, 27, 28, 29, 30, 31, 32, 33, 34, 35, 36, 37, 38, 3, 4, 5, 39, 40, 41, 42, 43, 44, 64, 65, 66, 67, 68, 69, 70, 71, 72, 73, 74, 75, 76, 77, 78, 79, 80, 81, 82, 83, 84, 85, 86, 87] (by decide +kernel) (by decide +kernel)
set_option maxRecDepth 20000 in
theorem gX4_payOut_X4_leftOutstanding : GoodIn wsX4_payOut (wsV RX4 190 RX4 yX4_leftOutstanding wsX4_leftOutstanding) := goodIn_app (goodIn_of _ (by decide +kernel)) ggX4_payOut_X4_leftOutstanding
set_option maxRecDepth 20000 in
theorem ggX4_payOut_X4_free : GoodIn wsX4_payOut wsX4_free := goodIn_r _ [48, 49, 50, 22, 1, 51, 52, 53, 54, 55, 56, 57, 58, 59, 60, 61, 27, 62, 29, 31, 63, 64, 65, 66, 67, 68, 69, 70, 71, 72, 73, 74, 75, 76, 77, 88, 89, 83, 84, 85, 86, 87] (by decide +kernel) (by decide +kernel)
set_option maxRecDepth 20000 in
theorem gX4_payOut_X4_free : GoodIn wsX4_payOut (wsV RX4 131 RX4 yX4_free wsX4_free) := goodIn_app (goodIn_of _ (by decide +kernel)) ggX4_payOut_X4_free
theorem dX4_payOut_0 : decode cX4_payOut 0 = .ok (.aload_n 0, 1) := by decide +kernel
theorem dX4_payOut_1 : decode cX4_payOut 1 = .ok (.invokevirtual 190, 3) := by decide +kernel
theorem dX4_payOut_4 : decode cX4_payOut 4 = .ok (.aload_n 0, 1) := by decide +kernel
theorem dX4_payOut_5 : decode cX4_payOut 5 = .ok (.getfield 115, 3) := by decide +kernel
theorem dX4_payOut_8 : decode cX4_payOut 8 = .ok (.invokestatic 112, 3) := by decide +kernel
theorem dX4_payOut_11 : decode cX4_payOut 11 = .ok (.istore_n 1, 1) := by decide +kernel
theorem dX4_payOut_12 : decode cX4_payOut 12 = .ok (.aload_n 0, 1) := by decide +kernel
theorem dX4_payOut_13 : decode cX4_payOut 13 = .ok (.dup, 1) := by decide +kernel
theorem dX4_payOut_14 : decode cX4_payOut 14 = .ok (.getfield 115, 3) := by decide +kernel
theorem dX4_payOut_17 : decode cX4_payOut 17 = .ok (.iload_n 1, 1) := by decide +kernel
theorem dX4_payOut_18 : decode cX4_payOut 18 = .ok (.isub, 1) := by decide +kernel
theorem dX4_payOut_19 : decode cX4_payOut 19 = .ok (.putfield 115, 3) := by decide +kernel
theorem dX4_payOut_22 : decode cX4_payOut 22 = .ok (.aload_n 0, 1) := by decide +kernel
theorem dX4_payOut_23 : decode cX4_payOut 23 = .ok (.dup, 1) := by decide +kernel
theorem dX4_payOut_24 : decode cX4_payOut 24 = .ok (.getfield 178, 3) := by decide +kernel
theorem dX4_payOut_27 : decode cX4_payOut 27 = .ok (.iload_n 1, 1) := by decide +kernel
theorem dX4_payOut_28 : decode cX4_payOut 28 = .ok (.iadd, 1) := by decide +kernel
theorem dX4_payOut_29 : decode cX4_payOut 29 = .ok (.putfield 178, 3) := by decide +kernel
theorem dX4_payOut_32 : decode cX4_payOut 32 = .ok (.aload_n 0, 1) := by decide +kernel
theorem dX4_payOut_33 : decode cX4_payOut 33 = .ok (.invokevirtual 131, 3) := by decide +kernel
theorem dX4_payOut_36 : decode cX4_payOut 36 = .ok (.iload_n 1, 1) := by decide +kernel
theorem dX4_payOut_37 : decode cX4_payOut 37 = .ok (.ireturn, 1) := by decide +kernel
set_option maxRecDepth 20000 in
theorem ggX4_free_X2_totalAfter : GoodIn wsX4_free wsX2_totalAfter := goodIn_r _ [10, 11, 12, 35, 36] (by decide +kernel) (by decide +kernel)
set_option maxRecDepth 20000 in
theorem gX4_free_X2_totalAfter : GoodIn wsX4_free (wsV RX4 221 RX2 yX2_totalAfter wsX2_totalAfter) := goodIn_app (goodIn_of _ (by decide +kernel)) ggX4_free_X2_totalAfter
set_option maxRecDepth 20000 in
theorem ggX4_free_X0_openSum : GoodIn wsX4_free wsX0_openSum := goodIn_r _ [17, 18, 19, 20, 37, 38, 39, 40, 41] (by decide +kernel) (by decide +kernel)
set_option maxRecDepth 20000 in
theorem gX4_free_X0_openSum : GoodIn wsX4_free (wsV RX4 224 RX0 yX0_openSum wsX0_openSum) := goodIn_app (goodIn_of _ (by decide +kernel)) ggX4_free_X0_openSum
theorem dX4_free_0 : decode cX4_free 0 = .ok (.aload_n 0, 1) := by decide +kernel
theorem dX4_free_1 : decode cX4_free 1 = .ok (.getfield 10, 3) := by decide +kernel
theorem dX4_free_4 : decode cX4_free 4 = .ok (.aload_n 0, 1) := by decide +kernel
theorem dX4_free_5 : decode cX4_free 5 = .ok (.getfield 37, 3) := by decide +kernel
theorem dX4_free_8 : decode cX4_free 8 = .ok (.invokevirtual 221, 3) := by decide +kernel
theorem dX4_free_11 : decode cX4_free 11 = .ok (.aload_n 0, 1) := by decide +kernel
theorem dX4_free_12 : decode cX4_free 12 = .ok (.getfield 26, 3) := by decide +kernel
theorem dX4_free_15 : decode cX4_free 15 = .ok (.invokevirtual 224, 3) := by decide +kernel
theorem dX4_free_18 : decode cX4_free 18 = .ok (.iadd, 1) := by decide +kernel
theorem dX4_free_19 : decode cX4_free 19 = .ok (.istore_n 1, 1) := by decide +kernel
theorem dX4_free_20 : decode cX4_free 20 = .ok (.aload_n 0, 1) := by decide +kernel
theorem dX4_free_21 : decode cX4_free 21 = .ok (.getfield 115, 3) := by decide +kernel
theorem dX4_free_24 : decode cX4_free 24 = .ok (.iload_n 1, 1) := by decide +kernel
theorem dX4_free_25 : decode cX4_free 25 = .ok (.if_icmp .le 23, 3) := by decide +kernel
theorem dX4_free_28 : decode cX4_free 28 = .ok (.aload_n 0, 1) := by decide +kernel
theorem dX4_free_29 : decode cX4_free 29 = .ok (.dup, 1) := by decide +kernel
theorem dX4_free_30 : decode cX4_free 30 = .ok (.getfield 118, 3) := by decide +kernel
theorem dX4_free_33 : decode cX4_free 33 = .ok (.aload_n 0, 1) := by decide +kernel
theorem dX4_free_34 : decode cX4_free 34 = .ok (.getfield 115, 3) := by decide +kernel
theorem dX4_free_37 : decode cX4_free 37 = .ok (.iload_n 1, 1) := by decide +kernel
theorem dX4_free_38 : decode cX4_free 38 = .ok (.isub, 1) := by decide +kernel
theorem dX4_free_39 : decode cX4_free 39 = .ok (.iadd, 1) := by decide +kernel
theorem dX4_free_40 : decode cX4_free 40 = .ok (.putfield 118, 3) := by decide +kernel
theorem dX4_free_43 : decode cX4_free 43 = .ok (.aload_n 0, 1) := by decide +kernel
theorem dX4_free_44 : decode cX4_free 44 = .ok (.iload_n 1, 1) := by decide +kernel
theorem dX4_free_45 : decode cX4_free 45 = .ok (.putfield 115, 3) := by decide +kernel
theorem dX4_free_48 : decode cX4_free 48 = .ok (.return_, 1) := by decide +kernel
set_option maxRecDepth 20000 in
theorem ggX4_owe_X4_leftOutstanding : GoodIn wsX4_owe wsX4_leftOutstanding := goodIn_r _ [12, 13, 6, 14, 15, 16, 11, 17, 18, 19, 20, 21, 22, 23, 24, 25, 26, 27, 28, 29, 30, 31, 32, 33, 34, 35, 36, 37, 38, 39, 2, 3, 4, 40, 41, 42, 43, 44, 45, 46, 47, 48, 49, 50, 51, 52, 53, 54, 55, 56, 57, 58, 59, 60, 61, 62, 63, 64, 65, 66, 67, 68, 69] (by decide +kernel) (by decide +kernel)
set_option maxRecDepth 20000 in
theorem gX4_owe_X4_leftOutstanding : GoodIn wsX4_owe (wsV RX4 190 RX4 yX4_leftOutstanding wsX4_leftOutstanding) := goodIn_app (goodIn_of _ (by decide +kernel)) ggX4_owe_X4_leftOutstanding
theorem dX4_owe_0 : decode cX4_owe 0 = .ok (.iload_n 1, 1) := by decide +kernel
theorem dX4_owe_1 : decode cX4_owe 1 = .ok (.aload_n 0, 1) := by decide +kernel
theorem dX4_owe_2 : decode cX4_owe 2 = .ok (.invokevirtual 190, 3) := by decide +kernel
theorem dX4_owe_5 : decode cX4_owe 5 = .ok (.invokestatic 112, 3) := by decide +kernel
theorem dX4_owe_8 : decode cX4_owe 8 = .ok (.istore_n 2, 1) := by decide +kernel
theorem dX4_owe_9 : decode cX4_owe 9 = .ok (.aload_n 0, 1) := by decide +kernel
theorem dX4_owe_10 : decode cX4_owe 10 = .ok (.dup, 1) := by decide +kernel
theorem dX4_owe_11 : decode cX4_owe 11 = .ok (.getfield 184, 3) := by decide +kernel
theorem dX4_owe_14 : decode cX4_owe 14 = .ok (.iload_n 1, 1) := by decide +kernel
theorem dX4_owe_15 : decode cX4_owe 15 = .ok (.iadd, 1) := by decide +kernel
theorem dX4_owe_16 : decode cX4_owe 16 = .ok (.putfield 184, 3) := by decide +kernel
theorem dX4_owe_19 : decode cX4_owe 19 = .ok (.aload_n 0, 1) := by decide +kernel
theorem dX4_owe_20 : decode cX4_owe 20 = .ok (.dup, 1) := by decide +kernel
theorem dX4_owe_21 : decode cX4_owe 21 = .ok (.getfield 181, 3) := by decide +kernel
theorem dX4_owe_24 : decode cX4_owe 24 = .ok (.iload_n 2, 1) := by decide +kernel
theorem dX4_owe_25 : decode cX4_owe 25 = .ok (.iadd, 1) := by decide +kernel
theorem dX4_owe_26 : decode cX4_owe 26 = .ok (.putfield 181, 3) := by decide +kernel
theorem dX4_owe_29 : decode cX4_owe 29 = .ok (.aload_n 0, 1) := by decide +kernel
theorem dX4_owe_30 : decode cX4_owe 30 = .ok (.dup, 1) := by decide +kernel
theorem dX4_owe_31 : decode cX4_owe 31 = .ok (.getfield 118, 3) := by decide +kernel
theorem dX4_owe_34 : decode cX4_owe 34 = .ok (.iload_n 1, 1) := by decide +kernel
theorem dX4_owe_35 : decode cX4_owe 35 = .ok (.iload_n 2, 1) := by decide +kernel
theorem dX4_owe_36 : decode cX4_owe 36 = .ok (.isub, 1) := by decide +kernel
theorem dX4_owe_37 : decode cX4_owe 37 = .ok (.iadd, 1) := by decide +kernel
theorem dX4_owe_38 : decode cX4_owe 38 = .ok (.putfield 118, 3) := by decide +kernel
theorem dX4_owe_41 : decode cX4_owe 41 = .ok (.iload_n 1, 1) := by decide +kernel
theorem dX4_owe_42 : decode cX4_owe 42 = .ok (.ireturn, 1) := by decide +kernel
theorem dX5_init_0 : decode cX5_init 0 = .ok (.aload_n 0, 1) := by decide +kernel
theorem dX5_init_1 : decode cX5_init 1 = .ok (.invokespecial 1, 3) := by decide +kernel
theorem dX5_init_4 : decode cX5_init 4 = .ok (.aload_n 0, 1) := by decide +kernel
theorem dX5_init_5 : decode cX5_init 5 = .ok (.iconst 4, 1) := by decide +kernel
theorem dX5_init_6 : decode cX5_init 6 = .ok (.newarray .int, 2) := by decide +kernel
theorem dX5_init_8 : decode cX5_init 8 = .ok (.putfield 7, 3) := by decide +kernel
theorem dX5_init_11 : decode cX5_init 11 = .ok (.aload_n 0, 1) := by decide +kernel
theorem dX5_init_12 : decode cX5_init 12 = .ok (.iconst 4, 1) := by decide +kernel
theorem dX5_init_13 : decode cX5_init 13 = .ok (.newarray .int, 2) := by decide +kernel
theorem dX5_init_15 : decode cX5_init 15 = .ok (.putfield 13, 3) := by decide +kernel
theorem dX5_init_18 : decode cX5_init 18 = .ok (.aload_n 0, 1) := by decide +kernel
theorem dX5_init_19 : decode cX5_init 19 = .ok (.iconst 3, 1) := by decide +kernel
theorem dX5_init_20 : decode cX5_init 20 = .ok (.newarray .int, 2) := by decide +kernel
theorem dX5_init_22 : decode cX5_init 22 = .ok (.putfield 16, 3) := by decide +kernel
theorem dX5_init_25 : decode cX5_init 25 = .ok (.aload_n 0, 1) := by decide +kernel
theorem dX5_init_26 : decode cX5_init 26 = .ok (.iconst 3, 1) := by decide +kernel
theorem dX5_init_27 : decode cX5_init 27 = .ok (.newarray .int, 2) := by decide +kernel
theorem dX5_init_29 : decode cX5_init 29 = .ok (.putfield 19, 3) := by decide +kernel
theorem dX5_init_32 : decode cX5_init 32 = .ok (.aload_n 0, 1) := by decide +kernel
theorem dX5_init_33 : decode cX5_init 33 = .ok (.iconst 3, 1) := by decide +kernel
theorem dX5_init_34 : decode cX5_init 34 = .ok (.newarray .boolean, 2) := by decide +kernel
theorem dX5_init_36 : decode cX5_init 36 = .ok (.putfield 22, 3) := by decide +kernel
theorem dX5_init_39 : decode cX5_init 39 = .ok (.aload_n 0, 1) := by decide +kernel
theorem dX5_init_40 : decode cX5_init 40 = .ok (.iconst 3, 1) := by decide +kernel
theorem dX5_init_41 : decode cX5_init 41 = .ok (.newarray .int, 2) := by decide +kernel
theorem dX5_init_43 : decode cX5_init 43 = .ok (.putfield 26, 3) := by decide +kernel
theorem dX5_init_46 : decode cX5_init 46 = .ok (.aload_n 0, 1) := by decide +kernel
theorem dX5_init_47 : decode cX5_init 47 = .ok (.iconst 3, 1) := by decide +kernel
theorem dX5_init_48 : decode cX5_init 48 = .ok (.newarray .int, 2) := by decide +kernel
theorem dX5_init_50 : decode cX5_init 50 = .ok (.putfield 29, 3) := by decide +kernel
theorem dX5_init_53 : decode cX5_init 53 = .ok (.aload_n 0, 1) := by decide +kernel
theorem dX5_init_54 : decode cX5_init 54 = .ok (.iconst 4, 1) := by decide +kernel
theorem dX5_init_55 : decode cX5_init 55 = .ok (.newarray .int, 2) := by decide +kernel
theorem dX5_init_57 : decode cX5_init 57 = .ok (.putfield 32, 3) := by decide +kernel
theorem dX5_init_60 : decode cX5_init 60 = .ok (.aload_n 0, 1) := by decide +kernel
theorem dX5_init_61 : decode cX5_init 61 = .ok (.iconst 4, 1) := by decide +kernel
theorem dX5_init_62 : decode cX5_init 62 = .ok (.newarray .int, 2) := by decide +kernel
theorem dX5_init_64 : decode cX5_init 64 = .ok (.putfield 35, 3) := by decide +kernel
theorem dX5_init_67 : decode cX5_init 67 = .ok (.aload_n 0, 1) := by decide +kernel
theorem dX5_init_68 : decode cX5_init 68 = .ok (.bipush 20, 2) := by decide +kernel
theorem dX5_init_70 : decode cX5_init 70 = .ok (.newarray .int, 2) := by decide +kernel
theorem dX5_init_72 : decode cX5_init 72 = .ok (.putfield 38, 3) := by decide +kernel
theorem dX5_init_75 : decode cX5_init 75 = .ok (.aload_n 0, 1) := by decide +kernel
theorem dX5_init_76 : decode cX5_init 76 = .ok (.bipush 20, 2) := by decide +kernel
theorem dX5_init_78 : decode cX5_init 78 = .ok (.newarray .int, 2) := by decide +kernel
theorem dX5_init_80 : decode cX5_init 80 = .ok (.putfield 41, 3) := by decide +kernel
theorem dX5_init_83 : decode cX5_init 83 = .ok (.aload_n 0, 1) := by decide +kernel
theorem dX5_init_84 : decode cX5_init 84 = .ok (.bipush 20, 2) := by decide +kernel
theorem dX5_init_86 : decode cX5_init 86 = .ok (.newarray .int, 2) := by decide +kernel
theorem dX5_init_88 : decode cX5_init 88 = .ok (.putfield 44, 3) := by decide +kernel
theorem dX5_init_91 : decode cX5_init 91 = .ok (.aload_n 0, 1) := by decide +kernel
theorem dX5_init_92 : decode cX5_init 92 = .ok (.bipush 20, 2) := by decide +kernel
theorem dX5_init_94 : decode cX5_init 94 = .ok (.newarray .int, 2) := by decide +kernel
theorem dX5_init_96 : decode cX5_init 96 = .ok (.putfield 47, 3) := by decide +kernel
theorem dX5_init_99 : decode cX5_init 99 = .ok (.aload_n 0, 1) := by decide +kernel
theorem dX5_init_100 : decode cX5_init 100 = .ok (.iconst 4, 1) := by decide +kernel
theorem dX5_init_101 : decode cX5_init 101 = .ok (.newarray .int, 2) := by decide +kernel
theorem dX5_init_103 : decode cX5_init 103 = .ok (.putfield 50, 3) := by decide +kernel
theorem dX5_init_106 : decode cX5_init 106 = .ok (.aload_n 0, 1) := by decide +kernel
theorem dX5_init_107 : decode cX5_init 107 = .ok (.iconst 4, 1) := by decide +kernel
theorem dX5_init_108 : decode cX5_init 108 = .ok (.newarray .boolean, 2) := by decide +kernel
theorem dX5_init_110 : decode cX5_init 110 = .ok (.putfield 53, 3) := by decide +kernel
theorem dX5_init_113 : decode cX5_init 113 = .ok (.return_, 1) := by decide +kernel
theorem dX5_thrown_0 : decode cX5_thrown 0 = .ok (.aload_n 0, 1) := by decide +kernel
theorem dX5_thrown_1 : decode cX5_thrown 1 = .ok (.getfield 56, 3) := by decide +kernel
theorem dX5_thrown_4 : decode cX5_thrown 4 = .ok (.ireturn, 1) := by decide +kernel
theorem dX5_in_0 : decode cX5_in 0 = .ok (.iload_n 0, 1) := by decide +kernel
theorem dX5_in_1 : decode cX5_in 1 = .ok (.iload_n 1, 1) := by decide +kernel
theorem dX5_in_2 : decode cX5_in 2 = .ok (.if_icmp .lt 12, 3) := by decide +kernel
theorem dX5_in_5 : decode cX5_in 5 = .ok (.iload_n 0, 1) := by decide +kernel
theorem dX5_in_6 : decode cX5_in 6 = .ok (.iload_n 2, 1) := by decide +kernel
theorem dX5_in_7 : decode cX5_in 7 = .ok (.if_icmp .gt 7, 3) := by decide +kernel
theorem dX5_in_10 : decode cX5_in 10 = .ok (.iconst 1, 1) := by decide +kernel
theorem dX5_in_11 : decode cX5_in 11 = .ok (.goto 4, 3) := by decide +kernel
theorem dX5_in_14 : decode cX5_in 14 = .ok (.iconst 0, 1) := by decide +kernel
theorem dX5_in_15 : decode cX5_in 15 = .ok (.ireturn, 1) := by decide +kernel
theorem dX5_isFine_0 : decode cX5_isFine 0 = .ok (.aload_n 0, 1) := by decide +kernel
theorem dX5_isFine_1 : decode cX5_isFine 1 = .ok (.iload_n 1, 1) := by decide +kernel
theorem dX5_isFine_2 : decode cX5_isFine 2 = .ok (.putfield 56, 3) := by decide +kernel
theorem dX5_isFine_5 : decode cX5_isFine 5 = .ok (.iload_n 1, 1) := by decide +kernel
theorem dX5_isFine_6 : decode cX5_isFine 6 = .ok (.ifCond .ne 7, 3) := by decide +kernel
theorem dX5_isFine_9 : decode cX5_isFine 9 = .ok (.iconst 1, 1) := by decide +kernel
theorem dX5_isFine_10 : decode cX5_isFine 10 = .ok (.goto 4, 3) := by decide +kernel
theorem dX5_isFine_13 : decode cX5_isFine 13 = .ok (.iconst 0, 1) := by decide +kernel
theorem dX5_isFine_14 : decode cX5_isFine 14 = .ok (.ireturn, 1) := by decide +kernel
set_option maxRecDepth 20000 in
theorem ggX5_setPrice_X5_in : GoodIn wsX5_setPrice wsX5_in := goodIn_r _ [10] (by decide +kernel) (by decide +kernel)
set_option maxRecDepth 20000 in
theorem gX5_setPrice_X5_in : GoodIn wsX5_setPrice (va_wsS RX5 61 yX5_in wsX5_in) := goodIn_app (goodIn_of _ (by decide +kernel)) ggX5_setPrice_X5_in
set_option maxRecDepth 20000 in
theorem ggX5_setPrice_X5_isFine : GoodIn wsX5_setPrice wsX5_isFine := goodIn_r _ [14, 15, 16, 17, 18, 19, 20, 21, 22, 23, 24, 25, 26, 27, 28, 29, 30, 31, 32, 33, 34, 35, 36, 37, 38, 39, 40, 41, 42, 43, 44, 45, 46] (by decide +kernel) (by decide +kernel)
set_option maxRecDepth 20000 in
theorem gX5_setPrice_X5_isFine : GoodIn wsX5_setPrice (wsV RX5 70 RX5 yX5_isFine wsX5_isFine) := goodIn_app (goodIn_of _ (by decide +kernel)) ggX5_setPrice_X5_isFine
theorem dX5_setPrice_0 : decode cX5_setPrice 0 = .ok (.aload_n 0, 1) := by decide +kernel
theorem dX5_setPrice_1 : decode cX5_setPrice 1 = .ok (.iload_n 1, 1) := by decide +kernel
theorem dX5_setPrice_2 : decode cX5_setPrice 2 = .ok (.iconst 0, 1) := by decide +kernel
theorem dX5_setPrice_3 : decode cX5_setPrice 3 = .ok (.ldc 60, 2) := by decide +kernel
theorem dX5_setPrice_5 : decode cX5_setPrice 5 = .ok (.invokestatic 61, 3) := by decide +kernel
theorem dX5_setPrice_8 : decode cX5_setPrice 8 = .ok (.ifCond .eq 24, 3) := by decide +kernel
theorem dX5_setPrice_11 : decode cX5_setPrice 11 = .ok (.iload_n 2, 1) := by decide +kernel
theorem dX5_setPrice_12 : decode cX5_setPrice 12 = .ok (.ldc 65, 2) := by decide +kernel
theorem dX5_setPrice_14 : decode cX5_setPrice 14 = .ok (.ldc 60, 2) := by decide +kernel
theorem dX5_setPrice_16 : decode cX5_setPrice 16 = .ok (.invokestatic 61, 3) := by decide +kernel
theorem dX5_setPrice_19 : decode cX5_setPrice 19 = .ok (.ifCond .eq 13, 3) := by decide +kernel
theorem dX5_setPrice_22 : decode cX5_setPrice 22 = .ok (.iload_n 3, 1) := by decide +kernel
theorem dX5_setPrice_23 : decode cX5_setPrice 23 = .ok (.iconst 0, 1) := by decide +kernel
theorem dX5_setPrice_24 : decode cX5_setPrice 24 = .ok (.ldc 60, 2) := by decide +kernel
theorem dX5_setPrice_26 : decode cX5_setPrice 26 = .ok (.invokestatic 61, 3) := by decide +kernel
theorem dX5_setPrice_29 : decode cX5_setPrice 29 = .ok (.ifCond .ne 7, 3) := by decide +kernel
theorem dX5_setPrice_32 : decode cX5_setPrice 32 = .ok (.iconst 1, 1) := by decide +kernel
theorem dX5_setPrice_33 : decode cX5_setPrice 33 = .ok (.goto 15, 3) := by decide +kernel
theorem dX5_setPrice_36 : decode cX5_setPrice 36 = .ok (.aload_n 0, 1) := by decide +kernel
theorem dX5_setPrice_37 : decode cX5_setPrice 37 = .ok (.getfield 66, 3) := by decide +kernel
theorem dX5_setPrice_40 : decode cX5_setPrice 40 = .ok (.ifCond .eq 7, 3) := by decide +kernel
theorem dX5_setPrice_43 : decode cX5_setPrice 43 = .ok (.iconst 2, 1) := by decide +kernel
theorem dX5_setPrice_44 : decode cX5_setPrice 44 = .ok (.goto 4, 3) := by decide +kernel
theorem dX5_setPrice_47 : decode cX5_setPrice 47 = .ok (.iconst 0, 1) := by decide +kernel
theorem dX5_setPrice_48 : decode cX5_setPrice 48 = .ok (.invokevirtual 70, 3) := by decide +kernel
theorem dX5_setPrice_51 : decode cX5_setPrice 51 = .ok (.ifCond .eq 18, 3) := by decide +kernel
theorem dX5_setPrice_54 : decode cX5_setPrice 54 = .ok (.aload_n 0, 1) := by decide +kernel
theorem dX5_setPrice_55 : decode cX5_setPrice 55 = .ok (.iload_n 1, 1) := by decide +kernel
theorem dX5_setPrice_56 : decode cX5_setPrice 56 = .ok (.putfield 74, 3) := by decide +kernel
theorem dX5_setPrice_59 : decode cX5_setPrice 59 = .ok (.aload_n 0, 1) := by decide +kernel
theorem dX5_setPrice_60 : decode cX5_setPrice 60 = .ok (.iload_n 2, 1) := by decide +kernel
theorem dX5_setPrice_61 : decode cX5_setPrice 61 = .ok (.putfield 77, 3) := by decide +kernel
theorem dX5_setPrice_64 : decode cX5_setPrice 64 = .ok (.aload_n 0, 1) := by decide +kernel
theorem dX5_setPrice_65 : decode cX5_setPrice 65 = .ok (.iload_n 3, 1) := by decide +kernel
theorem dX5_setPrice_66 : decode cX5_setPrice 66 = .ok (.putfield 80, 3) := by decide +kernel
theorem dX5_setPrice_69 : decode cX5_setPrice 69 = .ok (.return_, 1) := by decide +kernel
set_option maxRecDepth 20000 in
theorem ggX5_setPart_X5_in : GoodIn wsX5_setPart wsX5_in := goodIn_r _ [8] (by decide +kernel) (by decide +kernel)
set_option maxRecDepth 20000 in
theorem gX5_setPart_X5_in : GoodIn wsX5_setPart (va_wsS RX5 61 yX5_in wsX5_in) := goodIn_app (goodIn_of _ (by decide +kernel)) ggX5_setPart_X5_in
set_option maxRecDepth 20000 in
theorem ggX5_setPart_X5_isFine : GoodIn wsX5_setPart wsX5_isFine := goodIn_r _ [12, 13, 14, 15, 16, 17, 18, 19, 20, 21, 22, 23, 24, 25, 26, 27, 28, 29, 30, 31, 32, 33, 34, 35, 36, 37, 38, 39, 40, 41, 42, 43, 44] (by decide +kernel) (by decide +kernel)
set_option maxRecDepth 20000 in
theorem gX5_setPart_X5_isFine : GoodIn wsX5_setPart (wsV RX5 70 RX5 yX5_isFine wsX5_isFine) := goodIn_app (goodIn_of _ (by decide +kernel)) ggX5_setPart_X5_isFine
theorem dX5_setPart_0 : decode cX5_setPart 0 = .ok (.aload_n 0, 1) := by decide +kernel
theorem dX5_setPart_1 : decode cX5_setPart 1 = .ok (.iload_n 1, 1) := by decide +kernel
theorem dX5_setPart_2 : decode cX5_setPart 2 = .ok (.iconst 0, 1) := by decide +kernel
theorem dX5_setPart_3 : decode cX5_setPart 3 = .ok (.iconst 3, 1) := by decide +kernel
theorem dX5_setPart_4 : decode cX5_setPart 4 = .ok (.invokestatic 61, 3) := by decide +kernel
theorem dX5_setPart_7 : decode cX5_setPart 7 = .ok (.ifCond .ne 7, 3) := by decide +kernel
theorem dX5_setPart_10 : decode cX5_setPart 10 = .ok (.iconst 1, 1) := by decide +kernel
theorem dX5_setPart_11 : decode cX5_setPart 11 = .ok (.goto 40, 3) := by decide +kernel
theorem dX5_setPart_14 : decode cX5_setPart 14 = .ok (.iload_n 2, 1) := by decide +kernel
theorem dX5_setPart_15 : decode cX5_setPart 15 = .ok (.iconst 0, 1) := by decide +kernel
theorem dX5_setPart_16 : decode cX5_setPart 16 = .ok (.ldc 60, 2) := by decide +kernel
theorem dX5_setPart_18 : decode cX5_setPart 18 = .ok (.invokestatic 61, 3) := by decide +kernel
theorem dX5_setPart_21 : decode cX5_setPart 21 = .ok (.ifCond .eq 14, 3) := by decide +kernel
theorem dX5_setPart_24 : decode cX5_setPart 24 = .ok (.iload_n 3, 1) := by decide +kernel
theorem dX5_setPart_25 : decode cX5_setPart 25 = .ok (.iconst 1, 1) := by decide +kernel
theorem dX5_setPart_26 : decode cX5_setPart 26 = .ok (.sipush 2000, 3) := by decide +kernel
theorem dX5_setPart_29 : decode cX5_setPart 29 = .ok (.invokestatic 61, 3) := by decide +kernel
theorem dX5_setPart_32 : decode cX5_setPart 32 = .ok (.ifCond .ne 7, 3) := by decide +kernel
theorem dX5_setPart_35 : decode cX5_setPart 35 = .ok (.iconst 2, 1) := by decide +kernel
theorem dX5_setPart_36 : decode cX5_setPart 36 = .ok (.goto 15, 3) := by decide +kernel
theorem dX5_setPart_39 : decode cX5_setPart 39 = .ok (.aload_n 0, 1) := by decide +kernel
theorem dX5_setPart_40 : decode cX5_setPart 40 = .ok (.getfield 66, 3) := by decide +kernel
theorem dX5_setPart_43 : decode cX5_setPart 43 = .ok (.ifCond .eq 7, 3) := by decide +kernel
theorem dX5_setPart_46 : decode cX5_setPart 46 = .ok (.iconst 3, 1) := by decide +kernel
theorem dX5_setPart_47 : decode cX5_setPart 47 = .ok (.goto 4, 3) := by decide +kernel
theorem dX5_setPart_50 : decode cX5_setPart 50 = .ok (.iconst 0, 1) := by decide +kernel
theorem dX5_setPart_51 : decode cX5_setPart 51 = .ok (.invokevirtual 70, 3) := by decide +kernel
theorem dX5_setPart_54 : decode cX5_setPart 54 = .ok (.ifCond .eq 17, 3) := by decide +kernel
theorem dX5_setPart_57 : decode cX5_setPart 57 = .ok (.aload_n 0, 1) := by decide +kernel
theorem dX5_setPart_58 : decode cX5_setPart 58 = .ok (.getfield 7, 3) := by decide +kernel
theorem dX5_setPart_61 : decode cX5_setPart 61 = .ok (.iload_n 1, 1) := by decide +kernel
theorem dX5_setPart_62 : decode cX5_setPart 62 = .ok (.iload_n 2, 1) := by decide +kernel
theorem dX5_setPart_63 : decode cX5_setPart 63 = .ok (.iastore, 1) := by decide +kernel
theorem dX5_setPart_64 : decode cX5_setPart 64 = .ok (.aload_n 0, 1) := by decide +kernel
theorem dX5_setPart_65 : decode cX5_setPart 65 = .ok (.getfield 13, 3) := by decide +kernel
theorem dX5_setPart_68 : decode cX5_setPart 68 = .ok (.iload_n 1, 1) := by decide +kernel
theorem dX5_setPart_69 : decode cX5_setPart 69 = .ok (.iload_n 3, 1) := by decide +kernel
theorem dX5_setPart_70 : decode cX5_setPart 70 = .ok (.iastore, 1) := by decide +kernel
theorem dX5_setPart_71 : decode cX5_setPart 71 = .ok (.return_, 1) := by decide +kernel
set_option maxRecDepth 20000 in
theorem ggX5_setKind_X5_in : GoodIn wsX5_setKind wsX5_in := goodIn_r _ [12] (by decide +kernel) (by decide +kernel)
set_option maxRecDepth 20000 in
theorem gX5_setKind_X5_in : GoodIn wsX5_setKind (va_wsS RX5 61 yX5_in wsX5_in) := goodIn_app (goodIn_of _ (by decide +kernel)) ggX5_setKind_X5_in
set_option maxRecDepth 20000 in
theorem ggX5_setKind_X5_isFine : GoodIn wsX5_setKind wsX5_isFine := goodIn_r _ [16, 17, 18, 19, 20, 21, 22, 23, 24, 25, 26, 27, 28, 29, 30, 31, 32, 33, 34, 35, 36, 37, 38, 39, 40, 41, 42, 43, 44, 45, 46, 47, 48] (by decide +kernel) (by decide +kernel)
set_option maxRecDepth 20000 in
theorem gX5_setKind_X5_isFine : GoodIn wsX5_setKind (wsV RX5 70 RX5 yX5_isFine wsX5_isFine) := goodIn_app (goodIn_of _ (by decide +kernel)) ggX5_setKind_X5_isFine
theorem dX5_setKind_0 : decode cX5_setKind 0 = .ok (.iload_n 2, 1) := by decide +kernel
theorem dX5_setKind_1 : decode cX5_setKind 1 = .ok (.iconst 0, 1) := by decide +kernel
theorem dX5_setKind_2 : decode cX5_setKind 2 = .ok (.ldc 60, 2) := by decide +kernel
theorem dX5_setKind_4 : decode cX5_setKind 4 = .ok (.invokestatic 61, 3) := by decide +kernel
theorem dX5_setKind_7 : decode cX5_setKind 7 = .ok (.ifCond .eq 40, 3) := by decide +kernel
theorem dX5_setKind_10 : decode cX5_setKind 10 = .ok (.iload_n 3, 1) := by decide +kernel
theorem dX5_setKind_11 : decode cX5_setKind 11 = .ok (.iconst 0, 1) := by decide +kernel
theorem dX5_setKind_12 : decode cX5_setKind 12 = .ok (.ldc 60, 2) := by decide +kernel
theorem dX5_setKind_14 : decode cX5_setKind 14 = .ok (.invokestatic 61, 3) := by decide +kernel
theorem dX5_setKind_17 : decode cX5_setKind 17 = .ok (.ifCond .eq 30, 3) := by decide +kernel
theorem dX5_setKind_20 : decode cX5_setKind 20 = .ok (.iload 5, 2) := by decide +kernel
theorem dX5_setKind_22 : decode cX5_setKind 22 = .ok (.iconst 0, 1) := by decide +kernel
theorem dX5_setKind_23 : decode cX5_setKind 23 = .ok (.ldc 83, 2) := by decide +kernel
theorem dX5_setKind_25 : decode cX5_setKind 25 = .ok (.invokestatic 61, 3) := by decide +kernel
theorem dX5_setKind_28 : decode cX5_setKind 28 = .ok (.ifCond .eq 19, 3) := by decide +kernel
theorem dX5_setKind_31 : decode cX5_setKind 31 = .ok (.iload 6, 2) := by decide +kernel
theorem dX5_setKind_33 : decode cX5_setKind 33 = .ok (.iconst 0, 1) := by decide +kernel
theorem dX5_setKind_34 : decode cX5_setKind 34 = .ok (.sipush 2000, 3) := by decide +kernel
theorem dX5_setKind_37 : decode cX5_setKind 37 = .ok (.invokestatic 61, 3) := by decide +kernel
theorem dX5_setKind_40 : decode cX5_setKind 40 = .ok (.ifCond .eq 7, 3) := by decide +kernel
theorem dX5_setKind_43 : decode cX5_setKind 43 = .ok (.iconst 1, 1) := by decide +kernel
theorem dX5_setKind_44 : decode cX5_setKind 44 = .ok (.goto 4, 3) := by decide +kernel
theorem dX5_setKind_47 : decode cX5_setKind 47 = .ok (.iconst 0, 1) := by decide +kernel
theorem dX5_setKind_48 : decode cX5_setKind 48 = .ok (.istore 7, 2) := by decide +kernel
theorem dX5_setKind_50 : decode cX5_setKind 50 = .ok (.aload_n 0, 1) := by decide +kernel
theorem dX5_setKind_51 : decode cX5_setKind 51 = .ok (.iload_n 1, 1) := by decide +kernel
theorem dX5_setKind_52 : decode cX5_setKind 52 = .ok (.iconst 0, 1) := by decide +kernel
theorem dX5_setKind_53 : decode cX5_setKind 53 = .ok (.iconst 2, 1) := by decide +kernel
theorem dX5_setKind_54 : decode cX5_setKind 54 = .ok (.invokestatic 61, 3) := by decide +kernel
theorem dX5_setKind_57 : decode cX5_setKind 57 = .ok (.ifCond .ne 7, 3) := by decide +kernel
theorem dX5_setKind_60 : decode cX5_setKind 60 = .ok (.iconst 1, 1) := by decide +kernel
theorem dX5_setKind_61 : decode cX5_setKind 61 = .ok (.goto 24, 3) := by decide +kernel
theorem dX5_setKind_64 : decode cX5_setKind 64 = .ok (.iload 7, 2) := by decide +kernel
theorem dX5_setKind_66 : decode cX5_setKind 66 = .ok (.ifCond .ne 7, 3) := by decide +kernel
theorem dX5_setKind_69 : decode cX5_setKind 69 = .ok (.iconst 2, 1) := by decide +kernel
theorem dX5_setKind_70 : decode cX5_setKind 70 = .ok (.goto 15, 3) := by decide +kernel
theorem dX5_setKind_73 : decode cX5_setKind 73 = .ok (.aload_n 0, 1) := by decide +kernel
theorem dX5_setKind_74 : decode cX5_setKind 74 = .ok (.getfield 66, 3) := by decide +kernel
theorem dX5_setKind_77 : decode cX5_setKind 77 = .ok (.ifCond .eq 7, 3) := by decide +kernel
theorem dX5_setKind_80 : decode cX5_setKind 80 = .ok (.iconst 3, 1) := by decide +kernel
theorem dX5_setKind_81 : decode cX5_setKind 81 = .ok (.goto 4, 3) := by decide +kernel
theorem dX5_setKind_84 : decode cX5_setKind 84 = .ok (.iconst 0, 1) := by decide +kernel
theorem dX5_setKind_85 : decode cX5_setKind 85 = .ok (.invokevirtual 70, 3) := by decide +kernel
theorem dX5_setKind_88 : decode cX5_setKind 88 = .ok (.ifCond .eq 41, 3) := by decide +kernel
theorem dX5_setKind_91 : decode cX5_setKind 91 = .ok (.aload_n 0, 1) := by decide +kernel
theorem dX5_setKind_92 : decode cX5_setKind 92 = .ok (.getfield 16, 3) := by decide +kernel
theorem dX5_setKind_95 : decode cX5_setKind 95 = .ok (.iload_n 1, 1) := by decide +kernel
theorem dX5_setKind_96 : decode cX5_setKind 96 = .ok (.iload_n 2, 1) := by decide +kernel
theorem dX5_setKind_97 : decode cX5_setKind 97 = .ok (.iastore, 1) := by decide +kernel
theorem dX5_setKind_98 : decode cX5_setKind 98 = .ok (.aload_n 0, 1) := by decide +kernel
theorem dX5_setKind_99 : decode cX5_setKind 99 = .ok (.getfield 19, 3) := by decide +kernel
theorem dX5_setKind_102 : decode cX5_setKind 102 = .ok (.iload_n 1, 1) := by decide +kernel
theorem dX5_setKind_103 : decode cX5_setKind 103 = .ok (.iload_n 3, 1) := by decide +kernel
theorem dX5_setKind_104 : decode cX5_setKind 104 = .ok (.iastore, 1) := by decide +kernel
theorem dX5_setKind_105 : decode cX5_setKind 105 = .ok (.aload_n 0, 1) := by decide +kernel
theorem dX5_setKind_106 : decode cX5_setKind 106 = .ok (.getfield 22, 3) := by decide +kernel
theorem dX5_setKind_109 : decode cX5_setKind 109 = .ok (.iload_n 1, 1) := by decide +kernel
theorem dX5_setKind_110 : decode cX5_setKind 110 = .ok (.iload 4, 2) := by decide +kernel
theorem dX5_setKind_112 : decode cX5_setKind 112 = .ok (.bastore, 1) := by decide +kernel
theorem dX5_setKind_113 : decode cX5_setKind 113 = .ok (.aload_n 0, 1) := by decide +kernel
theorem dX5_setKind_114 : decode cX5_setKind 114 = .ok (.getfield 26, 3) := by decide +kernel
theorem dX5_setKind_117 : decode cX5_setKind 117 = .ok (.iload_n 1, 1) := by decide +kernel
theorem dX5_setKind_118 : decode cX5_setKind 118 = .ok (.iload 5, 2) := by decide +kernel
theorem dX5_setKind_120 : decode cX5_setKind 120 = .ok (.iastore, 1) := by decide +kernel
theorem dX5_setKind_121 : decode cX5_setKind 121 = .ok (.aload_n 0, 1) := by decide +kernel
theorem dX5_setKind_122 : decode cX5_setKind 122 = .ok (.getfield 29, 3) := by decide +kernel
theorem dX5_setKind_125 : decode cX5_setKind 125 = .ok (.iload_n 1, 1) := by decide +kernel
theorem dX5_setKind_126 : decode cX5_setKind 126 = .ok (.iload 6, 2) := by decide +kernel
theorem dX5_setKind_128 : decode cX5_setKind 128 = .ok (.iastore, 1) := by decide +kernel
theorem dX5_setKind_129 : decode cX5_setKind 129 = .ok (.return_, 1) := by decide +kernel
set_option maxRecDepth 20000 in
theorem ggX5_setYear_X5_in : GoodIn wsX5_setYear wsX5_in := goodIn_r _ [8] (by decide +kernel) (by decide +kernel)
set_option maxRecDepth 20000 in
theorem gX5_setYear_X5_in : GoodIn wsX5_setYear (va_wsS RX5 61 yX5_in wsX5_in) := goodIn_app (goodIn_of _ (by decide +kernel)) ggX5_setYear_X5_in
set_option maxRecDepth 20000 in
theorem ggX5_setYear_X5_isFine : GoodIn wsX5_setYear wsX5_isFine := goodIn_r _ [12, 13, 14, 15, 16, 17, 18, 19, 20, 21, 22, 23, 24, 25, 26, 27, 28, 29, 30, 31, 32, 33, 34, 35, 36, 37, 38, 39, 40, 41, 42, 43, 44] (by decide +kernel) (by decide +kernel)
set_option maxRecDepth 20000 in
theorem gX5_setYear_X5_isFine : GoodIn wsX5_setYear (wsV RX5 70 RX5 yX5_isFine wsX5_isFine) := goodIn_app (goodIn_of _ (by decide +kernel)) ggX5_setYear_X5_isFine
theorem dX5_setYear_0 : decode cX5_setYear 0 = .ok (.aload_n 0, 1) := by decide +kernel
theorem dX5_setYear_1 : decode cX5_setYear 1 = .ok (.iload_n 1, 1) := by decide +kernel
theorem dX5_setYear_2 : decode cX5_setYear 2 = .ok (.iconst 0, 1) := by decide +kernel
theorem dX5_setYear_3 : decode cX5_setYear 3 = .ok (.iconst 3, 1) := by decide +kernel
theorem dX5_setYear_4 : decode cX5_setYear 4 = .ok (.invokestatic 61, 3) := by decide +kernel
theorem dX5_setYear_7 : decode cX5_setYear 7 = .ok (.ifCond .ne 7, 3) := by decide +kernel
theorem dX5_setYear_10 : decode cX5_setYear 10 = .ok (.iconst 1, 1) := by decide +kernel
theorem dX5_setYear_11 : decode cX5_setYear 11 = .ok (.goto 39, 3) := by decide +kernel
theorem dX5_setYear_14 : decode cX5_setYear 14 = .ok (.iload_n 2, 1) := by decide +kernel
theorem dX5_setYear_15 : decode cX5_setYear 15 = .ok (.iconst 0, 1) := by decide +kernel
theorem dX5_setYear_16 : decode cX5_setYear 16 = .ok (.ldc 60, 2) := by decide +kernel
theorem dX5_setYear_18 : decode cX5_setYear 18 = .ok (.invokestatic 61, 3) := by decide +kernel
theorem dX5_setYear_21 : decode cX5_setYear 21 = .ok (.ifCond .eq 13, 3) := by decide +kernel
theorem dX5_setYear_24 : decode cX5_setYear 24 = .ok (.iload_n 3, 1) := by decide +kernel
theorem dX5_setYear_25 : decode cX5_setYear 25 = .ok (.iconst 0, 1) := by decide +kernel
theorem dX5_setYear_26 : decode cX5_setYear 26 = .ok (.ldc 60, 2) := by decide +kernel
theorem dX5_setYear_28 : decode cX5_setYear 28 = .ok (.invokestatic 61, 3) := by decide +kernel
theorem dX5_setYear_31 : decode cX5_setYear 31 = .ok (.ifCond .ne 7, 3) := by decide +kernel
theorem dX5_setYear_34 : decode cX5_setYear 34 = .ok (.iconst 2, 1) := by decide +kernel
theorem dX5_setYear_35 : decode cX5_setYear 35 = .ok (.goto 15, 3) := by decide +kernel
theorem dX5_setYear_38 : decode cX5_setYear 38 = .ok (.aload_n 0, 1) := by decide +kernel
theorem dX5_setYear_39 : decode cX5_setYear 39 = .ok (.getfield 66, 3) := by decide +kernel
theorem dX5_setYear_42 : decode cX5_setYear 42 = .ok (.ifCond .eq 7, 3) := by decide +kernel
theorem dX5_setYear_45 : decode cX5_setYear 45 = .ok (.iconst 3, 1) := by decide +kernel
theorem dX5_setYear_46 : decode cX5_setYear 46 = .ok (.goto 4, 3) := by decide +kernel
theorem dX5_setYear_49 : decode cX5_setYear 49 = .ok (.iconst 0, 1) := by decide +kernel
theorem dX5_setYear_50 : decode cX5_setYear 50 = .ok (.invokevirtual 70, 3) := by decide +kernel
theorem dX5_setYear_53 : decode cX5_setYear 53 = .ok (.ifCond .eq 17, 3) := by decide +kernel
theorem dX5_setYear_56 : decode cX5_setYear 56 = .ok (.aload_n 0, 1) := by decide +kernel
theorem dX5_setYear_57 : decode cX5_setYear 57 = .ok (.getfield 32, 3) := by decide +kernel
theorem dX5_setYear_60 : decode cX5_setYear 60 = .ok (.iload_n 1, 1) := by decide +kernel
theorem dX5_setYear_61 : decode cX5_setYear 61 = .ok (.iload_n 2, 1) := by decide +kernel
theorem dX5_setYear_62 : decode cX5_setYear 62 = .ok (.iastore, 1) := by decide +kernel
theorem dX5_setYear_63 : decode cX5_setYear 63 = .ok (.aload_n 0, 1) := by decide +kernel
theorem dX5_setYear_64 : decode cX5_setYear 64 = .ok (.getfield 35, 3) := by decide +kernel
theorem dX5_setYear_67 : decode cX5_setYear 67 = .ok (.iload_n 1, 1) := by decide +kernel
theorem dX5_setYear_68 : decode cX5_setYear 68 = .ok (.iload_n 3, 1) := by decide +kernel
theorem dX5_setYear_69 : decode cX5_setYear 69 = .ok (.iastore, 1) := by decide +kernel
theorem dX5_setYear_70 : decode cX5_setYear 70 = .ok (.return_, 1) := by decide +kernel
set_option maxRecDepth 20000 in
theorem ggX5_setCarry_X5_isFine : GoodIn wsX5_setCarry wsX5_isFine := goodIn_r _ [7, 8, 9, 10, 11, 12, 13, 14, 15, 16, 17, 18, 19, 20, 21, 22, 23, 24, 25, 26, 27, 28, 29, 30, 31, 32, 33, 34, 35, 36, 37, 38, 39] (by decide +kernel) (by decide +kernel)
set_option maxRecDepth 20000 in
theorem gX5_setCarry_X5_isFine : GoodIn wsX5_setCarry (wsV RX5 70 RX5 yX5_isFine wsX5_isFine) := goodIn_app (goodIn_of _ (by decide +kernel)) ggX5_setCarry_X5_isFine
theorem dX5_setCarry_0 : decode cX5_setCarry 0 = .ok (.aload_n 0, 1) := by decide +kernel
theorem dX5_setCarry_1 : decode cX5_setCarry 1 = .ok (.aload_n 0, 1) := by decide +kernel
theorem dX5_setCarry_2 : decode cX5_setCarry 2 = .ok (.getfield 66, 3) := by decide +kernel
theorem dX5_setCarry_5 : decode cX5_setCarry 5 = .ok (.ifCond .eq 7, 3) := by decide +kernel
theorem dX5_setCarry_8 : decode cX5_setCarry 8 = .ok (.iconst 1, 1) := by decide +kernel
theorem dX5_setCarry_9 : decode cX5_setCarry 9 = .ok (.goto 4, 3) := by decide +kernel
theorem dX5_setCarry_12 : decode cX5_setCarry 12 = .ok (.iconst 0, 1) := by decide +kernel
theorem dX5_setCarry_13 : decode cX5_setCarry 13 = .ok (.invokevirtual 70, 3) := by decide +kernel
theorem dX5_setCarry_16 : decode cX5_setCarry 16 = .ok (.ifCond .eq 8, 3) := by decide +kernel
theorem dX5_setCarry_19 : decode cX5_setCarry 19 = .ok (.aload_n 0, 1) := by decide +kernel
theorem dX5_setCarry_20 : decode cX5_setCarry 20 = .ok (.iload_n 1, 1) := by decide +kernel
theorem dX5_setCarry_21 : decode cX5_setCarry 21 = .ok (.putfield 84, 3) := by decide +kernel
theorem dX5_setCarry_24 : decode cX5_setCarry 24 = .ok (.return_, 1) := by decide +kernel
set_option maxRecDepth 20000 in
theorem ggX5_close_X5_in : GoodIn wsX5_close wsX5_in := goodIn_r _ [14] (by decide +kernel) (by decide +kernel)
set_option maxRecDepth 20000 in
theorem gX5_close_X5_in : GoodIn wsX5_close (va_wsS RX5 61 yX5_in wsX5_in) := goodIn_app (goodIn_of _ (by decide +kernel)) ggX5_close_X5_in
set_option maxRecDepth 20000 in
theorem ggX5_close_X5_isFine : GoodIn wsX5_close wsX5_isFine := goodIn_r _ [18, 19, 20, 21, 22, 23, 24, 25, 26, 27, 28, 29, 30, 31, 32, 33, 34, 35, 36, 37, 38, 39, 40, 41, 42, 43, 44, 45, 46, 47, 48, 49, 50] (by decide +kernel) (by decide +kernel)
set_option maxRecDepth 20000 in
theorem gX5_close_X5_isFine : GoodIn wsX5_close (wsV RX5 70 RX5 yX5_isFine wsX5_isFine) := goodIn_app (goodIn_of _ (by decide +kernel)) ggX5_close_X5_isFine
theorem dX5_close_0 : decode cX5_close 0 = .ok (.aload_n 0, 1) := by decide +kernel
theorem dX5_close_1 : decode cX5_close 1 = .ok (.iload_n 1, 1) := by decide +kernel
theorem dX5_close_2 : decode cX5_close 2 = .ok (.iconst 0, 1) := by decide +kernel
theorem dX5_close_3 : decode cX5_close 3 = .ok (.ldc 60, 2) := by decide +kernel
theorem dX5_close_5 : decode cX5_close 5 = .ok (.invokestatic 61, 3) := by decide +kernel
theorem dX5_close_8 : decode cX5_close 8 = .ok (.ifCond .eq 24, 3) := by decide +kernel
theorem dX5_close_11 : decode cX5_close 11 = .ok (.iload_n 2, 1) := by decide +kernel
theorem dX5_close_12 : decode cX5_close 12 = .ok (.iconst 0, 1) := by decide +kernel
theorem dX5_close_13 : decode cX5_close 13 = .ok (.ldc 60, 2) := by decide +kernel
theorem dX5_close_15 : decode cX5_close 15 = .ok (.invokestatic 61, 3) := by decide +kernel
theorem dX5_close_18 : decode cX5_close 18 = .ok (.ifCond .eq 14, 3) := by decide +kernel
theorem dX5_close_21 : decode cX5_close 21 = .ok (.iload_n 3, 1) := by decide +kernel
theorem dX5_close_22 : decode cX5_close 22 = .ok (.ldc 65, 2) := by decide +kernel
theorem dX5_close_24 : decode cX5_close 24 = .ok (.ldc 60, 2) := by decide +kernel
theorem dX5_close_26 : decode cX5_close 26 = .ok (.invokestatic 61, 3) := by decide +kernel
theorem dX5_close_29 : decode cX5_close 29 = .ok (.ifCond .ne 7, 3) := by decide +kernel
theorem dX5_close_32 : decode cX5_close 32 = .ok (.iconst 1, 1) := by decide +kernel
theorem dX5_close_33 : decode cX5_close 33 = .ok (.goto 15, 3) := by decide +kernel
theorem dX5_close_36 : decode cX5_close 36 = .ok (.aload_n 0, 1) := by decide +kernel
theorem dX5_close_37 : decode cX5_close 37 = .ok (.getfield 66, 3) := by decide +kernel
theorem dX5_close_40 : decode cX5_close 40 = .ok (.ifCond .eq 7, 3) := by decide +kernel
theorem dX5_close_43 : decode cX5_close 43 = .ok (.iconst 2, 1) := by decide +kernel
theorem dX5_close_44 : decode cX5_close 44 = .ok (.goto 4, 3) := by decide +kernel
theorem dX5_close_47 : decode cX5_close 47 = .ok (.iconst 0, 1) := by decide +kernel
theorem dX5_close_48 : decode cX5_close 48 = .ok (.invokevirtual 70, 3) := by decide +kernel
theorem dX5_close_51 : decode cX5_close 51 = .ok (.ifCond .ne 5, 3) := by decide +kernel
theorem dX5_close_54 : decode cX5_close 54 = .ok (.iconst 0, 1) := by decide +kernel
theorem dX5_close_55 : decode cX5_close 55 = .ok (.ireturn, 1) := by decide +kernel
theorem dX5_close_56 : decode cX5_close 56 = .ok (.iload_n 3, 1) := by decide +kernel
theorem dX5_close_57 : decode cX5_close 57 = .ok (.aload_n 0, 1) := by decide +kernel
theorem dX5_close_58 : decode cX5_close 58 = .ok (.getfield 77, 3) := by decide +kernel
theorem dX5_close_61 : decode cX5_close 61 = .ok (.isub, 1) := by decide +kernel
theorem dX5_close_62 : decode cX5_close 62 = .ok (.istore 4, 2) := by decide +kernel
theorem dX5_close_64 : decode cX5_close 64 = .ok (.iload 4, 2) := by decide +kernel
theorem dX5_close_66 : decode cX5_close 66 = .ok (.aload_n 0, 1) := by decide +kernel
theorem dX5_close_67 : decode cX5_close 67 = .ok (.getfield 80, 3) := by decide +kernel
theorem dX5_close_70 : decode cX5_close 70 = .ok (.if_icmp .le 13, 3) := by decide +kernel
theorem dX5_close_73 : decode cX5_close 73 = .ok (.iload 4, 2) := by decide +kernel
theorem dX5_close_75 : decode cX5_close 75 = .ok (.aload_n 0, 1) := by decide +kernel
theorem dX5_close_76 : decode cX5_close 76 = .ok (.getfield 80, 3) := by decide +kernel
theorem dX5_close_79 : decode cX5_close 79 = .ok (.isub, 1) := by decide +kernel
theorem dX5_close_80 : decode cX5_close 80 = .ok (.goto 24, 3) := by decide +kernel
theorem dX5_close_83 : decode cX5_close 83 = .ok (.iload 4, 2) := by decide +kernel
theorem dX5_close_85 : decode cX5_close 85 = .ok (.aload_n 0, 1) := by decide +kernel
theorem dX5_close_86 : decode cX5_close 86 = .ok (.getfield 80, 3) := by decide +kernel
theorem dX5_close_89 : decode cX5_close 89 = .ok (.ineg, 1) := by decide +kernel
theorem dX5_close_90 : decode cX5_close 90 = .ok (.if_icmp .ge 13, 3) := by decide +kernel
theorem dX5_close_93 : decode cX5_close 93 = .ok (.iload 4, 2) := by decide +kernel
theorem dX5_close_95 : decode cX5_close 95 = .ok (.aload_n 0, 1) := by decide +kernel
theorem dX5_close_96 : decode cX5_close 96 = .ok (.getfield 80, 3) := by decide +kernel
theorem dX5_close_99 : decode cX5_close 99 = .ok (.iadd, 1) := by decide +kernel
theorem dX5_close_100 : decode cX5_close 100 = .ok (.goto 4, 3) := by decide +kernel
theorem dX5_close_103 : decode cX5_close 103 = .ok (.iconst 0, 1) := by decide +kernel
theorem dX5_close_104 : decode cX5_close 104 = .ok (.istore 5, 2) := by decide +kernel
theorem dX5_close_106 : decode cX5_close 106 = .ok (.aload_n 0, 1) := by decide +kernel
theorem dX5_close_107 : decode cX5_close 107 = .ok (.getfield 74, 3) := by decide +kernel
theorem dX5_close_110 : decode cX5_close 110 = .ok (.iload_n 1, 1) := by decide +kernel
theorem dX5_close_111 : decode cX5_close 111 = .ok (.iadd, 1) := by decide +kernel
theorem dX5_close_112 : decode cX5_close 112 = .ok (.iload_n 2, 1) := by decide +kernel
theorem dX5_close_113 : decode cX5_close 113 = .ok (.isub, 1) := by decide +kernel
theorem dX5_close_114 : decode cX5_close 114 = .ok (.iload 5, 2) := by decide +kernel
theorem dX5_close_116 : decode cX5_close 116 = .ok (.iadd, 1) := by decide +kernel
theorem dX5_close_117 : decode cX5_close 117 = .ok (.istore 6, 2) := by decide +kernel
theorem dX5_close_119 : decode cX5_close 119 = .ok (.aload_n 0, 1) := by decide +kernel
theorem dX5_close_120 : decode cX5_close 120 = .ok (.iload 6, 2) := by decide +kernel
theorem dX5_close_122 : decode cX5_close 122 = .ok (.ifCond .ge 7, 3) := by decide +kernel
theorem dX5_close_125 : decode cX5_close 125 = .ok (.iconst 0, 1) := by decide +kernel
theorem dX5_close_126 : decode cX5_close 126 = .ok (.goto 5, 3) := by decide +kernel
theorem dX5_close_129 : decode cX5_close 129 = .ok (.iload 6, 2) := by decide +kernel
theorem dX5_close_131 : decode cX5_close 131 = .ok (.putfield 87, 3) := by decide +kernel
theorem dX5_close_134 : decode cX5_close 134 = .ok (.iconst 0, 1) := by decide +kernel
theorem dX5_close_135 : decode cX5_close 135 = .ok (.istore 7, 2) := by decide +kernel
theorem dX5_close_137 : decode cX5_close 137 = .ok (.iconst 0, 1) := by decide +kernel
theorem dX5_close_138 : decode cX5_close 138 = .ok (.istore 8, 2) := by decide +kernel
theorem dX5_close_140 : decode cX5_close 140 = .ok (.iload 8, 2) := by decide +kernel
theorem dX5_close_142 : decode cX5_close 142 = .ok (.iconst 4, 1) := by decide +kernel
theorem dX5_close_143 : decode cX5_close 143 = .ok (.if_icmp .ge 21, 3) := by decide +kernel
theorem dX5_close_146 : decode cX5_close 146 = .ok (.iload 7, 2) := by decide +kernel
theorem dX5_close_148 : decode cX5_close 148 = .ok (.aload_n 0, 1) := by decide +kernel
theorem dX5_close_149 : decode cX5_close 149 = .ok (.getfield 7, 3) := by decide +kernel
theorem dX5_close_152 : decode cX5_close 152 = .ok (.iload 8, 2) := by decide +kernel
theorem dX5_close_154 : decode cX5_close 154 = .ok (.iaload, 1) := by decide +kernel
theorem dX5_close_155 : decode cX5_close 155 = .ok (.iadd, 1) := by decide +kernel
theorem dX5_close_156 : decode cX5_close 156 = .ok (.istore 7, 2) := by decide +kernel
theorem dX5_close_158 : decode cX5_close 158 = .ok (.iinc 8 1, 3) := by decide +kernel
theorem dX5_close_161 : decode cX5_close 161 = .ok (.goto (-21), 3) := by decide +kernel
theorem dX5_close_164 : decode cX5_close 164 = .ok (.aload_n 0, 1) := by decide +kernel
theorem dX5_close_165 : decode cX5_close 165 = .ok (.iload 7, 2) := by decide +kernel
theorem dX5_close_167 : decode cX5_close 167 = .ok (.aload_n 0, 1) := by decide +kernel
theorem dX5_close_168 : decode cX5_close 168 = .ok (.getfield 87, 3) := by decide +kernel
theorem dX5_close_171 : decode cX5_close 171 = .ok (.if_icmp .ge 8, 3) := by decide +kernel
theorem dX5_close_174 : decode cX5_close 174 = .ok (.iload 7, 2) := by decide +kernel
theorem dX5_close_176 : decode cX5_close 176 = .ok (.goto 7, 3) := by decide +kernel
theorem dX5_close_179 : decode cX5_close 179 = .ok (.aload_n 0, 1) := by decide +kernel
theorem dX5_close_180 : decode cX5_close 180 = .ok (.getfield 87, 3) := by decide +kernel
theorem dX5_close_183 : decode cX5_close 183 = .ok (.putfield 90, 3) := by decide +kernel
theorem dX5_close_186 : decode cX5_close 186 = .ok (.aload_n 0, 1) := by decide +kernel
theorem dX5_close_187 : decode cX5_close 187 = .ok (.aload_n 0, 1) := by decide +kernel
theorem dX5_close_188 : decode cX5_close 188 = .ok (.getfield 87, 3) := by decide +kernel
theorem dX5_close_191 : decode cX5_close 191 = .ok (.aload_n 0, 1) := by decide +kernel
theorem dX5_close_192 : decode cX5_close 192 = .ok (.getfield 90, 3) := by decide +kernel
theorem dX5_close_195 : decode cX5_close 195 = .ok (.isub, 1) := by decide +kernel
theorem dX5_close_196 : decode cX5_close 196 = .ok (.putfield 93, 3) := by decide +kernel
theorem dX5_close_199 : decode cX5_close 199 = .ok (.aload_n 0, 1) := by decide +kernel
theorem dX5_close_200 : decode cX5_close 200 = .ok (.iconst 1, 1) := by decide +kernel
theorem dX5_close_201 : decode cX5_close 201 = .ok (.putfield 66, 3) := by decide +kernel
theorem dX5_close_204 : decode cX5_close 204 = .ok (.aload_n 0, 1) := by decide +kernel
theorem dX5_close_205 : decode cX5_close 205 = .ok (.getfield 87, 3) := by decide +kernel
theorem dX5_close_208 : decode cX5_close 208 = .ok (.ireturn, 1) := by decide +kernel
theorem dX5_frees_0 : decode cX5_frees 0 = .ok (.iconst 0, 1) := by decide +kernel
theorem dX5_frees_1 : decode cX5_frees 1 = .ok (.istore_n 1, 1) := by decide +kernel
theorem dX5_frees_2 : decode cX5_frees 2 = .ok (.iconst 0, 1) := by decide +kernel
theorem dX5_frees_3 : decode cX5_frees 3 = .ok (.istore_n 2, 1) := by decide +kernel
theorem dX5_frees_4 : decode cX5_frees 4 = .ok (.iload_n 2, 1) := by decide +kernel
theorem dX5_frees_5 : decode cX5_frees 5 = .ok (.iconst 4, 1) := by decide +kernel
theorem dX5_frees_6 : decode cX5_frees 6 = .ok (.if_icmp .ge 35, 3) := by decide +kernel
theorem dX5_frees_9 : decode cX5_frees 9 = .ok (.iload_n 1, 1) := by decide +kernel
theorem dX5_frees_10 : decode cX5_frees 10 = .ok (.aload_n 0, 1) := by decide +kernel
theorem dX5_frees_11 : decode cX5_frees 11 = .ok (.getfield 13, 3) := by decide +kernel
theorem dX5_frees_14 : decode cX5_frees 14 = .ok (.iload_n 2, 1) := by decide +kernel
theorem dX5_frees_15 : decode cX5_frees 15 = .ok (.iaload, 1) := by decide +kernel
theorem dX5_frees_16 : decode cX5_frees 16 = .ok (.aload_n 0, 1) := by decide +kernel
theorem dX5_frees_17 : decode cX5_frees 17 = .ok (.getfield 96, 3) := by decide +kernel
theorem dX5_frees_20 : decode cX5_frees 20 = .ok (.if_icmp .le 12, 3) := by decide +kernel
theorem dX5_frees_23 : decode cX5_frees 23 = .ok (.aload_n 0, 1) := by decide +kernel
theorem dX5_frees_24 : decode cX5_frees 24 = .ok (.getfield 7, 3) := by decide +kernel
theorem dX5_frees_27 : decode cX5_frees 27 = .ok (.iload_n 2, 1) := by decide +kernel
theorem dX5_frees_28 : decode cX5_frees 28 = .ok (.iaload, 1) := by decide +kernel
theorem dX5_frees_29 : decode cX5_frees 29 = .ok (.goto 4, 3) := by decide +kernel
theorem dX5_frees_32 : decode cX5_frees 32 = .ok (.iconst 0, 1) := by decide +kernel
theorem dX5_frees_33 : decode cX5_frees 33 = .ok (.iadd, 1) := by decide +kernel
theorem dX5_frees_34 : decode cX5_frees 34 = .ok (.istore_n 1, 1) := by decide +kernel
theorem dX5_frees_35 : decode cX5_frees 35 = .ok (.iinc 2 1, 3) := by decide +kernel
theorem dX5_frees_38 : decode cX5_frees 38 = .ok (.goto (-34), 3) := by decide +kernel
theorem dX5_frees_41 : decode cX5_frees 41 = .ok (.iconst 0, 1) := by decide +kernel
theorem dX5_frees_42 : decode cX5_frees 42 = .ok (.istore_n 2, 1) := by decide +kernel
theorem dX5_frees_43 : decode cX5_frees 43 = .ok (.iload_n 2, 1) := by decide +kernel
theorem dX5_frees_44 : decode cX5_frees 44 = .ok (.aload_n 0, 1) := by decide +kernel
theorem dX5_frees_45 : decode cX5_frees 45 = .ok (.getfield 99, 3) := by decide +kernel
theorem dX5_frees_48 : decode cX5_frees 48 = .ok (.if_icmp .ge 32, 3) := by decide +kernel
theorem dX5_frees_51 : decode cX5_frees 51 = .ok (.iload_n 1, 1) := by decide +kernel
theorem dX5_frees_52 : decode cX5_frees 52 = .ok (.aload_n 0, 1) := by decide +kernel
theorem dX5_frees_53 : decode cX5_frees 53 = .ok (.getfield 47, 3) := by decide +kernel
theorem dX5_frees_56 : decode cX5_frees 56 = .ok (.iload_n 2, 1) := by decide +kernel
theorem dX5_frees_57 : decode cX5_frees 57 = .ok (.iaload, 1) := by decide +kernel
theorem dX5_frees_58 : decode cX5_frees 58 = .ok (.iconst (-1), 1) := by decide +kernel
theorem dX5_frees_59 : decode cX5_frees 59 = .ok (.if_icmp .ne 12, 3) := by decide +kernel
theorem dX5_frees_62 : decode cX5_frees 62 = .ok (.aload_n 0, 1) := by decide +kernel
theorem dX5_frees_63 : decode cX5_frees 63 = .ok (.getfield 41, 3) := by decide +kernel
theorem dX5_frees_66 : decode cX5_frees 66 = .ok (.iload_n 2, 1) := by decide +kernel
theorem dX5_frees_67 : decode cX5_frees 67 = .ok (.iaload, 1) := by decide +kernel
theorem dX5_frees_68 : decode cX5_frees 68 = .ok (.goto 4, 3) := by decide +kernel
theorem dX5_frees_71 : decode cX5_frees 71 = .ok (.iconst 0, 1) := by decide +kernel
theorem dX5_frees_72 : decode cX5_frees 72 = .ok (.iadd, 1) := by decide +kernel
theorem dX5_frees_73 : decode cX5_frees 73 = .ok (.istore_n 1, 1) := by decide +kernel
theorem dX5_frees_74 : decode cX5_frees 74 = .ok (.iinc 2 1, 3) := by decide +kernel
theorem dX5_frees_77 : decode cX5_frees 77 = .ok (.goto (-34), 3) := by decide +kernel
theorem dX5_frees_80 : decode cX5_frees 80 = .ok (.aload_n 0, 1) := by decide +kernel
theorem dX5_frees_81 : decode cX5_frees 81 = .ok (.getfield 90, 3) := by decide +kernel
theorem dX5_frees_84 : decode cX5_frees 84 = .ok (.iload_n 1, 1) := by decide +kernel
theorem dX5_frees_85 : decode cX5_frees 85 = .ok (.if_icmp .le 23, 3) := by decide +kernel
theorem dX5_frees_88 : decode cX5_frees 88 = .ok (.aload_n 0, 1) := by decide +kernel
theorem dX5_frees_89 : decode cX5_frees 89 = .ok (.dup, 1) := by decide +kernel
theorem dX5_frees_90 : decode cX5_frees 90 = .ok (.getfield 93, 3) := by decide +kernel
theorem dX5_frees_93 : decode cX5_frees 93 = .ok (.aload_n 0, 1) := by decide +kernel
theorem dX5_frees_94 : decode cX5_frees 94 = .ok (.getfield 90, 3) := by decide +kernel
theorem dX5_frees_97 : decode cX5_frees 97 = .ok (.iload_n 1, 1) := by decide +kernel
theorem dX5_frees_98 : decode cX5_frees 98 = .ok (.isub, 1) := by decide +kernel
theorem dX5_frees_99 : decode cX5_frees 99 = .ok (.iadd, 1) := by decide +kernel
theorem dX5_frees_100 : decode cX5_frees 100 = .ok (.putfield 93, 3) := by decide +kernel
theorem dX5_frees_103 : decode cX5_frees 103 = .ok (.aload_n 0, 1) := by decide +kernel
theorem dX5_frees_104 : decode cX5_frees 104 = .ok (.iload_n 1, 1) := by decide +kernel
theorem dX5_frees_105 : decode cX5_frees 105 = .ok (.putfield 90, 3) := by decide +kernel
theorem dX5_frees_108 : decode cX5_frees 108 = .ok (.return_, 1) := by decide +kernel
set_option maxRecDepth 20000 in
theorem ggX5_advance_X5_in : GoodIn wsX5_advance wsX5_in := goodIn_r _ [6] (by decide +kernel) (by decide +kernel)
set_option maxRecDepth 20000 in
theorem gX5_advance_X5_in : GoodIn wsX5_advance (va_wsS RX5 61 yX5_in wsX5_in) := goodIn_app (goodIn_of _ (by decide +kernel)) ggX5_advance_X5_in
set_option maxRecDepth 20000 in
theorem ggX5_advance_X5_isFine : GoodIn wsX5_advance wsX5_isFine := goodIn_r _ [10, 11, 23, 24, 25, 26, 27, 28, 29, 30, 31, 32, 33, 34, 35, 36, 37, 38, 39, 40, 41, 42, 43, 44, 45, 46, 47, 48, 49, 50, 51, 52, 53] (by decide +kernel) (by decide +kernel)
set_option maxRecDepth 20000 in
theorem gX5_advance_X5_isFine : GoodIn wsX5_advance (wsV RX5 70 RX5 yX5_isFine wsX5_isFine) := goodIn_app (goodIn_of _ (by decide +kernel)) ggX5_advance_X5_isFine
set_option maxRecDepth 20000 in
theorem ggX5_advance_X5_frees : GoodIn wsX5_advance wsX5_frees := goodIn_r _ [15, 16, 2, 17, 18, 19, 20, 21, 22, 23, 24, 25, 26, 27, 28, 29, 30, 31, 32, 33, 34, 35, 36, 37, 38, 39, 40, 41, 42, 43, 44, 45, 46, 47, 48, 49, 50, 51, 52, 53] (by decide +kernel) (by decide +kernel)
set_option maxRecDepth 20000 in
theorem gX5_advance_X5_frees : GoodIn wsX5_advance (wsV RX5 102 RX5 yX5_frees wsX5_frees) := goodIn_app (goodIn_of _ (by decide +kernel)) ggX5_advance_X5_frees
theorem dX5_advance_0 : decode cX5_advance 0 = .ok (.aload_n 0, 1) := by decide +kernel
theorem dX5_advance_1 : decode cX5_advance 1 = .ok (.iload_n 1, 1) := by decide +kernel
theorem dX5_advance_2 : decode cX5_advance 2 = .ok (.iconst 1, 1) := by decide +kernel
theorem dX5_advance_3 : decode cX5_advance 3 = .ok (.sipush 400, 3) := by decide +kernel
theorem dX5_advance_6 : decode cX5_advance 6 = .ok (.invokestatic 61, 3) := by decide +kernel
theorem dX5_advance_9 : decode cX5_advance 9 = .ok (.ifCond .ne 7, 3) := by decide +kernel
theorem dX5_advance_12 : decode cX5_advance 12 = .ok (.iconst 1, 1) := by decide +kernel
theorem dX5_advance_13 : decode cX5_advance 13 = .ok (.goto 27, 3) := by decide +kernel
theorem dX5_advance_16 : decode cX5_advance 16 = .ok (.aload_n 0, 1) := by decide +kernel
theorem dX5_advance_17 : decode cX5_advance 17 = .ok (.getfield 66, 3) := by decide +kernel
theorem dX5_advance_20 : decode cX5_advance 20 = .ok (.ifCond .eq 15, 3) := by decide +kernel
theorem dX5_advance_23 : decode cX5_advance 23 = .ok (.aload_n 0, 1) := by decide +kernel
theorem dX5_advance_24 : decode cX5_advance 24 = .ok (.getfield 96, 3) := by decide +kernel
theorem dX5_advance_27 : decode cX5_advance 27 = .ok (.iload_n 1, 1) := by decide +kernel
theorem dX5_advance_28 : decode cX5_advance 28 = .ok (.iadd, 1) := by decide +kernel
theorem dX5_advance_29 : decode cX5_advance 29 = .ok (.sipush 4000, 3) := by decide +kernel
theorem dX5_advance_32 : decode cX5_advance 32 = .ok (.if_icmp .le 7, 3) := by decide +kernel
theorem dX5_advance_35 : decode cX5_advance 35 = .ok (.iconst 2, 1) := by decide +kernel
theorem dX5_advance_36 : decode cX5_advance 36 = .ok (.goto 4, 3) := by decide +kernel
theorem dX5_advance_39 : decode cX5_advance 39 = .ok (.iconst 0, 1) := by decide +kernel
theorem dX5_advance_40 : decode cX5_advance 40 = .ok (.invokevirtual 70, 3) := by decide +kernel
theorem dX5_advance_43 : decode cX5_advance 43 = .ok (.ifCond .ne 5, 3) := by decide +kernel
theorem dX5_advance_46 : decode cX5_advance 46 = .ok (.iconst 0, 1) := by decide +kernel
theorem dX5_advance_47 : decode cX5_advance 47 = .ok (.ireturn, 1) := by decide +kernel
theorem dX5_advance_48 : decode cX5_advance 48 = .ok (.iconst 0, 1) := by decide +kernel
theorem dX5_advance_49 : decode cX5_advance 49 = .ok (.istore_n 2, 1) := by decide +kernel
theorem dX5_advance_50 : decode cX5_advance 50 = .ok (.iload_n 2, 1) := by decide +kernel
theorem dX5_advance_51 : decode cX5_advance 51 = .ok (.iload_n 1, 1) := by decide +kernel
theorem dX5_advance_52 : decode cX5_advance 52 = .ok (.if_icmp .ge 23, 3) := by decide +kernel
theorem dX5_advance_55 : decode cX5_advance 55 = .ok (.aload_n 0, 1) := by decide +kernel
theorem dX5_advance_56 : decode cX5_advance 56 = .ok (.dup, 1) := by decide +kernel
theorem dX5_advance_57 : decode cX5_advance 57 = .ok (.getfield 96, 3) := by decide +kernel
theorem dX5_advance_60 : decode cX5_advance 60 = .ok (.iconst 1, 1) := by decide +kernel
theorem dX5_advance_61 : decode cX5_advance 61 = .ok (.iadd, 1) := by decide +kernel
theorem dX5_advance_62 : decode cX5_advance 62 = .ok (.putfield 96, 3) := by decide +kernel
theorem dX5_advance_65 : decode cX5_advance 65 = .ok (.aload_n 0, 1) := by decide +kernel
theorem dX5_advance_66 : decode cX5_advance 66 = .ok (.invokevirtual 102, 3) := by decide +kernel
theorem dX5_advance_69 : decode cX5_advance 69 = .ok (.iinc 2 1, 3) := by decide +kernel
theorem dX5_advance_72 : decode cX5_advance 72 = .ok (.goto (-22), 3) := by decide +kernel
theorem dX5_advance_75 : decode cX5_advance 75 = .ok (.aload_n 0, 1) := by decide +kernel
theorem dX5_advance_76 : decode cX5_advance 76 = .ok (.getfield 96, 3) := by decide +kernel
theorem dX5_advance_79 : decode cX5_advance 79 = .ok (.ireturn, 1) := by decide +kernel
set_option maxRecDepth 20000 in
theorem ggX5_claim_X5_in : GoodIn wsX5_claim wsX5_in := goodIn_r _ [13] (by decide +kernel) (by decide +kernel)
set_option maxRecDepth 20000 in
theorem gX5_claim_X5_in : GoodIn wsX5_claim (va_wsS RX5 61 yX5_in wsX5_in) := goodIn_app (goodIn_of _ (by decide +kernel)) ggX5_claim_X5_in
set_option maxRecDepth 20000 in
theorem ggX5_claim_X5_isFine : GoodIn wsX5_claim wsX5_isFine := goodIn_r _ [17, 18, 19, 20, 21, 22, 23, 24, 25, 26, 27, 28, 29, 30, 31, 32, 33, 34, 35, 36, 37, 38, 39, 40, 41, 42, 43, 44, 45, 46, 47, 48, 49] (by decide +kernel) (by decide +kernel)
set_option maxRecDepth 20000 in
theorem gX5_claim_X5_isFine : GoodIn wsX5_claim (wsV RX5 70 RX5 yX5_isFine wsX5_isFine) := goodIn_app (goodIn_of _ (by decide +kernel)) ggX5_claim_X5_isFine
theorem dX5_claim_0 : decode cX5_claim 0 = .ok (.iload_n 1, 1) := by decide +kernel
theorem dX5_claim_1 : decode cX5_claim 1 = .ok (.iconst 0, 1) := by decide +kernel
theorem dX5_claim_2 : decode cX5_claim 2 = .ok (.iconst 2, 1) := by decide +kernel
theorem dX5_claim_3 : decode cX5_claim 3 = .ok (.invokestatic 61, 3) := by decide +kernel
theorem dX5_claim_6 : decode cX5_claim 6 = .ok (.ifCond .ne 7, 3) := by decide +kernel
theorem dX5_claim_9 : decode cX5_claim 9 = .ok (.iconst 1, 1) := by decide +kernel
theorem dX5_claim_10 : decode cX5_claim 10 = .ok (.goto 18, 3) := by decide +kernel
theorem dX5_claim_13 : decode cX5_claim 13 = .ok (.iload_n 2, 1) := by decide +kernel
theorem dX5_claim_14 : decode cX5_claim 14 = .ok (.iconst 1, 1) := by decide +kernel
theorem dX5_claim_15 : decode cX5_claim 15 = .ok (.ldc 60, 2) := by decide +kernel
theorem dX5_claim_17 : decode cX5_claim 17 = .ok (.invokestatic 61, 3) := by decide +kernel
theorem dX5_claim_20 : decode cX5_claim 20 = .ok (.ifCond .ne 7, 3) := by decide +kernel
theorem dX5_claim_23 : decode cX5_claim 23 = .ok (.iconst 2, 1) := by decide +kernel
theorem dX5_claim_24 : decode cX5_claim 24 = .ok (.goto 4, 3) := by decide +kernel
theorem dX5_claim_27 : decode cX5_claim 27 = .ok (.iconst 0, 1) := by decide +kernel
theorem dX5_claim_28 : decode cX5_claim 28 = .ok (.istore_n 3, 1) := by decide +kernel
theorem dX5_claim_29 : decode cX5_claim 29 = .ok (.aload_n 0, 1) := by decide +kernel
theorem dX5_claim_30 : decode cX5_claim 30 = .ok (.iload_n 3, 1) := by decide +kernel
theorem dX5_claim_31 : decode cX5_claim 31 = .ok (.ifCond .ne 36, 3) := by decide +kernel
theorem dX5_claim_34 : decode cX5_claim 34 = .ok (.aload_n 0, 1) := by decide +kernel
theorem dX5_claim_35 : decode cX5_claim 35 = .ok (.getfield 66, 3) := by decide +kernel
theorem dX5_claim_38 : decode cX5_claim 38 = .ok (.ifCond .eq 25, 3) := by decide +kernel
theorem dX5_claim_41 : decode cX5_claim 41 = .ok (.aload_n 0, 1) := by decide +kernel
theorem dX5_claim_42 : decode cX5_claim 42 = .ok (.getfield 96, 3) := by decide +kernel
theorem dX5_claim_45 : decode cX5_claim 45 = .ok (.aload_n 0, 1) := by decide +kernel
theorem dX5_claim_46 : decode cX5_claim 46 = .ok (.getfield 29, 3) := by decide +kernel
theorem dX5_claim_49 : decode cX5_claim 49 = .ok (.iload_n 1, 1) := by decide +kernel
theorem dX5_claim_50 : decode cX5_claim 50 = .ok (.iaload, 1) := by decide +kernel
theorem dX5_claim_51 : decode cX5_claim 51 = .ok (.if_icmp .gt 12, 3) := by decide +kernel
theorem dX5_claim_54 : decode cX5_claim 54 = .ok (.aload_n 0, 1) := by decide +kernel
theorem dX5_claim_55 : decode cX5_claim 55 = .ok (.getfield 99, 3) := by decide +kernel
theorem dX5_claim_58 : decode cX5_claim 58 = .ok (.bipush 20, 2) := by decide +kernel
theorem dX5_claim_60 : decode cX5_claim 60 = .ok (.if_icmp .ne 7, 3) := by decide +kernel
theorem dX5_claim_63 : decode cX5_claim 63 = .ok (.iconst 3, 1) := by decide +kernel
theorem dX5_claim_64 : decode cX5_claim 64 = .ok (.goto 4, 3) := by decide +kernel
theorem dX5_claim_67 : decode cX5_claim 67 = .ok (.iload_n 3, 1) := by decide +kernel
theorem dX5_claim_68 : decode cX5_claim 68 = .ok (.invokevirtual 70, 3) := by decide +kernel
theorem dX5_claim_71 : decode cX5_claim 71 = .ok (.ifCond .ne 5, 3) := by decide +kernel
theorem dX5_claim_74 : decode cX5_claim 74 = .ok (.iconst 0, 1) := by decide +kernel
theorem dX5_claim_75 : decode cX5_claim 75 = .ok (.ireturn, 1) := by decide +kernel
theorem dX5_claim_76 : decode cX5_claim 76 = .ok (.aload_n 0, 1) := by decide +kernel
theorem dX5_claim_77 : decode cX5_claim 77 = .ok (.getfield 38, 3) := by decide +kernel
theorem dX5_claim_80 : decode cX5_claim 80 = .ok (.aload_n 0, 1) := by decide +kernel
theorem dX5_claim_81 : decode cX5_claim 81 = .ok (.getfield 99, 3) := by decide +kernel
theorem dX5_claim_84 : decode cX5_claim 84 = .ok (.iload_n 1, 1) := by decide +kernel
theorem dX5_claim_85 : decode cX5_claim 85 = .ok (.iastore, 1) := by decide +kernel
theorem dX5_claim_86 : decode cX5_claim 86 = .ok (.aload_n 0, 1) := by decide +kernel
theorem dX5_claim_87 : decode cX5_claim 87 = .ok (.getfield 41, 3) := by decide +kernel
theorem dX5_claim_90 : decode cX5_claim 90 = .ok (.aload_n 0, 1) := by decide +kernel
theorem dX5_claim_91 : decode cX5_claim 91 = .ok (.getfield 99, 3) := by decide +kernel
theorem dX5_claim_94 : decode cX5_claim 94 = .ok (.iload_n 2, 1) := by decide +kernel
theorem dX5_claim_95 : decode cX5_claim 95 = .ok (.iastore, 1) := by decide +kernel
theorem dX5_claim_96 : decode cX5_claim 96 = .ok (.aload_n 0, 1) := by decide +kernel
theorem dX5_claim_97 : decode cX5_claim 97 = .ok (.getfield 44, 3) := by decide +kernel
theorem dX5_claim_100 : decode cX5_claim 100 = .ok (.aload_n 0, 1) := by decide +kernel
theorem dX5_claim_101 : decode cX5_claim 101 = .ok (.getfield 99, 3) := by decide +kernel
theorem dX5_claim_104 : decode cX5_claim 104 = .ok (.iconst (-1), 1) := by decide +kernel
theorem dX5_claim_105 : decode cX5_claim 105 = .ok (.iastore, 1) := by decide +kernel
theorem dX5_claim_106 : decode cX5_claim 106 = .ok (.aload_n 0, 1) := by decide +kernel
theorem dX5_claim_107 : decode cX5_claim 107 = .ok (.getfield 47, 3) := by decide +kernel
theorem dX5_claim_110 : decode cX5_claim 110 = .ok (.aload_n 0, 1) := by decide +kernel
theorem dX5_claim_111 : decode cX5_claim 111 = .ok (.getfield 99, 3) := by decide +kernel
theorem dX5_claim_114 : decode cX5_claim 114 = .ok (.iconst (-1), 1) := by decide +kernel
theorem dX5_claim_115 : decode cX5_claim 115 = .ok (.iastore, 1) := by decide +kernel
theorem dX5_claim_116 : decode cX5_claim 116 = .ok (.aload_n 0, 1) := by decide +kernel
theorem dX5_claim_117 : decode cX5_claim 117 = .ok (.dup, 1) := by decide +kernel
theorem dX5_claim_118 : decode cX5_claim 118 = .ok (.getfield 99, 3) := by decide +kernel
theorem dX5_claim_121 : decode cX5_claim 121 = .ok (.iconst 1, 1) := by decide +kernel
theorem dX5_claim_122 : decode cX5_claim 122 = .ok (.iadd, 1) := by decide +kernel
theorem dX5_claim_123 : decode cX5_claim 123 = .ok (.putfield 99, 3) := by decide +kernel
theorem dX5_claim_126 : decode cX5_claim 126 = .ok (.aload_n 0, 1) := by decide +kernel
theorem dX5_claim_127 : decode cX5_claim 127 = .ok (.getfield 99, 3) := by decide +kernel
theorem dX5_claim_130 : decode cX5_claim 130 = .ok (.iconst 1, 1) := by decide +kernel
theorem dX5_claim_131 : decode cX5_claim 131 = .ok (.isub, 1) := by decide +kernel
theorem dX5_claim_132 : decode cX5_claim 132 = .ok (.ireturn, 1) := by decide +kernel
set_option maxRecDepth 20000 in
theorem ggX5_isClaim_X5_in : GoodIn wsX5_isClaim wsX5_in := goodIn_r _ [5] (by decide +kernel) (by decide +kernel)
set_option maxRecDepth 20000 in
theorem gX5_isClaim_X5_in : GoodIn wsX5_isClaim (va_wsS RX5 61 yX5_in wsX5_in) := goodIn_app (goodIn_of _ (by decide +kernel)) ggX5_isClaim_X5_in
theorem dX5_isClaim_0 : decode cX5_isClaim 0 = .ok (.iload_n 1, 1) := by decide +kernel
theorem dX5_isClaim_1 : decode cX5_isClaim 1 = .ok (.iconst 0, 1) := by decide +kernel
theorem dX5_isClaim_2 : decode cX5_isClaim 2 = .ok (.aload_n 0, 1) := by decide +kernel
theorem dX5_isClaim_3 : decode cX5_isClaim 3 = .ok (.getfield 99, 3) := by decide +kernel
theorem dX5_isClaim_6 : decode cX5_isClaim 6 = .ok (.iconst 1, 1) := by decide +kernel
theorem dX5_isClaim_7 : decode cX5_isClaim 7 = .ok (.isub, 1) := by decide +kernel
theorem dX5_isClaim_8 : decode cX5_isClaim 8 = .ok (.invokestatic 61, 3) := by decide +kernel
theorem dX5_isClaim_11 : decode cX5_isClaim 11 = .ok (.ireturn, 1) := by decide +kernel
set_option maxRecDepth 20000 in
theorem ggX5_offer_X5_isClaim : GoodIn wsX5_offer wsX5_isClaim := goodIn_r _ [8, 9, 10, 11, 7, 12, 18, 19, 20, 21, 22, 23, 24, 25, 26, 27, 28, 29, 30, 31, 32, 33, 34, 35, 36, 37, 38, 39, 40, 41, 42, 43, 44, 45, 46, 47, 48] (by decide +kernel) (by decide +kernel)
set_option maxRecDepth 20000 in
theorem gX5_offer_X5_isClaim : GoodIn wsX5_offer (wsV RX5 105 RX5 yX5_isClaim wsX5_isClaim) := goodIn_app (goodIn_of _ (by decide +kernel)) ggX5_offer_X5_isClaim
set_option maxRecDepth 20000 in
theorem ggX5_offer_X5_in : GoodIn wsX5_offer wsX5_in := goodIn_r _ [12] (by decide +kernel) (by decide +kernel)
set_option maxRecDepth 20000 in
theorem gX5_offer_X5_in : GoodIn wsX5_offer (va_wsS RX5 61 yX5_in wsX5_in) := goodIn_app (goodIn_of _ (by decide +kernel)) ggX5_offer_X5_in
set_option maxRecDepth 20000 in
theorem ggX5_offer_X5_isFine : GoodIn wsX5_offer wsX5_isFine := goodIn_r _ [16, 17, 18, 19, 20, 21, 22, 23, 24, 25, 26, 27, 28, 29, 30, 31, 32, 33, 34, 35, 36, 37, 38, 39, 40, 41, 42, 43, 44, 45, 46, 47, 48] (by decide +kernel) (by decide +kernel)
set_option maxRecDepth 20000 in
theorem gX5_offer_X5_isFine : GoodIn wsX5_offer (wsV RX5 70 RX5 yX5_isFine wsX5_isFine) := goodIn_app (goodIn_of _ (by decide +kernel)) ggX5_offer_X5_isFine
theorem dX5_offer_0 : decode cX5_offer 0 = .ok (.aload_n 0, 1) := by decide +kernel
theorem dX5_offer_1 : decode cX5_offer 1 = .ok (.iload_n 1, 1) := by decide +kernel
theorem dX5_offer_2 : decode cX5_offer 2 = .ok (.invokevirtual 105, 3) := by decide +kernel
theorem dX5_offer_5 : decode cX5_offer 5 = .ok (.ifCond .ne 7, 3) := by decide +kernel
theorem dX5_offer_8 : decode cX5_offer 8 = .ok (.iconst 1, 1) := by decide +kernel
theorem dX5_offer_9 : decode cX5_offer 9 = .ok (.goto 36, 3) := by decide +kernel
theorem dX5_offer_12 : decode cX5_offer 12 = .ok (.aload_n 0, 1) := by decide +kernel
theorem dX5_offer_13 : decode cX5_offer 13 = .ok (.getfield 47, 3) := by decide +kernel
theorem dX5_offer_16 : decode cX5_offer 16 = .ok (.iload_n 1, 1) := by decide +kernel
theorem dX5_offer_17 : decode cX5_offer 17 = .ok (.iaload, 1) := by decide +kernel
theorem dX5_offer_18 : decode cX5_offer 18 = .ok (.iconst (-1), 1) := by decide +kernel
theorem dX5_offer_19 : decode cX5_offer 19 = .ok (.if_icmp .eq 7, 3) := by decide +kernel
theorem dX5_offer_22 : decode cX5_offer 22 = .ok (.iconst 2, 1) := by decide +kernel
theorem dX5_offer_23 : decode cX5_offer 23 = .ok (.goto 22, 3) := by decide +kernel
theorem dX5_offer_26 : decode cX5_offer 26 = .ok (.iload_n 2, 1) := by decide +kernel
theorem dX5_offer_27 : decode cX5_offer 27 = .ok (.iconst 0, 1) := by decide +kernel
theorem dX5_offer_28 : decode cX5_offer 28 = .ok (.aload_n 0, 1) := by decide +kernel
theorem dX5_offer_29 : decode cX5_offer 29 = .ok (.getfield 41, 3) := by decide +kernel
theorem dX5_offer_32 : decode cX5_offer 32 = .ok (.iload_n 1, 1) := by decide +kernel
theorem dX5_offer_33 : decode cX5_offer 33 = .ok (.iaload, 1) := by decide +kernel
theorem dX5_offer_34 : decode cX5_offer 34 = .ok (.invokestatic 61, 3) := by decide +kernel
theorem dX5_offer_37 : decode cX5_offer 37 = .ok (.ifCond .ne 7, 3) := by decide +kernel
theorem dX5_offer_40 : decode cX5_offer 40 = .ok (.iconst 3, 1) := by decide +kernel
theorem dX5_offer_41 : decode cX5_offer 41 = .ok (.goto 4, 3) := by decide +kernel
theorem dX5_offer_44 : decode cX5_offer 44 = .ok (.iconst 0, 1) := by decide +kernel
theorem dX5_offer_45 : decode cX5_offer 45 = .ok (.istore_n 3, 1) := by decide +kernel
theorem dX5_offer_46 : decode cX5_offer 46 = .ok (.aload_n 0, 1) := by decide +kernel
theorem dX5_offer_47 : decode cX5_offer 47 = .ok (.iload_n 3, 1) := by decide +kernel
theorem dX5_offer_48 : decode cX5_offer 48 = .ok (.invokevirtual 70, 3) := by decide +kernel
theorem dX5_offer_51 : decode cX5_offer 51 = .ok (.ifCond .ne 5, 3) := by decide +kernel
theorem dX5_offer_54 : decode cX5_offer 54 = .ok (.iconst 0, 1) := by decide +kernel
theorem dX5_offer_55 : decode cX5_offer 55 = .ok (.ireturn, 1) := by decide +kernel
theorem dX5_offer_56 : decode cX5_offer 56 = .ok (.aload_n 0, 1) := by decide +kernel
theorem dX5_offer_57 : decode cX5_offer 57 = .ok (.getfield 44, 3) := by decide +kernel
theorem dX5_offer_60 : decode cX5_offer 60 = .ok (.iload_n 1, 1) := by decide +kernel
theorem dX5_offer_61 : decode cX5_offer 61 = .ok (.iaload, 1) := by decide +kernel
theorem dX5_offer_62 : decode cX5_offer 62 = .ok (.istore 4, 2) := by decide +kernel
theorem dX5_offer_64 : decode cX5_offer 64 = .ok (.aload_n 0, 1) := by decide +kernel
theorem dX5_offer_65 : decode cX5_offer 65 = .ok (.getfield 44, 3) := by decide +kernel
theorem dX5_offer_68 : decode cX5_offer 68 = .ok (.iload_n 1, 1) := by decide +kernel
theorem dX5_offer_69 : decode cX5_offer 69 = .ok (.iload_n 2, 1) := by decide +kernel
theorem dX5_offer_70 : decode cX5_offer 70 = .ok (.iastore, 1) := by decide +kernel
theorem dX5_offer_71 : decode cX5_offer 71 = .ok (.iload 4, 2) := by decide +kernel
theorem dX5_offer_73 : decode cX5_offer 73 = .ok (.ireturn, 1) := by decide +kernel
theorem dX5_dueFor_0 : decode cX5_dueFor 0 = .ok (.iconst 0, 1) := by decide +kernel
theorem dX5_dueFor_1 : decode cX5_dueFor 1 = .ok (.istore_n 2, 1) := by decide +kernel
theorem dX5_dueFor_2 : decode cX5_dueFor 2 = .ok (.iconst 0, 1) := by decide +kernel
theorem dX5_dueFor_3 : decode cX5_dueFor 3 = .ok (.istore_n 3, 1) := by decide +kernel
theorem dX5_dueFor_4 : decode cX5_dueFor 4 = .ok (.iload_n 3, 1) := by decide +kernel
theorem dX5_dueFor_5 : decode cX5_dueFor 5 = .ok (.aload_n 0, 1) := by decide +kernel
theorem dX5_dueFor_6 : decode cX5_dueFor 6 = .ok (.getfield 99, 3) := by decide +kernel
theorem dX5_dueFor_9 : decode cX5_dueFor 9 = .ok (.if_icmp .ge 57, 3) := by decide +kernel
theorem dX5_dueFor_12 : decode cX5_dueFor 12 = .ok (.iload_n 2, 1) := by decide +kernel
theorem dX5_dueFor_13 : decode cX5_dueFor 13 = .ok (.aload_n 0, 1) := by decide +kernel
theorem dX5_dueFor_14 : decode cX5_dueFor 14 = .ok (.getfield 38, 3) := by decide +kernel
theorem dX5_dueFor_17 : decode cX5_dueFor 17 = .ok (.iload_n 3, 1) := by decide +kernel
theorem dX5_dueFor_18 : decode cX5_dueFor 18 = .ok (.iaload, 1) := by decide +kernel
theorem dX5_dueFor_19 : decode cX5_dueFor 19 = .ok (.iload_n 1, 1) := by decide +kernel
theorem dX5_dueFor_20 : decode cX5_dueFor 20 = .ok (.if_icmp .ne 37, 3) := by decide +kernel
theorem dX5_dueFor_23 : decode cX5_dueFor 23 = .ok (.aload_n 0, 1) := by decide +kernel
theorem dX5_dueFor_24 : decode cX5_dueFor 24 = .ok (.getfield 47, 3) := by decide +kernel
theorem dX5_dueFor_27 : decode cX5_dueFor 27 = .ok (.iload_n 3, 1) := by decide +kernel
theorem dX5_dueFor_28 : decode cX5_dueFor 28 = .ok (.iaload, 1) := by decide +kernel
theorem dX5_dueFor_29 : decode cX5_dueFor 29 = .ok (.iconst (-1), 1) := by decide +kernel
theorem dX5_dueFor_30 : decode cX5_dueFor 30 = .ok (.if_icmp .eq 27, 3) := by decide +kernel
theorem dX5_dueFor_33 : decode cX5_dueFor 33 = .ok (.aload_n 0, 1) := by decide +kernel
theorem dX5_dueFor_34 : decode cX5_dueFor 34 = .ok (.getfield 47, 3) := by decide +kernel
theorem dX5_dueFor_37 : decode cX5_dueFor 37 = .ok (.iload_n 3, 1) := by decide +kernel
theorem dX5_dueFor_38 : decode cX5_dueFor 38 = .ok (.iaload, 1) := by decide +kernel
theorem dX5_dueFor_39 : decode cX5_dueFor 39 = .ok (.aload_n 0, 1) := by decide +kernel
theorem dX5_dueFor_40 : decode cX5_dueFor 40 = .ok (.getfield 16, 3) := by decide +kernel
theorem dX5_dueFor_43 : decode cX5_dueFor 43 = .ok (.iload_n 1, 1) := by decide +kernel
theorem dX5_dueFor_44 : decode cX5_dueFor 44 = .ok (.iaload, 1) := by decide +kernel
theorem dX5_dueFor_45 : decode cX5_dueFor 45 = .ok (.if_icmp .lt 12, 3) := by decide +kernel
theorem dX5_dueFor_48 : decode cX5_dueFor 48 = .ok (.aload_n 0, 1) := by decide +kernel
theorem dX5_dueFor_49 : decode cX5_dueFor 49 = .ok (.getfield 47, 3) := by decide +kernel
theorem dX5_dueFor_52 : decode cX5_dueFor 52 = .ok (.iload_n 3, 1) := by decide +kernel
theorem dX5_dueFor_53 : decode cX5_dueFor 53 = .ok (.iaload, 1) := by decide +kernel
theorem dX5_dueFor_54 : decode cX5_dueFor 54 = .ok (.goto 4, 3) := by decide +kernel
theorem dX5_dueFor_57 : decode cX5_dueFor 57 = .ok (.iconst 0, 1) := by decide +kernel
theorem dX5_dueFor_58 : decode cX5_dueFor 58 = .ok (.iadd, 1) := by decide +kernel
theorem dX5_dueFor_59 : decode cX5_dueFor 59 = .ok (.istore_n 2, 1) := by decide +kernel
theorem dX5_dueFor_60 : decode cX5_dueFor 60 = .ok (.iinc 3 1, 3) := by decide +kernel
theorem dX5_dueFor_63 : decode cX5_dueFor 63 = .ok (.goto (-59), 3) := by decide +kernel
theorem dX5_dueFor_66 : decode cX5_dueFor 66 = .ok (.aload_n 0, 1) := by decide +kernel
theorem dX5_dueFor_67 : decode cX5_dueFor 67 = .ok (.getfield 22, 3) := by decide +kernel
theorem dX5_dueFor_70 : decode cX5_dueFor 70 = .ok (.iload_n 1, 1) := by decide +kernel
theorem dX5_dueFor_71 : decode cX5_dueFor 71 = .ok (.baload, 1) := by decide +kernel
theorem dX5_dueFor_72 : decode cX5_dueFor 72 = .ok (.ifCond .eq 21, 3) := by decide +kernel
theorem dX5_dueFor_75 : decode cX5_dueFor 75 = .ok (.iload_n 2, 1) := by decide +kernel
theorem dX5_dueFor_76 : decode cX5_dueFor 76 = .ok (.aload_n 0, 1) := by decide +kernel
theorem dX5_dueFor_77 : decode cX5_dueFor 77 = .ok (.getfield 19, 3) := by decide +kernel
theorem dX5_dueFor_80 : decode cX5_dueFor 80 = .ok (.iload_n 1, 1) := by decide +kernel
theorem dX5_dueFor_81 : decode cX5_dueFor 81 = .ok (.iaload, 1) := by decide +kernel
theorem dX5_dueFor_82 : decode cX5_dueFor 82 = .ok (.if_icmp .lt 7, 3) := by decide +kernel
theorem dX5_dueFor_85 : decode cX5_dueFor 85 = .ok (.iload_n 2, 1) := by decide +kernel
theorem dX5_dueFor_86 : decode cX5_dueFor 86 = .ok (.goto 29, 3) := by decide +kernel
theorem dX5_dueFor_89 : decode cX5_dueFor 89 = .ok (.iconst 0, 1) := by decide +kernel
theorem dX5_dueFor_90 : decode cX5_dueFor 90 = .ok (.goto 25, 3) := by decide +kernel
theorem dX5_dueFor_93 : decode cX5_dueFor 93 = .ok (.iload_n 2, 1) := by decide +kernel
theorem dX5_dueFor_94 : decode cX5_dueFor 94 = .ok (.aload_n 0, 1) := by decide +kernel
theorem dX5_dueFor_95 : decode cX5_dueFor 95 = .ok (.getfield 19, 3) := by decide +kernel
theorem dX5_dueFor_98 : decode cX5_dueFor 98 = .ok (.iload_n 1, 1) := by decide +kernel
theorem dX5_dueFor_99 : decode cX5_dueFor 99 = .ok (.iaload, 1) := by decide +kernel
theorem dX5_dueFor_100 : decode cX5_dueFor 100 = .ok (.if_icmp .le 14, 3) := by decide +kernel
theorem dX5_dueFor_103 : decode cX5_dueFor 103 = .ok (.iload_n 2, 1) := by decide +kernel
theorem dX5_dueFor_104 : decode cX5_dueFor 104 = .ok (.aload_n 0, 1) := by decide +kernel
theorem dX5_dueFor_105 : decode cX5_dueFor 105 = .ok (.getfield 19, 3) := by decide +kernel
theorem dX5_dueFor_108 : decode cX5_dueFor 108 = .ok (.iload_n 1, 1) := by decide +kernel
theorem dX5_dueFor_109 : decode cX5_dueFor 109 = .ok (.iaload, 1) := by decide +kernel
theorem dX5_dueFor_110 : decode cX5_dueFor 110 = .ok (.isub, 1) := by decide +kernel
theorem dX5_dueFor_111 : decode cX5_dueFor 111 = .ok (.goto 4, 3) := by decide +kernel
theorem dX5_dueFor_114 : decode cX5_dueFor 114 = .ok (.iconst 0, 1) := by decide +kernel
theorem dX5_dueFor_115 : decode cX5_dueFor 115 = .ok (.istore_n 3, 1) := by decide +kernel
theorem dX5_dueFor_116 : decode cX5_dueFor 116 = .ok (.iload_n 3, 1) := by decide +kernel
theorem dX5_dueFor_117 : decode cX5_dueFor 117 = .ok (.aload_n 0, 1) := by decide +kernel
theorem dX5_dueFor_118 : decode cX5_dueFor 118 = .ok (.getfield 26, 3) := by decide +kernel
theorem dX5_dueFor_121 : decode cX5_dueFor 121 = .ok (.iload_n 1, 1) := by decide +kernel
theorem dX5_dueFor_122 : decode cX5_dueFor 122 = .ok (.iaload, 1) := by decide +kernel
theorem dX5_dueFor_123 : decode cX5_dueFor 123 = .ok (.if_icmp .ge 7, 3) := by decide +kernel
theorem dX5_dueFor_126 : decode cX5_dueFor 126 = .ok (.iload_n 3, 1) := by decide +kernel
theorem dX5_dueFor_127 : decode cX5_dueFor 127 = .ok (.goto 9, 3) := by decide +kernel
theorem dX5_dueFor_130 : decode cX5_dueFor 130 = .ok (.aload_n 0, 1) := by decide +kernel
theorem dX5_dueFor_131 : decode cX5_dueFor 131 = .ok (.getfield 26, 3) := by decide +kernel
theorem dX5_dueFor_134 : decode cX5_dueFor 134 = .ok (.iload_n 1, 1) := by decide +kernel
theorem dX5_dueFor_135 : decode cX5_dueFor 135 = .ok (.iaload, 1) := by decide +kernel
theorem dX5_dueFor_136 : decode cX5_dueFor 136 = .ok (.ireturn, 1) := by decide +kernel
set_option maxRecDepth 20000 in
theorem ggX5_dueAll_X5_dueFor : GoodIn wsX5_dueAll wsX5_dueFor := goodIn_r _ [5, 6, 7, 8, 9, 10, 11, 12, 13, 14, 15, 16, 17, 18, 19, 20, 21, 22, 23, 24, 25, 26, 27, 28, 29, 30, 31, 32, 33, 34, 35, 36, 37, 38, 39, 40, 41, 42, 43] (by decide +kernel) (by decide +kernel)
set_option maxRecDepth 20000 in
theorem gX5_dueAll_X5_dueFor : GoodIn wsX5_dueAll (wsV RX5 108 RX5 yX5_dueFor wsX5_dueFor) := goodIn_app (goodIn_of _ (by decide +kernel)) ggX5_dueAll_X5_dueFor
theorem dX5_dueAll_0 : decode cX5_dueAll 0 = .ok (.aload_n 0, 1) := by decide +kernel
theorem dX5_dueAll_1 : decode cX5_dueAll 1 = .ok (.iconst 0, 1) := by decide +kernel
theorem dX5_dueAll_2 : decode cX5_dueAll 2 = .ok (.invokevirtual 108, 3) := by decide +kernel
theorem dX5_dueAll_5 : decode cX5_dueAll 5 = .ok (.aload_n 0, 1) := by decide +kernel
theorem dX5_dueAll_6 : decode cX5_dueAll 6 = .ok (.iconst 1, 1) := by decide +kernel
theorem dX5_dueAll_7 : decode cX5_dueAll 7 = .ok (.invokevirtual 108, 3) := by decide +kernel
theorem dX5_dueAll_10 : decode cX5_dueAll 10 = .ok (.iadd, 1) := by decide +kernel
theorem dX5_dueAll_11 : decode cX5_dueAll 11 = .ok (.aload_n 0, 1) := by decide +kernel
theorem dX5_dueAll_12 : decode cX5_dueAll 12 = .ok (.iconst 2, 1) := by decide +kernel
theorem dX5_dueAll_13 : decode cX5_dueAll 13 = .ok (.invokevirtual 108, 3) := by decide +kernel
theorem dX5_dueAll_16 : decode cX5_dueAll 16 = .ok (.iadd, 1) := by decide +kernel
theorem dX5_dueAll_17 : decode cX5_dueAll 17 = .ok (.ireturn, 1) := by decide +kernel
set_option maxRecDepth 20000 in
theorem ggX5_open_X5_dueAll : GoodIn wsX5_open wsX5_dueAll := goodIn_r _ [7, 8, 9, 10, 6, 11, 12, 13, 14, 15, 16, 17, 18, 19, 20, 21, 22, 23, 24, 25, 26, 27, 28, 29, 30, 31, 32, 33, 34, 35, 36, 37, 38, 39, 40, 41, 42, 43, 44, 45, 46, 47, 48, 49] (by decide +kernel) (by decide +kernel)
set_option maxRecDepth 20000 in
theorem gX5_open_X5_dueAll : GoodIn wsX5_open (wsV RX5 112 RX5 yX5_dueAll wsX5_dueAll) := goodIn_app (goodIn_of _ (by decide +kernel)) ggX5_open_X5_dueAll
theorem dX5_open_0 : decode cX5_open 0 = .ok (.aload_n 0, 1) := by decide +kernel
theorem dX5_open_1 : decode cX5_open 1 = .ok (.invokevirtual 112, 3) := by decide +kernel
theorem dX5_open_4 : decode cX5_open 4 = .ok (.aload_n 0, 1) := by decide +kernel
theorem dX5_open_5 : decode cX5_open 5 = .ok (.getfield 116, 3) := by decide +kernel
theorem dX5_open_8 : decode cX5_open 8 = .ok (.isub, 1) := by decide +kernel
theorem dX5_open_9 : decode cX5_open 9 = .ok (.aload_n 0, 1) := by decide +kernel
theorem dX5_open_10 : decode cX5_open 10 = .ok (.getfield 119, 3) := by decide +kernel
theorem dX5_open_13 : decode cX5_open 13 = .ok (.isub, 1) := by decide +kernel
theorem dX5_open_14 : decode cX5_open 14 = .ok (.ireturn, 1) := by decide +kernel
set_option maxRecDepth 20000 in
theorem ggX5_settles_X5_open : GoodIn wsX5_settles wsX5_open := goodIn_r _ [8, 3, 9, 10, 11, 12, 7, 13, 14, 15, 16, 17, 18, 19, 1, 20, 21, 22, 23, 33, 34, 35, 36, 37, 38, 39, 40, 41, 42, 43, 44, 45, 46, 47, 48, 49, 50, 51, 52, 53, 54, 55, 56, 57, 58, 59, 60, 61, 62, 63] (by decide +kernel) (by decide +kernel)
set_option maxRecDepth 20000 in
theorem gX5_settles_X5_open : GoodIn wsX5_settles (wsV RX5 122 RX5 yX5_open wsX5_open) := goodIn_app (goodIn_of _ (by decide +kernel)) ggX5_settles_X5_open
set_option maxRecDepth 20000 in
theorem ggX5_settles_X5_frees : GoodIn wsX5_settles wsX5_frees := goodIn_r _ [27, 28, 29, 30, 18, 1, 31, 2, 32, 33, 34, 35, 36, 37, 38, 39, 40, 41, 42, 43, 44, 45, 46, 47, 48, 49, 50, 51, 52, 53, 54, 55, 56, 57, 58, 59, 60, 61, 62, 63] (by decide +kernel) (by decide +kernel)
set_option maxRecDepth 20000 in
theorem gX5_settles_X5_frees : GoodIn wsX5_settles (wsV RX5 102 RX5 yX5_frees wsX5_frees) := goodIn_app (goodIn_of _ (by decide +kernel)) ggX5_settles_X5_frees
theorem dX5_settles_0 : decode cX5_settles 0 = .ok (.aload_n 0, 1) := by decide +kernel
theorem dX5_settles_1 : decode cX5_settles 1 = .ok (.getfield 47, 3) := by decide +kernel
theorem dX5_settles_4 : decode cX5_settles 4 = .ok (.iload_n 1, 1) := by decide +kernel
theorem dX5_settles_5 : decode cX5_settles 5 = .ok (.iload_n 2, 1) := by decide +kernel
theorem dX5_settles_6 : decode cX5_settles 6 = .ok (.iastore, 1) := by decide +kernel
theorem dX5_settles_7 : decode cX5_settles 7 = .ok (.aload_n 0, 1) := by decide +kernel
theorem dX5_settles_8 : decode cX5_settles 8 = .ok (.invokevirtual 122, 3) := by decide +kernel
theorem dX5_settles_11 : decode cX5_settles 11 = .ok (.aload_n 0, 1) := by decide +kernel
theorem dX5_settles_12 : decode cX5_settles 12 = .ok (.getfield 90, 3) := by decide +kernel
theorem dX5_settles_15 : decode cX5_settles 15 = .ok (.if_icmp .ge 10, 3) := by decide +kernel
theorem dX5_settles_18 : decode cX5_settles 18 = .ok (.aload_n 0, 1) := by decide +kernel
theorem dX5_settles_19 : decode cX5_settles 19 = .ok (.invokevirtual 122, 3) := by decide +kernel
theorem dX5_settles_22 : decode cX5_settles 22 = .ok (.goto 7, 3) := by decide +kernel
theorem dX5_settles_25 : decode cX5_settles 25 = .ok (.aload_n 0, 1) := by decide +kernel
theorem dX5_settles_26 : decode cX5_settles 26 = .ok (.getfield 90, 3) := by decide +kernel
theorem dX5_settles_29 : decode cX5_settles 29 = .ok (.istore_n 3, 1) := by decide +kernel
theorem dX5_settles_30 : decode cX5_settles 30 = .ok (.aload_n 0, 1) := by decide +kernel
theorem dX5_settles_31 : decode cX5_settles 31 = .ok (.dup, 1) := by decide +kernel
theorem dX5_settles_32 : decode cX5_settles 32 = .ok (.getfield 90, 3) := by decide +kernel
theorem dX5_settles_35 : decode cX5_settles 35 = .ok (.iload_n 3, 1) := by decide +kernel
theorem dX5_settles_36 : decode cX5_settles 36 = .ok (.isub, 1) := by decide +kernel
theorem dX5_settles_37 : decode cX5_settles 37 = .ok (.putfield 90, 3) := by decide +kernel
theorem dX5_settles_40 : decode cX5_settles 40 = .ok (.aload_n 0, 1) := by decide +kernel
theorem dX5_settles_41 : decode cX5_settles 41 = .ok (.dup, 1) := by decide +kernel
theorem dX5_settles_42 : decode cX5_settles 42 = .ok (.getfield 116, 3) := by decide +kernel
theorem dX5_settles_45 : decode cX5_settles 45 = .ok (.iload_n 3, 1) := by decide +kernel
theorem dX5_settles_46 : decode cX5_settles 46 = .ok (.iadd, 1) := by decide +kernel
theorem dX5_settles_47 : decode cX5_settles 47 = .ok (.putfield 116, 3) := by decide +kernel
theorem dX5_settles_50 : decode cX5_settles 50 = .ok (.aload_n 0, 1) := by decide +kernel
theorem dX5_settles_51 : decode cX5_settles 51 = .ok (.invokevirtual 102, 3) := by decide +kernel
theorem dX5_settles_54 : decode cX5_settles 54 = .ok (.iload_n 3, 1) := by decide +kernel
theorem dX5_settles_55 : decode cX5_settles 55 = .ok (.ireturn, 1) := by decide +kernel
set_option maxRecDepth 20000 in
theorem ggX5_agree_X5_isClaim : GoodIn wsX5_agree wsX5_isClaim := goodIn_r _ [7, 8, 9, 10, 6, 11, 50, 51, 52, 53, 54, 55, 56, 57, 58, 59, 60, 61, 62, 63, 64, 65, 66, 67, 68, 69, 70, 71, 72, 73, 74, 75, 76, 77, 78, 79, 80] (by decide +kernel) (by decide +kernel)
set_option maxRecDepth 20000 in
theorem gX5_agree_X5_isClaim : GoodIn wsX5_agree (wsV RX5 105 RX5 yX5_isClaim wsX5_isClaim) := goodIn_app (goodIn_of _ (by decide +kernel)) ggX5_agree_X5_isClaim
set_option maxRecDepth 20000 in
theorem ggX5_agree_X5_isFine : GoodIn wsX5_agree wsX5_isFine := goodIn_r _ [15, 16, 50, 51, 52, 53, 54, 55, 56, 57, 58, 59, 60, 61, 62, 63, 64, 65, 66, 67, 68, 69, 70, 71, 72, 73, 74, 75, 76, 77, 78, 79, 80] (by decide +kernel) (by decide +kernel)
set_option maxRecDepth 20000 in
theorem gX5_agree_X5_isFine : GoodIn wsX5_agree (wsV RX5 70 RX5 yX5_isFine wsX5_isFine) := goodIn_app (goodIn_of _ (by decide +kernel)) ggX5_agree_X5_isFine
set_option maxRecDepth 20000 in
theorem ggX5_agree_X5_settles : GoodIn wsX5_agree wsX5_settles := goodIn_r _ [20, 1, 21, 22, 23, 24, 25, 6, 26, 27, 28, 29, 30, 31, 32, 33, 34, 35, 8, 36, 37, 38, 39, 40, 41, 42, 43, 44, 45, 46, 47, 48, 49, 50, 51, 52, 53, 54, 55, 56, 57, 58, 59, 60, 61, 62, 63, 64, 65, 66, 67, 68, 69, 70, 71, 72, 73, 74, 75, 76, 77, 78, 79, 80] (by decide +kernel) (by decide +kernel)
set_option maxRecDepth 20000 in
theorem gX5_agree_X5_settles : GoodIn wsX5_agree (wsV RX5 125 RX5 yX5_settles wsX5_settles) := goodIn_app (goodIn_of _ (by decide +kernel)) ggX5_agree_X5_settles
theorem dX5_agree_0 : decode cX5_agree 0 = .ok (.aload_n 0, 1) := by decide +kernel
theorem dX5_agree_1 : decode cX5_agree 1 = .ok (.iload_n 1, 1) := by decide +kernel
theorem dX5_agree_2 : decode cX5_agree 2 = .ok (.invokevirtual 105, 3) := by decide +kernel
theorem dX5_agree_5 : decode cX5_agree 5 = .ok (.ifCond .ne 7, 3) := by decide +kernel
theorem dX5_agree_8 : decode cX5_agree 8 = .ok (.iconst 1, 1) := by decide +kernel
theorem dX5_agree_9 : decode cX5_agree 9 = .ok (.goto 28, 3) := by decide +kernel
theorem dX5_agree_12 : decode cX5_agree 12 = .ok (.aload_n 0, 1) := by decide +kernel
theorem dX5_agree_13 : decode cX5_agree 13 = .ok (.getfield 47, 3) := by decide +kernel
theorem dX5_agree_16 : decode cX5_agree 16 = .ok (.iload_n 1, 1) := by decide +kernel
theorem dX5_agree_17 : decode cX5_agree 17 = .ok (.iaload, 1) := by decide +kernel
theorem dX5_agree_18 : decode cX5_agree 18 = .ok (.iconst (-1), 1) := by decide +kernel
theorem dX5_agree_19 : decode cX5_agree 19 = .ok (.if_icmp .ne 13, 3) := by decide +kernel
theorem dX5_agree_22 : decode cX5_agree 22 = .ok (.aload_n 0, 1) := by decide +kernel
theorem dX5_agree_23 : decode cX5_agree 23 = .ok (.getfield 44, 3) := by decide +kernel
theorem dX5_agree_26 : decode cX5_agree 26 = .ok (.iload_n 1, 1) := by decide +kernel
theorem dX5_agree_27 : decode cX5_agree 27 = .ok (.iaload, 1) := by decide +kernel
theorem dX5_agree_28 : decode cX5_agree 28 = .ok (.iconst (-1), 1) := by decide +kernel
theorem dX5_agree_29 : decode cX5_agree 29 = .ok (.if_icmp .ne 7, 3) := by decide +kernel
theorem dX5_agree_32 : decode cX5_agree 32 = .ok (.iconst 2, 1) := by decide +kernel
theorem dX5_agree_33 : decode cX5_agree 33 = .ok (.goto 4, 3) := by decide +kernel
theorem dX5_agree_36 : decode cX5_agree 36 = .ok (.iconst 0, 1) := by decide +kernel
theorem dX5_agree_37 : decode cX5_agree 37 = .ok (.istore_n 2, 1) := by decide +kernel
theorem dX5_agree_38 : decode cX5_agree 38 = .ok (.aload_n 0, 1) := by decide +kernel
theorem dX5_agree_39 : decode cX5_agree 39 = .ok (.iload_n 2, 1) := by decide +kernel
theorem dX5_agree_40 : decode cX5_agree 40 = .ok (.invokevirtual 70, 3) := by decide +kernel
theorem dX5_agree_43 : decode cX5_agree 43 = .ok (.ifCond .eq 17, 3) := by decide +kernel
theorem dX5_agree_46 : decode cX5_agree 46 = .ok (.aload_n 0, 1) := by decide +kernel
theorem dX5_agree_47 : decode cX5_agree 47 = .ok (.iload_n 1, 1) := by decide +kernel
theorem dX5_agree_48 : decode cX5_agree 48 = .ok (.aload_n 0, 1) := by decide +kernel
theorem dX5_agree_49 : decode cX5_agree 49 = .ok (.getfield 44, 3) := by decide +kernel
theorem dX5_agree_52 : decode cX5_agree 52 = .ok (.iload_n 1, 1) := by decide +kernel
theorem dX5_agree_53 : decode cX5_agree 53 = .ok (.iaload, 1) := by decide +kernel
theorem dX5_agree_54 : decode cX5_agree 54 = .ok (.invokevirtual 125, 3) := by decide +kernel
theorem dX5_agree_57 : decode cX5_agree 57 = .ok (.goto 4, 3) := by decide +kernel
theorem dX5_agree_60 : decode cX5_agree 60 = .ok (.iconst 0, 1) := by decide +kernel
theorem dX5_agree_61 : decode cX5_agree 61 = .ok (.ireturn, 1) := by decide +kernel
set_option maxRecDepth 20000 in
theorem ggX5_decide_X5_isClaim : GoodIn wsX5_decide wsX5_isClaim := goodIn_r _ [8, 9, 10, 11, 7, 12, 50, 51, 52, 53, 54, 55, 56, 57, 58, 59, 60, 61, 62, 63, 64, 65, 66, 67, 68, 69, 70, 71, 72, 73, 74, 75, 76, 77, 78, 79, 80] (by decide +kernel) (by decide +kernel)
set_option maxRecDepth 20000 in
theorem gX5_decide_X5_isClaim : GoodIn wsX5_decide (wsV RX5 105 RX5 yX5_isClaim wsX5_isClaim) := goodIn_app (goodIn_of _ (by decide +kernel)) ggX5_decide_X5_isClaim
set_option maxRecDepth 20000 in
theorem ggX5_decide_X5_in : GoodIn wsX5_decide wsX5_in := goodIn_r _ [12] (by decide +kernel) (by decide +kernel)
set_option maxRecDepth 20000 in
theorem gX5_decide_X5_in : GoodIn wsX5_decide (va_wsS RX5 61 yX5_in wsX5_in) := goodIn_app (goodIn_of _ (by decide +kernel)) ggX5_decide_X5_in
set_option maxRecDepth 20000 in
theorem ggX5_decide_X5_isFine : GoodIn wsX5_decide wsX5_isFine := goodIn_r _ [16, 17, 50, 51, 52, 53, 54, 55, 56, 57, 58, 59, 60, 61, 62, 63, 64, 65, 66, 67, 68, 69, 70, 71, 72, 73, 74, 75, 76, 77, 78, 79, 80] (by decide +kernel) (by decide +kernel)
set_option maxRecDepth 20000 in
theorem gX5_decide_X5_isFine : GoodIn wsX5_decide (wsV RX5 70 RX5 yX5_isFine wsX5_isFine) := goodIn_app (goodIn_of _ (by decide +kernel)) ggX5_decide_X5_isFine
set_option maxRecDepth 20000 in
theorem ggX5_decide_X5_settles : GoodIn wsX5_decide wsX5_settles := goodIn_r _ [21, 1, 22, 23, 24, 25, 26, 7, 27, 28, 29, 30, 31, 32, 33, 34, 35, 36, 9, 37, 38, 39, 40, 41, 42, 43, 44, 45, 46, 47, 48, 3, 49, 50, 51, 52, 53, 54, 55, 56, 57, 58, 59, 60, 61, 62, 63, 64, 65, 66, 67, 68, 69, 70, 71, 72, 73, 74, 75, 76, 77, 78, 79, 80] (by decide +kernel) (by decide +kernel)
set_option maxRecDepth 20000 in
theorem gX5_decide_X5_settles : GoodIn wsX5_decide (wsV RX5 125 RX5 yX5_settles wsX5_settles) := goodIn_app (goodIn_of _ (by decide +kernel)) ggX5_decide_X5_settles
theorem dX5_decide_0 : decode cX5_decide 0 = .ok (.aload_n 0, 1) := by decide +kernel
theorem dX5_decide_1 : decode cX5_decide 1 = .ok (.iload_n 1, 1) := by decide +kernel
theorem dX5_decide_2 : decode cX5_decide 2 = .ok (.invokevirtual 105, 3) := by decide +kernel
theorem dX5_decide_5 : decode cX5_decide 5 = .ok (.ifCond .ne 7, 3) := by decide +kernel
theorem dX5_decide_8 : decode cX5_decide 8 = .ok (.iconst 1, 1) := by decide +kernel
theorem dX5_decide_9 : decode cX5_decide 9 = .ok (.goto 18, 3) := by decide +kernel
theorem dX5_decide_12 : decode cX5_decide 12 = .ok (.aload_n 0, 1) := by decide +kernel
theorem dX5_decide_13 : decode cX5_decide 13 = .ok (.getfield 47, 3) := by decide +kernel
theorem dX5_decide_16 : decode cX5_decide 16 = .ok (.iload_n 1, 1) := by decide +kernel
theorem dX5_decide_17 : decode cX5_decide 17 = .ok (.iaload, 1) := by decide +kernel
theorem dX5_decide_18 : decode cX5_decide 18 = .ok (.iconst (-1), 1) := by decide +kernel
theorem dX5_decide_19 : decode cX5_decide 19 = .ok (.if_icmp .eq 7, 3) := by decide +kernel
theorem dX5_decide_22 : decode cX5_decide 22 = .ok (.iconst 2, 1) := by decide +kernel
theorem dX5_decide_23 : decode cX5_decide 23 = .ok (.goto 4, 3) := by decide +kernel
theorem dX5_decide_26 : decode cX5_decide 26 = .ok (.iconst 0, 1) := by decide +kernel
theorem dX5_decide_27 : decode cX5_decide 27 = .ok (.istore_n 3, 1) := by decide +kernel
theorem dX5_decide_28 : decode cX5_decide 28 = .ok (.iload_n 3, 1) := by decide +kernel
theorem dX5_decide_29 : decode cX5_decide 29 = .ok (.ifCond .ne 38, 3) := by decide +kernel
theorem dX5_decide_32 : decode cX5_decide 32 = .ok (.iload_n 2, 1) := by decide +kernel
theorem dX5_decide_33 : decode cX5_decide 33 = .ok (.aload_n 0, 1) := by decide +kernel
theorem dX5_decide_34 : decode cX5_decide 34 = .ok (.getfield 44, 3) := by decide +kernel
theorem dX5_decide_37 : decode cX5_decide 37 = .ok (.iload_n 1, 1) := by decide +kernel
theorem dX5_decide_38 : decode cX5_decide 38 = .ok (.iaload, 1) := by decide +kernel
theorem dX5_decide_39 : decode cX5_decide 39 = .ok (.iconst (-1), 1) := by decide +kernel
theorem dX5_decide_40 : decode cX5_decide 40 = .ok (.if_icmp .ne 7, 3) := by decide +kernel
theorem dX5_decide_43 : decode cX5_decide 43 = .ok (.iconst 0, 1) := by decide +kernel
theorem dX5_decide_44 : decode cX5_decide 44 = .ok (.goto 9, 3) := by decide +kernel
theorem dX5_decide_47 : decode cX5_decide 47 = .ok (.aload_n 0, 1) := by decide +kernel
theorem dX5_decide_48 : decode cX5_decide 48 = .ok (.getfield 44, 3) := by decide +kernel
theorem dX5_decide_51 : decode cX5_decide 51 = .ok (.iload_n 1, 1) := by decide +kernel
theorem dX5_decide_52 : decode cX5_decide 52 = .ok (.iaload, 1) := by decide +kernel
theorem dX5_decide_53 : decode cX5_decide 53 = .ok (.aload_n 0, 1) := by decide +kernel
theorem dX5_decide_54 : decode cX5_decide 54 = .ok (.getfield 41, 3) := by decide +kernel
theorem dX5_decide_57 : decode cX5_decide 57 = .ok (.iload_n 1, 1) := by decide +kernel
theorem dX5_decide_58 : decode cX5_decide 58 = .ok (.iaload, 1) := by decide +kernel
theorem dX5_decide_59 : decode cX5_decide 59 = .ok (.invokestatic 61, 3) := by decide +kernel
theorem dX5_decide_62 : decode cX5_decide 62 = .ok (.ifCond .ne 5, 3) := by decide +kernel
theorem dX5_decide_65 : decode cX5_decide 65 = .ok (.iconst 3, 1) := by decide +kernel
theorem dX5_decide_66 : decode cX5_decide 66 = .ok (.istore_n 3, 1) := by decide +kernel
theorem dX5_decide_67 : decode cX5_decide 67 = .ok (.aload_n 0, 1) := by decide +kernel
theorem dX5_decide_68 : decode cX5_decide 68 = .ok (.iload_n 3, 1) := by decide +kernel
theorem dX5_decide_69 : decode cX5_decide 69 = .ok (.invokevirtual 70, 3) := by decide +kernel
theorem dX5_decide_72 : decode cX5_decide 72 = .ok (.ifCond .eq 12, 3) := by decide +kernel
theorem dX5_decide_75 : decode cX5_decide 75 = .ok (.aload_n 0, 1) := by decide +kernel
theorem dX5_decide_76 : decode cX5_decide 76 = .ok (.iload_n 1, 1) := by decide +kernel
theorem dX5_decide_77 : decode cX5_decide 77 = .ok (.iload_n 2, 1) := by decide +kernel
theorem dX5_decide_78 : decode cX5_decide 78 = .ok (.invokevirtual 125, 3) := by decide +kernel
theorem dX5_decide_81 : decode cX5_decide 81 = .ok (.goto 4, 3) := by decide +kernel
theorem dX5_decide_84 : decode cX5_decide 84 = .ok (.iconst 0, 1) := by decide +kernel
theorem dX5_decide_85 : decode cX5_decide 85 = .ok (.ireturn, 1) := by decide +kernel
set_option maxRecDepth 20000 in
theorem ggX5_owes_X5_open : GoodIn wsX5_owes wsX5_open := goodIn_r _ [8, 9, 1, 10, 11, 12, 7, 13, 14, 15, 16, 17, 18, 19, 20, 21, 22, 23, 24, 25, 26, 27, 28, 29, 30, 31, 32, 33, 34, 35, 36, 37, 38, 39, 40, 41, 42, 43, 44, 45, 46, 47, 48, 49, 50, 51, 52, 53, 54, 55] (by decide +kernel) (by decide +kernel)
set_option maxRecDepth 20000 in
theorem gX5_owes_X5_open : GoodIn wsX5_owes (wsV RX5 122 RX5 yX5_open wsX5_open) := goodIn_app (goodIn_of _ (by decide +kernel)) ggX5_owes_X5_open
theorem dX5_owes_0 : decode cX5_owes 0 = .ok (.aload_n 0, 1) := by decide +kernel
theorem dX5_owes_1 : decode cX5_owes 1 = .ok (.invokevirtual 122, 3) := by decide +kernel
theorem dX5_owes_4 : decode cX5_owes 4 = .ok (.iload_n 1, 1) := by decide +kernel
theorem dX5_owes_5 : decode cX5_owes 5 = .ok (.if_icmp .ge 10, 3) := by decide +kernel
theorem dX5_owes_8 : decode cX5_owes 8 = .ok (.aload_n 0, 1) := by decide +kernel
theorem dX5_owes_9 : decode cX5_owes 9 = .ok (.invokevirtual 122, 3) := by decide +kernel
theorem dX5_owes_12 : decode cX5_owes 12 = .ok (.goto 4, 3) := by decide +kernel
theorem dX5_owes_15 : decode cX5_owes 15 = .ok (.iload_n 1, 1) := by decide +kernel
theorem dX5_owes_16 : decode cX5_owes 16 = .ok (.istore_n 2, 1) := by decide +kernel
theorem dX5_owes_17 : decode cX5_owes 17 = .ok (.aload_n 0, 1) := by decide +kernel
theorem dX5_owes_18 : decode cX5_owes 18 = .ok (.dup, 1) := by decide +kernel
theorem dX5_owes_19 : decode cX5_owes 19 = .ok (.getfield 119, 3) := by decide +kernel
theorem dX5_owes_22 : decode cX5_owes 22 = .ok (.iload_n 2, 1) := by decide +kernel
theorem dX5_owes_23 : decode cX5_owes 23 = .ok (.iadd, 1) := by decide +kernel
theorem dX5_owes_24 : decode cX5_owes 24 = .ok (.putfield 119, 3) := by decide +kernel
theorem dX5_owes_27 : decode cX5_owes 27 = .ok (.aload_n 0, 1) := by decide +kernel
theorem dX5_owes_28 : decode cX5_owes 28 = .ok (.dup, 1) := by decide +kernel
theorem dX5_owes_29 : decode cX5_owes 29 = .ok (.getfield 93, 3) := by decide +kernel
theorem dX5_owes_32 : decode cX5_owes 32 = .ok (.iload_n 1, 1) := by decide +kernel
theorem dX5_owes_33 : decode cX5_owes 33 = .ok (.iload_n 2, 1) := by decide +kernel
theorem dX5_owes_34 : decode cX5_owes 34 = .ok (.isub, 1) := by decide +kernel
theorem dX5_owes_35 : decode cX5_owes 35 = .ok (.iadd, 1) := by decide +kernel
theorem dX5_owes_36 : decode cX5_owes 36 = .ok (.putfield 93, 3) := by decide +kernel
theorem dX5_owes_39 : decode cX5_owes 39 = .ok (.aload_n 0, 1) := by decide +kernel
theorem dX5_owes_40 : decode cX5_owes 40 = .ok (.dup, 1) := by decide +kernel
theorem dX5_owes_41 : decode cX5_owes 41 = .ok (.getfield 129, 3) := by decide +kernel
theorem dX5_owes_44 : decode cX5_owes 44 = .ok (.iload_n 1, 1) := by decide +kernel
theorem dX5_owes_45 : decode cX5_owes 45 = .ok (.iadd, 1) := by decide +kernel
theorem dX5_owes_46 : decode cX5_owes 46 = .ok (.putfield 129, 3) := by decide +kernel
theorem dX5_owes_49 : decode cX5_owes 49 = .ok (.iload_n 1, 1) := by decide +kernel
theorem dX5_owes_50 : decode cX5_owes 50 = .ok (.ireturn, 1) := by decide +kernel
set_option maxRecDepth 20000 in
theorem ggX5_report_X5_in : GoodIn wsX5_report wsX5_in := goodIn_r _ [14] (by decide +kernel) (by decide +kernel)
set_option maxRecDepth 20000 in
theorem gX5_report_X5_in : GoodIn wsX5_report (va_wsS RX5 61 yX5_in wsX5_in) := goodIn_app (goodIn_of _ (by decide +kernel)) ggX5_report_X5_in
set_option maxRecDepth 20000 in
theorem ggX5_report_X5_isFine : GoodIn wsX5_report wsX5_isFine := goodIn_r _ [18, 19, 47, 48, 49, 50, 51, 52, 53, 54, 55, 56, 57, 58, 59, 60, 61, 62, 63, 64, 65, 66, 67, 68, 69, 70, 71, 72, 73, 74, 75, 76, 77] (by decide +kernel) (by decide +kernel)
set_option maxRecDepth 20000 in
theorem gX5_report_X5_isFine : GoodIn wsX5_report (wsV RX5 70 RX5 yX5_isFine wsX5_isFine) := goodIn_app (goodIn_of _ (by decide +kernel)) ggX5_report_X5_isFine
set_option maxRecDepth 20000 in
theorem ggX5_report_X5_owes : GoodIn wsX5_report wsX5_owes := goodIn_r _ [23, 24, 25, 26, 27, 28, 29, 13, 30, 31, 32, 33, 34, 35, 36, 37, 38, 39, 40, 41, 42, 43, 44, 45, 46, 47, 48, 49, 50, 51, 52, 53, 54, 55, 56, 57, 58, 59, 60, 61, 62, 63, 64, 65, 66, 67, 68, 69, 70, 71, 72, 73, 74, 75, 76, 77] (by decide +kernel) (by decide +kernel)
set_option maxRecDepth 20000 in
theorem gX5_report_X5_owes : GoodIn wsX5_report (wsV RX5 138 RX5 yX5_owes wsX5_owes) := goodIn_app (goodIn_of _ (by decide +kernel)) ggX5_report_X5_owes
theorem dX5_report_0 : decode cX5_report 0 = .ok (.aload_n 0, 1) := by decide +kernel
theorem dX5_report_1 : decode cX5_report 1 = .ok (.iload_n 1, 1) := by decide +kernel
theorem dX5_report_2 : decode cX5_report 2 = .ok (.ldc 65, 2) := by decide +kernel
theorem dX5_report_4 : decode cX5_report 4 = .ok (.ldc 60, 2) := by decide +kernel
theorem dX5_report_6 : decode cX5_report 6 = .ok (.invokestatic 61, 3) := by decide +kernel
theorem dX5_report_9 : decode cX5_report 9 = .ok (.ifCond .ne 7, 3) := by decide +kernel
theorem dX5_report_12 : decode cX5_report 12 = .ok (.iconst 1, 1) := by decide +kernel
theorem dX5_report_13 : decode cX5_report 13 = .ok (.goto 30, 3) := by decide +kernel
theorem dX5_report_16 : decode cX5_report 16 = .ok (.aload_n 0, 1) := by decide +kernel
theorem dX5_report_17 : decode cX5_report 17 = .ok (.getfield 66, 3) := by decide +kernel
theorem dX5_report_20 : decode cX5_report 20 = .ok (.ifCond .eq 18, 3) := by decide +kernel
theorem dX5_report_23 : decode cX5_report 23 = .ok (.aload_n 0, 1) := by decide +kernel
theorem dX5_report_24 : decode cX5_report 24 = .ok (.getfield 132, 3) := by decide +kernel
theorem dX5_report_27 : decode cX5_report 27 = .ok (.iconst 4, 1) := by decide +kernel
theorem dX5_report_28 : decode cX5_report 28 = .ok (.if_icmp .eq 10, 3) := by decide +kernel
theorem dX5_report_31 : decode cX5_report 31 = .ok (.aload_n 0, 1) := by decide +kernel
theorem dX5_report_32 : decode cX5_report 32 = .ok (.getfield 135, 3) := by decide +kernel
theorem dX5_report_35 : decode cX5_report 35 = .ok (.ifCond .eq 7, 3) := by decide +kernel
theorem dX5_report_38 : decode cX5_report 38 = .ok (.iconst 2, 1) := by decide +kernel
theorem dX5_report_39 : decode cX5_report 39 = .ok (.goto 4, 3) := by decide +kernel
theorem dX5_report_42 : decode cX5_report 42 = .ok (.iconst 0, 1) := by decide +kernel
theorem dX5_report_43 : decode cX5_report 43 = .ok (.invokevirtual 70, 3) := by decide +kernel
theorem dX5_report_46 : decode cX5_report 46 = .ok (.ifCond .ne 5, 3) := by decide +kernel
theorem dX5_report_49 : decode cX5_report 49 = .ok (.iconst 0, 1) := by decide +kernel
theorem dX5_report_50 : decode cX5_report 50 = .ok (.ireturn, 1) := by decide +kernel
theorem dX5_report_51 : decode cX5_report 51 = .ok (.aload_n 0, 1) := by decide +kernel
theorem dX5_report_52 : decode cX5_report 52 = .ok (.getfield 50, 3) := by decide +kernel
theorem dX5_report_55 : decode cX5_report 55 = .ok (.aload_n 0, 1) := by decide +kernel
theorem dX5_report_56 : decode cX5_report 56 = .ok (.getfield 132, 3) := by decide +kernel
theorem dX5_report_59 : decode cX5_report 59 = .ok (.iload_n 1, 1) := by decide +kernel
theorem dX5_report_60 : decode cX5_report 60 = .ok (.iastore, 1) := by decide +kernel
theorem dX5_report_61 : decode cX5_report 61 = .ok (.aload_n 0, 1) := by decide +kernel
theorem dX5_report_62 : decode cX5_report 62 = .ok (.dup, 1) := by decide +kernel
theorem dX5_report_63 : decode cX5_report 63 = .ok (.getfield 132, 3) := by decide +kernel
theorem dX5_report_66 : decode cX5_report 66 = .ok (.iconst 1, 1) := by decide +kernel
theorem dX5_report_67 : decode cX5_report 67 = .ok (.iadd, 1) := by decide +kernel
theorem dX5_report_68 : decode cX5_report 68 = .ok (.putfield 132, 3) := by decide +kernel
theorem dX5_report_71 : decode cX5_report 71 = .ok (.iconst 0, 1) := by decide +kernel
theorem dX5_report_72 : decode cX5_report 72 = .ok (.istore_n 2, 1) := by decide +kernel
theorem dX5_report_73 : decode cX5_report 73 = .ok (.iconst 0, 1) := by decide +kernel
theorem dX5_report_74 : decode cX5_report 74 = .ok (.istore_n 3, 1) := by decide +kernel
theorem dX5_report_75 : decode cX5_report 75 = .ok (.iconst 0, 1) := by decide +kernel
theorem dX5_report_76 : decode cX5_report 76 = .ok (.istore 4, 2) := by decide +kernel
theorem dX5_report_78 : decode cX5_report 78 = .ok (.iload 4, 2) := by decide +kernel
theorem dX5_report_80 : decode cX5_report 80 = .ok (.aload_n 0, 1) := by decide +kernel
theorem dX5_report_81 : decode cX5_report 81 = .ok (.getfield 132, 3) := by decide +kernel
theorem dX5_report_84 : decode cX5_report 84 = .ok (.if_icmp .ge 29, 3) := by decide +kernel
theorem dX5_report_87 : decode cX5_report 87 = .ok (.iload_n 2, 1) := by decide +kernel
theorem dX5_report_88 : decode cX5_report 88 = .ok (.aload_n 0, 1) := by decide +kernel
theorem dX5_report_89 : decode cX5_report 89 = .ok (.getfield 50, 3) := by decide +kernel
theorem dX5_report_92 : decode cX5_report 92 = .ok (.iload 4, 2) := by decide +kernel
theorem dX5_report_94 : decode cX5_report 94 = .ok (.iaload, 1) := by decide +kernel
theorem dX5_report_95 : decode cX5_report 95 = .ok (.iadd, 1) := by decide +kernel
theorem dX5_report_96 : decode cX5_report 96 = .ok (.istore_n 2, 1) := by decide +kernel
theorem dX5_report_97 : decode cX5_report 97 = .ok (.iload_n 3, 1) := by decide +kernel
theorem dX5_report_98 : decode cX5_report 98 = .ok (.aload_n 0, 1) := by decide +kernel
theorem dX5_report_99 : decode cX5_report 99 = .ok (.getfield 32, 3) := by decide +kernel
theorem dX5_report_102 : decode cX5_report 102 = .ok (.iload 4, 2) := by decide +kernel
theorem dX5_report_104 : decode cX5_report 104 = .ok (.iaload, 1) := by decide +kernel
theorem dX5_report_105 : decode cX5_report 105 = .ok (.iadd, 1) := by decide +kernel
theorem dX5_report_106 : decode cX5_report 106 = .ok (.istore_n 3, 1) := by decide +kernel
theorem dX5_report_107 : decode cX5_report 107 = .ok (.iinc 4 1, 3) := by decide +kernel
theorem dX5_report_110 : decode cX5_report 110 = .ok (.goto (-32), 3) := by decide +kernel
theorem dX5_report_113 : decode cX5_report 113 = .ok (.aload_n 0, 1) := by decide +kernel
theorem dX5_report_114 : decode cX5_report 114 = .ok (.getfield 84, 3) := by decide +kernel
theorem dX5_report_117 : decode cX5_report 117 = .ok (.ifCond .eq 12, 3) := by decide +kernel
theorem dX5_report_120 : decode cX5_report 120 = .ok (.iload_n 2, 1) := by decide +kernel
theorem dX5_report_121 : decode cX5_report 121 = .ok (.iload_n 3, 1) := by decide +kernel
theorem dX5_report_122 : decode cX5_report 122 = .ok (.if_icmp .lt 7, 3) := by decide +kernel
theorem dX5_report_125 : decode cX5_report 125 = .ok (.iconst 1, 1) := by decide +kernel
theorem dX5_report_126 : decode cX5_report 126 = .ok (.goto 4, 3) := by decide +kernel
theorem dX5_report_129 : decode cX5_report 129 = .ok (.iconst 0, 1) := by decide +kernel
theorem dX5_report_130 : decode cX5_report 130 = .ok (.istore 4, 2) := by decide +kernel
theorem dX5_report_132 : decode cX5_report 132 = .ok (.iconst 0, 1) := by decide +kernel
theorem dX5_report_133 : decode cX5_report 133 = .ok (.istore 5, 2) := by decide +kernel
theorem dX5_report_135 : decode cX5_report 135 = .ok (.iconst 0, 1) := by decide +kernel
theorem dX5_report_136 : decode cX5_report 136 = .ok (.istore 6, 2) := by decide +kernel
theorem dX5_report_138 : decode cX5_report 138 = .ok (.iload 6, 2) := by decide +kernel
theorem dX5_report_140 : decode cX5_report 140 = .ok (.aload_n 0, 1) := by decide +kernel
theorem dX5_report_141 : decode cX5_report 141 = .ok (.getfield 132, 3) := by decide +kernel
theorem dX5_report_144 : decode cX5_report 144 = .ok (.if_icmp .ge 101, 3) := by decide +kernel
theorem dX5_report_147 : decode cX5_report 147 = .ok (.iload 4, 2) := by decide +kernel
theorem dX5_report_149 : decode cX5_report 149 = .ok (.ifCond .ne 25, 3) := by decide +kernel
theorem dX5_report_152 : decode cX5_report 152 = .ok (.iload 6, 2) := by decide +kernel
theorem dX5_report_154 : decode cX5_report 154 = .ok (.aload_n 0, 1) := by decide +kernel
theorem dX5_report_155 : decode cX5_report 155 = .ok (.getfield 132, 3) := by decide +kernel
theorem dX5_report_158 : decode cX5_report 158 = .ok (.iconst 1, 1) := by decide +kernel
theorem dX5_report_159 : decode cX5_report 159 = .ok (.isub, 1) := by decide +kernel
theorem dX5_report_160 : decode cX5_report 160 = .ok (.if_icmp .ne 18, 3) := by decide +kernel
theorem dX5_report_163 : decode cX5_report 163 = .ok (.iload_n 1, 1) := by decide +kernel
theorem dX5_report_164 : decode cX5_report 164 = .ok (.aload_n 0, 1) := by decide +kernel
theorem dX5_report_165 : decode cX5_report 165 = .ok (.getfield 32, 3) := by decide +kernel
theorem dX5_report_168 : decode cX5_report 168 = .ok (.iload 6, 2) := by decide +kernel
theorem dX5_report_170 : decode cX5_report 170 = .ok (.iaload, 1) := by decide +kernel
theorem dX5_report_171 : decode cX5_report 171 = .ok (.if_icmp .lt 7, 3) := by decide +kernel
theorem dX5_report_174 : decode cX5_report 174 = .ok (.iconst 1, 1) := by decide +kernel
theorem dX5_report_175 : decode cX5_report 175 = .ok (.goto 4, 3) := by decide +kernel
theorem dX5_report_178 : decode cX5_report 178 = .ok (.iconst 0, 1) := by decide +kernel
theorem dX5_report_179 : decode cX5_report 179 = .ok (.istore 7, 2) := by decide +kernel
theorem dX5_report_181 : decode cX5_report 181 = .ok (.iload 5, 2) := by decide +kernel
theorem dX5_report_183 : decode cX5_report 183 = .ok (.iload 7, 2) := by decide +kernel
theorem dX5_report_185 : decode cX5_report 185 = .ok (.ifCond .eq 23, 3) := by decide +kernel
theorem dX5_report_188 : decode cX5_report 188 = .ok (.aload_n 0, 1) := by decide +kernel
theorem dX5_report_189 : decode cX5_report 189 = .ok (.getfield 53, 3) := by decide +kernel
theorem dX5_report_192 : decode cX5_report 192 = .ok (.iload 6, 2) := by decide +kernel
theorem dX5_report_194 : decode cX5_report 194 = .ok (.baload, 1) := by decide +kernel
theorem dX5_report_195 : decode cX5_report 195 = .ok (.ifCond .ne 13, 3) := by decide +kernel
theorem dX5_report_198 : decode cX5_report 198 = .ok (.aload_n 0, 1) := by decide +kernel
theorem dX5_report_199 : decode cX5_report 199 = .ok (.getfield 35, 3) := by decide +kernel
theorem dX5_report_202 : decode cX5_report 202 = .ok (.iload 6, 2) := by decide +kernel
theorem dX5_report_204 : decode cX5_report 204 = .ok (.iaload, 1) := by decide +kernel
theorem dX5_report_205 : decode cX5_report 205 = .ok (.goto 4, 3) := by decide +kernel
theorem dX5_report_208 : decode cX5_report 208 = .ok (.iconst 0, 1) := by decide +kernel
theorem dX5_report_209 : decode cX5_report 209 = .ok (.iadd, 1) := by decide +kernel
theorem dX5_report_210 : decode cX5_report 210 = .ok (.istore 5, 2) := by decide +kernel
theorem dX5_report_212 : decode cX5_report 212 = .ok (.aload_n 0, 1) := by decide +kernel
theorem dX5_report_213 : decode cX5_report 213 = .ok (.getfield 53, 3) := by decide +kernel
theorem dX5_report_216 : decode cX5_report 216 = .ok (.iload 6, 2) := by decide +kernel
theorem dX5_report_218 : decode cX5_report 218 = .ok (.aload_n 0, 1) := by decide +kernel
theorem dX5_report_219 : decode cX5_report 219 = .ok (.getfield 53, 3) := by decide +kernel
theorem dX5_report_222 : decode cX5_report 222 = .ok (.iload 6, 2) := by decide +kernel
theorem dX5_report_224 : decode cX5_report 224 = .ok (.baload, 1) := by decide +kernel
theorem dX5_report_225 : decode cX5_report 225 = .ok (.ifCond .ne 8, 3) := by decide +kernel
theorem dX5_report_228 : decode cX5_report 228 = .ok (.iload 7, 2) := by decide +kernel
theorem dX5_report_230 : decode cX5_report 230 = .ok (.ifCond .eq 7, 3) := by decide +kernel
theorem dX5_report_233 : decode cX5_report 233 = .ok (.iconst 1, 1) := by decide +kernel
theorem dX5_report_234 : decode cX5_report 234 = .ok (.goto 4, 3) := by decide +kernel
theorem dX5_report_237 : decode cX5_report 237 = .ok (.iconst 0, 1) := by decide +kernel
theorem dX5_report_238 : decode cX5_report 238 = .ok (.bastore, 1) := by decide +kernel
theorem dX5_report_239 : decode cX5_report 239 = .ok (.iinc 6 1, 3) := by decide +kernel
theorem dX5_report_242 : decode cX5_report 242 = .ok (.goto (-104), 3) := by decide +kernel
theorem dX5_report_245 : decode cX5_report 245 = .ok (.aload_n 0, 1) := by decide +kernel
theorem dX5_report_246 : decode cX5_report 246 = .ok (.iload 5, 2) := by decide +kernel
theorem dX5_report_248 : decode cX5_report 248 = .ok (.invokevirtual 138, 3) := by decide +kernel
theorem dX5_report_251 : decode cX5_report 251 = .ok (.ireturn, 1) := by decide +kernel
set_option maxRecDepth 20000 in
theorem ggX5_speedUp_X5_isFine : GoodIn wsX5_speedUp wsX5_isFine := goodIn_r _ [10, 11, 39, 40, 41, 42, 43, 44, 45, 46, 47, 48, 49, 50, 51, 52, 53, 54, 55, 56, 57, 58, 59, 60, 61, 62, 63, 64, 65, 66, 67, 68, 69] (by decide +kernel) (by decide +kernel)
set_option maxRecDepth 20000 in
theorem gX5_speedUp_X5_isFine : GoodIn wsX5_speedUp (wsV RX5 70 RX5 yX5_isFine wsX5_isFine) := goodIn_app (goodIn_of _ (by decide +kernel)) ggX5_speedUp_X5_isFine
set_option maxRecDepth 20000 in
theorem ggX5_speedUp_X5_owes : GoodIn wsX5_speedUp wsX5_owes := goodIn_r _ [15, 16, 17, 18, 19, 20, 21, 9, 22, 23, 24, 25, 26, 27, 28, 29, 30, 31, 32, 33, 34, 35, 36, 37, 38, 39, 40, 41, 42, 43, 44, 45, 46, 47, 48, 49, 50, 51, 52, 53, 54, 55, 56, 57, 58, 59, 60, 61, 62, 63, 64, 65, 66, 67, 68, 69] (by decide +kernel) (by decide +kernel)
set_option maxRecDepth 20000 in
theorem gX5_speedUp_X5_owes : GoodIn wsX5_speedUp (wsV RX5 138 RX5 yX5_owes wsX5_owes) := goodIn_app (goodIn_of _ (by decide +kernel)) ggX5_speedUp_X5_owes
theorem dX5_speedUp_0 : decode cX5_speedUp 0 = .ok (.aload_n 0, 1) := by decide +kernel
theorem dX5_speedUp_1 : decode cX5_speedUp 1 = .ok (.aload_n 0, 1) := by decide +kernel
theorem dX5_speedUp_2 : decode cX5_speedUp 2 = .ok (.getfield 66, 3) := by decide +kernel
theorem dX5_speedUp_5 : decode cX5_speedUp 5 = .ok (.ifCond .eq 10, 3) := by decide +kernel
theorem dX5_speedUp_8 : decode cX5_speedUp 8 = .ok (.aload_n 0, 1) := by decide +kernel
theorem dX5_speedUp_9 : decode cX5_speedUp 9 = .ok (.getfield 135, 3) := by decide +kernel
theorem dX5_speedUp_12 : decode cX5_speedUp 12 = .ok (.ifCond .eq 7, 3) := by decide +kernel
theorem dX5_speedUp_15 : decode cX5_speedUp 15 = .ok (.iconst 1, 1) := by decide +kernel
theorem dX5_speedUp_16 : decode cX5_speedUp 16 = .ok (.goto 4, 3) := by decide +kernel
theorem dX5_speedUp_19 : decode cX5_speedUp 19 = .ok (.iconst 0, 1) := by decide +kernel
theorem dX5_speedUp_20 : decode cX5_speedUp 20 = .ok (.invokevirtual 70, 3) := by decide +kernel
theorem dX5_speedUp_23 : decode cX5_speedUp 23 = .ok (.ifCond .ne 5, 3) := by decide +kernel
theorem dX5_speedUp_26 : decode cX5_speedUp 26 = .ok (.iconst 0, 1) := by decide +kernel
theorem dX5_speedUp_27 : decode cX5_speedUp 27 = .ok (.ireturn, 1) := by decide +kernel
theorem dX5_speedUp_28 : decode cX5_speedUp 28 = .ok (.aload_n 0, 1) := by decide +kernel
theorem dX5_speedUp_29 : decode cX5_speedUp 29 = .ok (.iconst 1, 1) := by decide +kernel
theorem dX5_speedUp_30 : decode cX5_speedUp 30 = .ok (.putfield 135, 3) := by decide +kernel
theorem dX5_speedUp_33 : decode cX5_speedUp 33 = .ok (.iconst 0, 1) := by decide +kernel
theorem dX5_speedUp_34 : decode cX5_speedUp 34 = .ok (.istore_n 1, 1) := by decide +kernel
theorem dX5_speedUp_35 : decode cX5_speedUp 35 = .ok (.aload_n 0, 1) := by decide +kernel
theorem dX5_speedUp_36 : decode cX5_speedUp 36 = .ok (.getfield 132, 3) := by decide +kernel
theorem dX5_speedUp_39 : decode cX5_speedUp 39 = .ok (.istore_n 2, 1) := by decide +kernel
theorem dX5_speedUp_40 : decode cX5_speedUp 40 = .ok (.iload_n 2, 1) := by decide +kernel
theorem dX5_speedUp_41 : decode cX5_speedUp 41 = .ok (.iconst 4, 1) := by decide +kernel
theorem dX5_speedUp_42 : decode cX5_speedUp 42 = .ok (.if_icmp .ge 25, 3) := by decide +kernel
theorem dX5_speedUp_45 : decode cX5_speedUp 45 = .ok (.aload_n 0, 1) := by decide +kernel
theorem dX5_speedUp_46 : decode cX5_speedUp 46 = .ok (.getfield 53, 3) := by decide +kernel
theorem dX5_speedUp_49 : decode cX5_speedUp 49 = .ok (.iload_n 2, 1) := by decide +kernel
theorem dX5_speedUp_50 : decode cX5_speedUp 50 = .ok (.iconst 1, 1) := by decide +kernel
theorem dX5_speedUp_51 : decode cX5_speedUp 51 = .ok (.bastore, 1) := by decide +kernel
theorem dX5_speedUp_52 : decode cX5_speedUp 52 = .ok (.iload_n 1, 1) := by decide +kernel
theorem dX5_speedUp_53 : decode cX5_speedUp 53 = .ok (.aload_n 0, 1) := by decide +kernel
theorem dX5_speedUp_54 : decode cX5_speedUp 54 = .ok (.getfield 35, 3) := by decide +kernel
theorem dX5_speedUp_57 : decode cX5_speedUp 57 = .ok (.iload_n 2, 1) := by decide +kernel
theorem dX5_speedUp_58 : decode cX5_speedUp 58 = .ok (.iaload, 1) := by decide +kernel
theorem dX5_speedUp_59 : decode cX5_speedUp 59 = .ok (.iadd, 1) := by decide +kernel
theorem dX5_speedUp_60 : decode cX5_speedUp 60 = .ok (.istore_n 1, 1) := by decide +kernel
theorem dX5_speedUp_61 : decode cX5_speedUp 61 = .ok (.iinc 2 1, 3) := by decide +kernel
theorem dX5_speedUp_64 : decode cX5_speedUp 64 = .ok (.goto (-24), 3) := by decide +kernel
theorem dX5_speedUp_67 : decode cX5_speedUp 67 = .ok (.aload_n 0, 1) := by decide +kernel
theorem dX5_speedUp_68 : decode cX5_speedUp 68 = .ok (.iload_n 1, 1) := by decide +kernel
theorem dX5_speedUp_69 : decode cX5_speedUp 69 = .ok (.invokevirtual 138, 3) := by decide +kernel
theorem dX5_speedUp_72 : decode cX5_speedUp 72 = .ok (.ireturn, 1) := by decide +kernel
theorem dX5_day_0 : decode cX5_day 0 = .ok (.aload_n 0, 1) := by decide +kernel
theorem dX5_day_1 : decode cX5_day 1 = .ok (.iconst 0, 1) := by decide +kernel
theorem dX5_day_2 : decode cX5_day 2 = .ok (.putfield 56, 3) := by decide +kernel
theorem dX5_day_5 : decode cX5_day 5 = .ok (.aload_n 0, 1) := by decide +kernel
theorem dX5_day_6 : decode cX5_day 6 = .ok (.getfield 66, 3) := by decide +kernel
theorem dX5_day_9 : decode cX5_day 9 = .ok (.ifCond .eq 10, 3) := by decide +kernel
theorem dX5_day_12 : decode cX5_day 12 = .ok (.aload_n 0, 1) := by decide +kernel
theorem dX5_day_13 : decode cX5_day 13 = .ok (.getfield 96, 3) := by decide +kernel
theorem dX5_day_16 : decode cX5_day 16 = .ok (.goto 4, 3) := by decide +kernel
theorem dX5_day_19 : decode cX5_day 19 = .ok (.iconst (-1), 1) := by decide +kernel
theorem dX5_day_20 : decode cX5_day 20 = .ok (.ireturn, 1) := by decide +kernel
theorem dX5_finalPrice_0 : decode cX5_finalPrice 0 = .ok (.aload_n 0, 1) := by decide +kernel
theorem dX5_finalPrice_1 : decode cX5_finalPrice 1 = .ok (.iconst 0, 1) := by decide +kernel
theorem dX5_finalPrice_2 : decode cX5_finalPrice 2 = .ok (.putfield 56, 3) := by decide +kernel
theorem dX5_finalPrice_5 : decode cX5_finalPrice 5 = .ok (.aload_n 0, 1) := by decide +kernel
theorem dX5_finalPrice_6 : decode cX5_finalPrice 6 = .ok (.getfield 66, 3) := by decide +kernel
theorem dX5_finalPrice_9 : decode cX5_finalPrice 9 = .ok (.ifCond .eq 10, 3) := by decide +kernel
theorem dX5_finalPrice_12 : decode cX5_finalPrice 12 = .ok (.aload_n 0, 1) := by decide +kernel
theorem dX5_finalPrice_13 : decode cX5_finalPrice 13 = .ok (.getfield 87, 3) := by decide +kernel
theorem dX5_finalPrice_16 : decode cX5_finalPrice 16 = .ok (.goto 4, 3) := by decide +kernel
theorem dX5_finalPrice_19 : decode cX5_finalPrice 19 = .ok (.iconst (-1), 1) := by decide +kernel
theorem dX5_finalPrice_20 : decode cX5_finalPrice 20 = .ok (.ireturn, 1) := by decide +kernel
theorem dX5_held_0 : decode cX5_held 0 = .ok (.aload_n 0, 1) := by decide +kernel
theorem dX5_held_1 : decode cX5_held 1 = .ok (.iconst 0, 1) := by decide +kernel
theorem dX5_held_2 : decode cX5_held 2 = .ok (.putfield 56, 3) := by decide +kernel
theorem dX5_held_5 : decode cX5_held 5 = .ok (.aload_n 0, 1) := by decide +kernel
theorem dX5_held_6 : decode cX5_held 6 = .ok (.getfield 90, 3) := by decide +kernel
theorem dX5_held_9 : decode cX5_held 9 = .ok (.ireturn, 1) := by decide +kernel
theorem dX5_paid_0 : decode cX5_paid 0 = .ok (.aload_n 0, 1) := by decide +kernel
theorem dX5_paid_1 : decode cX5_paid 1 = .ok (.iconst 0, 1) := by decide +kernel
theorem dX5_paid_2 : decode cX5_paid 2 = .ok (.putfield 56, 3) := by decide +kernel
theorem dX5_paid_5 : decode cX5_paid 5 = .ok (.aload_n 0, 1) := by decide +kernel
theorem dX5_paid_6 : decode cX5_paid 6 = .ok (.getfield 93, 3) := by decide +kernel
theorem dX5_paid_9 : decode cX5_paid 9 = .ok (.ireturn, 1) := by decide +kernel
theorem dX5_returned_0 : decode cX5_returned 0 = .ok (.aload_n 0, 1) := by decide +kernel
theorem dX5_returned_1 : decode cX5_returned 1 = .ok (.iconst 0, 1) := by decide +kernel
theorem dX5_returned_2 : decode cX5_returned 2 = .ok (.putfield 56, 3) := by decide +kernel
theorem dX5_returned_5 : decode cX5_returned 5 = .ok (.aload_n 0, 1) := by decide +kernel
theorem dX5_returned_6 : decode cX5_returned 6 = .ok (.getfield 116, 3) := by decide +kernel
theorem dX5_returned_9 : decode cX5_returned 9 = .ok (.ireturn, 1) := by decide +kernel
theorem dX5_setOff_0 : decode cX5_setOff 0 = .ok (.aload_n 0, 1) := by decide +kernel
theorem dX5_setOff_1 : decode cX5_setOff 1 = .ok (.iconst 0, 1) := by decide +kernel
theorem dX5_setOff_2 : decode cX5_setOff 2 = .ok (.putfield 56, 3) := by decide +kernel
theorem dX5_setOff_5 : decode cX5_setOff 5 = .ok (.aload_n 0, 1) := by decide +kernel
theorem dX5_setOff_6 : decode cX5_setOff 6 = .ok (.getfield 119, 3) := by decide +kernel
theorem dX5_setOff_9 : decode cX5_setOff 9 = .ok (.ireturn, 1) := by decide +kernel
theorem dX5_owed_0 : decode cX5_owed 0 = .ok (.aload_n 0, 1) := by decide +kernel
theorem dX5_owed_1 : decode cX5_owed 1 = .ok (.iconst 0, 1) := by decide +kernel
theorem dX5_owed_2 : decode cX5_owed 2 = .ok (.putfield 56, 3) := by decide +kernel
theorem dX5_owed_5 : decode cX5_owed 5 = .ok (.aload_n 0, 1) := by decide +kernel
theorem dX5_owed_6 : decode cX5_owed 6 = .ok (.getfield 129, 3) := by decide +kernel
theorem dX5_owed_9 : decode cX5_owed 9 = .ok (.ireturn, 1) := by decide +kernel
set_option maxRecDepth 20000 in
theorem ggX5_due_X5_dueAll : GoodIn wsX5_due wsX5_dueAll := goodIn_r _ [6, 7, 8, 9, 5, 10, 11, 12, 13, 14, 15, 16, 17, 18, 19, 20, 21, 22, 23, 24, 25, 26, 27, 28, 29, 30, 31, 32, 33, 34, 35, 36, 37, 38, 39, 40, 41, 42, 43, 44, 45, 46, 47, 48] (by decide +kernel) (by decide +kernel)
set_option maxRecDepth 20000 in
theorem gX5_due_X5_dueAll : GoodIn wsX5_due (wsV RX5 112 RX5 yX5_dueAll wsX5_dueAll) := goodIn_app (goodIn_of _ (by decide +kernel)) ggX5_due_X5_dueAll
theorem dX5_due_0 : decode cX5_due 0 = .ok (.aload_n 0, 1) := by decide +kernel
theorem dX5_due_1 : decode cX5_due 1 = .ok (.iconst 0, 1) := by decide +kernel
theorem dX5_due_2 : decode cX5_due 2 = .ok (.putfield 56, 3) := by decide +kernel
theorem dX5_due_5 : decode cX5_due 5 = .ok (.aload_n 0, 1) := by decide +kernel
theorem dX5_due_6 : decode cX5_due 6 = .ok (.invokevirtual 112, 3) := by decide +kernel
theorem dX5_due_9 : decode cX5_due 9 = .ok (.ireturn, 1) := by decide +kernel
set_option maxRecDepth 20000 in
theorem ggX5_outstanding_X5_open : GoodIn wsX5_outstanding wsX5_open := goodIn_r _ [6, 7, 8, 9, 10, 11, 5, 12, 13, 14, 15, 16, 17, 18, 19, 20, 21, 22, 23, 24, 25, 26, 27, 28, 29, 30, 31, 32, 33, 34, 35, 36, 37, 38, 39, 40, 41, 42, 43, 44, 45, 46, 47, 48, 49, 50, 51, 52, 53, 54] (by decide +kernel) (by decide +kernel)
set_option maxRecDepth 20000 in
theorem gX5_outstanding_X5_open : GoodIn wsX5_outstanding (wsV RX5 122 RX5 yX5_open wsX5_open) := goodIn_app (goodIn_of _ (by decide +kernel)) ggX5_outstanding_X5_open
theorem dX5_outstanding_0 : decode cX5_outstanding 0 = .ok (.aload_n 0, 1) := by decide +kernel
theorem dX5_outstanding_1 : decode cX5_outstanding 1 = .ok (.iconst 0, 1) := by decide +kernel
theorem dX5_outstanding_2 : decode cX5_outstanding 2 = .ok (.putfield 56, 3) := by decide +kernel
theorem dX5_outstanding_5 : decode cX5_outstanding 5 = .ok (.aload_n 0, 1) := by decide +kernel
theorem dX5_outstanding_6 : decode cX5_outstanding 6 = .ok (.invokevirtual 122, 3) := by decide +kernel
theorem dX5_outstanding_9 : decode cX5_outstanding 9 = .ok (.ireturn, 1) := by decide +kernel
set_option maxRecDepth 20000 in
theorem ggX5_dueOf_X5_in : GoodIn wsX5_dueOf wsX5_in := goodIn_r _ [4] (by decide +kernel) (by decide +kernel)
set_option maxRecDepth 20000 in
theorem gX5_dueOf_X5_in : GoodIn wsX5_dueOf (va_wsS RX5 61 yX5_in wsX5_in) := goodIn_app (goodIn_of _ (by decide +kernel)) ggX5_dueOf_X5_in
set_option maxRecDepth 20000 in
theorem ggX5_dueOf_X5_isFine : GoodIn wsX5_dueOf wsX5_isFine := goodIn_r _ [8, 9, 21, 22, 23, 24, 25, 26, 27, 28, 29, 30, 31, 32, 33, 34, 35, 36, 37, 38, 39, 40, 41, 42, 43, 44, 45, 46, 47, 48, 49, 50, 51] (by decide +kernel) (by decide +kernel)
set_option maxRecDepth 20000 in
theorem gX5_dueOf_X5_isFine : GoodIn wsX5_dueOf (wsV RX5 70 RX5 yX5_isFine wsX5_isFine) := goodIn_app (goodIn_of _ (by decide +kernel)) ggX5_dueOf_X5_isFine
set_option maxRecDepth 20000 in
theorem ggX5_dueOf_X5_dueFor : GoodIn wsX5_dueOf wsX5_dueFor := goodIn_r _ [13, 14, 15, 16, 17, 18, 19, 20, 21, 22, 23, 24, 25, 26, 27, 28, 29, 30, 31, 32, 33, 34, 35, 36, 37, 38, 39, 40, 41, 42, 43, 44, 45, 46, 47, 48, 49, 50, 51] (by decide +kernel) (by decide +kernel)
set_option maxRecDepth 20000 in
theorem gX5_dueOf_X5_dueFor : GoodIn wsX5_dueOf (wsV RX5 108 RX5 yX5_dueFor wsX5_dueFor) := goodIn_app (goodIn_of _ (by decide +kernel)) ggX5_dueOf_X5_dueFor
theorem dX5_dueOf_0 : decode cX5_dueOf 0 = .ok (.aload_n 0, 1) := by decide +kernel
theorem dX5_dueOf_1 : decode cX5_dueOf 1 = .ok (.iload_n 1, 1) := by decide +kernel
theorem dX5_dueOf_2 : decode cX5_dueOf 2 = .ok (.iconst 0, 1) := by decide +kernel
theorem dX5_dueOf_3 : decode cX5_dueOf 3 = .ok (.iconst 2, 1) := by decide +kernel
theorem dX5_dueOf_4 : decode cX5_dueOf 4 = .ok (.invokestatic 61, 3) := by decide +kernel
theorem dX5_dueOf_7 : decode cX5_dueOf 7 = .ok (.ifCond .eq 7, 3) := by decide +kernel
theorem dX5_dueOf_10 : decode cX5_dueOf 10 = .ok (.iconst 0, 1) := by decide +kernel
theorem dX5_dueOf_11 : decode cX5_dueOf 11 = .ok (.goto 4, 3) := by decide +kernel
theorem dX5_dueOf_14 : decode cX5_dueOf 14 = .ok (.iconst 1, 1) := by decide +kernel
theorem dX5_dueOf_15 : decode cX5_dueOf 15 = .ok (.invokevirtual 70, 3) := by decide +kernel
theorem dX5_dueOf_18 : decode cX5_dueOf 18 = .ok (.ifCond .eq 11, 3) := by decide +kernel
theorem dX5_dueOf_21 : decode cX5_dueOf 21 = .ok (.aload_n 0, 1) := by decide +kernel
theorem dX5_dueOf_22 : decode cX5_dueOf 22 = .ok (.iload_n 1, 1) := by decide +kernel
theorem dX5_dueOf_23 : decode cX5_dueOf 23 = .ok (.invokevirtual 108, 3) := by decide +kernel
theorem dX5_dueOf_26 : decode cX5_dueOf 26 = .ok (.goto 4, 3) := by decide +kernel
theorem dX5_dueOf_29 : decode cX5_dueOf 29 = .ok (.iconst 0, 1) := by decide +kernel
theorem dX5_dueOf_30 : decode cX5_dueOf 30 = .ok (.ireturn, 1) := by decide +kernel
theorem dX5_claims_0 : decode cX5_claims 0 = .ok (.aload_n 0, 1) := by decide +kernel
theorem dX5_claims_1 : decode cX5_claims 1 = .ok (.iconst 0, 1) := by decide +kernel
theorem dX5_claims_2 : decode cX5_claims 2 = .ok (.putfield 56, 3) := by decide +kernel
theorem dX5_claims_5 : decode cX5_claims 5 = .ok (.aload_n 0, 1) := by decide +kernel
theorem dX5_claims_6 : decode cX5_claims 6 = .ok (.getfield 99, 3) := by decide +kernel
theorem dX5_claims_9 : decode cX5_claims 9 = .ok (.ireturn, 1) := by decide +kernel
set_option maxRecDepth 20000 in
theorem ggX5_settledAt_X5_isClaim : GoodIn wsX5_settledAt wsX5_isClaim := goodIn_r _ [6, 7, 8, 9, 5, 10, 16, 17, 18, 19, 20, 21, 22, 23, 24, 25, 26, 27, 28, 29, 30, 31, 32, 33, 34, 35, 36, 37, 38, 39, 40, 41, 42, 43, 44, 45, 46] (by decide +kernel) (by decide +kernel)
set_option maxRecDepth 20000 in
theorem gX5_settledAt_X5_isClaim : GoodIn wsX5_settledAt (wsV RX5 105 RX5 yX5_isClaim wsX5_isClaim) := goodIn_app (goodIn_of _ (by decide +kernel)) ggX5_settledAt_X5_isClaim
set_option maxRecDepth 20000 in
theorem ggX5_settledAt_X5_isFine : GoodIn wsX5_settledAt wsX5_isFine := goodIn_r _ [14, 15, 16, 17, 18, 19, 20, 21, 22, 23, 24, 25, 26, 27, 28, 29, 30, 31, 32, 33, 34, 35, 36, 37, 38, 39, 40, 41, 42, 43, 44, 45, 46] (by decide +kernel) (by decide +kernel)
set_option maxRecDepth 20000 in
theorem gX5_settledAt_X5_isFine : GoodIn wsX5_settledAt (wsV RX5 70 RX5 yX5_isFine wsX5_isFine) := goodIn_app (goodIn_of _ (by decide +kernel)) ggX5_settledAt_X5_isFine
theorem dX5_settledAt_0 : decode cX5_settledAt 0 = .ok (.aload_n 0, 1) := by decide +kernel
theorem dX5_settledAt_1 : decode cX5_settledAt 1 = .ok (.aload_n 0, 1) := by decide +kernel
theorem dX5_settledAt_2 : decode cX5_settledAt 2 = .ok (.iload_n 1, 1) := by decide +kernel
theorem dX5_settledAt_3 : decode cX5_settledAt 3 = .ok (.invokevirtual 105, 3) := by decide +kernel
theorem dX5_settledAt_6 : decode cX5_settledAt 6 = .ok (.ifCond .eq 7, 3) := by decide +kernel
theorem dX5_settledAt_9 : decode cX5_settledAt 9 = .ok (.iconst 0, 1) := by decide +kernel
theorem dX5_settledAt_10 : decode cX5_settledAt 10 = .ok (.goto 4, 3) := by decide +kernel
theorem dX5_settledAt_13 : decode cX5_settledAt 13 = .ok (.iconst 1, 1) := by decide +kernel
theorem dX5_settledAt_14 : decode cX5_settledAt 14 = .ok (.invokevirtual 70, 3) := by decide +kernel
theorem dX5_settledAt_17 : decode cX5_settledAt 17 = .ok (.ifCond .eq 12, 3) := by decide +kernel
theorem dX5_settledAt_20 : decode cX5_settledAt 20 = .ok (.aload_n 0, 1) := by decide +kernel
theorem dX5_settledAt_21 : decode cX5_settledAt 21 = .ok (.getfield 47, 3) := by decide +kernel
theorem dX5_settledAt_24 : decode cX5_settledAt 24 = .ok (.iload_n 1, 1) := by decide +kernel
theorem dX5_settledAt_25 : decode cX5_settledAt 25 = .ok (.iaload, 1) := by decide +kernel
theorem dX5_settledAt_26 : decode cX5_settledAt 26 = .ok (.goto 4, 3) := by decide +kernel
theorem dX5_settledAt_29 : decode cX5_settledAt 29 = .ok (.iconst 0, 1) := by decide +kernel
theorem dX5_settledAt_30 : decode cX5_settledAt 30 = .ok (.ireturn, 1) := by decide +kernel
set_option maxRecDepth 20000 in
theorem ggX5_isMet_X5_in : GoodIn wsX5_isMet wsX5_in := goodIn_r _ [5] (by decide +kernel) (by decide +kernel)
set_option maxRecDepth 20000 in
theorem gX5_isMet_X5_in : GoodIn wsX5_isMet (va_wsS RX5 61 yX5_in wsX5_in) := goodIn_app (goodIn_of _ (by decide +kernel)) ggX5_isMet_X5_in
set_option maxRecDepth 20000 in
theorem ggX5_isMet_X5_isFine : GoodIn wsX5_isMet wsX5_isFine := goodIn_r _ [9, 10, 11, 12, 13, 14, 15, 16, 17, 18, 19, 20, 21, 22, 23, 24, 25, 26, 27, 28, 29, 30, 31, 32, 33, 34, 35, 36, 37, 38, 39, 40, 41] (by decide +kernel) (by decide +kernel)
set_option maxRecDepth 20000 in
theorem gX5_isMet_X5_isFine : GoodIn wsX5_isMet (wsV RX5 70 RX5 yX5_isFine wsX5_isFine) := goodIn_app (goodIn_of _ (by decide +kernel)) ggX5_isMet_X5_isFine
theorem dX5_isMet_0 : decode cX5_isMet 0 = .ok (.aload_n 0, 1) := by decide +kernel
theorem dX5_isMet_1 : decode cX5_isMet 1 = .ok (.iload_n 1, 1) := by decide +kernel
theorem dX5_isMet_2 : decode cX5_isMet 2 = .ok (.iconst 0, 1) := by decide +kernel
theorem dX5_isMet_3 : decode cX5_isMet 3 = .ok (.iconst 3, 1) := by decide +kernel
theorem dX5_isMet_4 : decode cX5_isMet 4 = .ok (.invokestatic 61, 3) := by decide +kernel
theorem dX5_isMet_7 : decode cX5_isMet 7 = .ok (.ifCond .eq 7, 3) := by decide +kernel
theorem dX5_isMet_10 : decode cX5_isMet 10 = .ok (.iconst 0, 1) := by decide +kernel
theorem dX5_isMet_11 : decode cX5_isMet 11 = .ok (.goto 4, 3) := by decide +kernel
theorem dX5_isMet_14 : decode cX5_isMet 14 = .ok (.iconst 1, 1) := by decide +kernel
theorem dX5_isMet_15 : decode cX5_isMet 15 = .ok (.invokevirtual 70, 3) := by decide +kernel
theorem dX5_isMet_18 : decode cX5_isMet 18 = .ok (.ifCond .eq 16, 3) := by decide +kernel
theorem dX5_isMet_21 : decode cX5_isMet 21 = .ok (.aload_n 0, 1) := by decide +kernel
theorem dX5_isMet_22 : decode cX5_isMet 22 = .ok (.getfield 53, 3) := by decide +kernel
theorem dX5_isMet_25 : decode cX5_isMet 25 = .ok (.iload_n 1, 1) := by decide +kernel
theorem dX5_isMet_26 : decode cX5_isMet 26 = .ok (.baload, 1) := by decide +kernel
theorem dX5_isMet_27 : decode cX5_isMet 27 = .ok (.ifCond .eq 7, 3) := by decide +kernel
theorem dX5_isMet_30 : decode cX5_isMet 30 = .ok (.iconst 1, 1) := by decide +kernel
theorem dX5_isMet_31 : decode cX5_isMet 31 = .ok (.goto 4, 3) := by decide +kernel
theorem dX5_isMet_34 : decode cX5_isMet 34 = .ok (.iconst 0, 1) := by decide +kernel
theorem dX5_isMet_35 : decode cX5_isMet 35 = .ok (.ireturn, 1) := by decide +kernel
theorem dJ9_max_7cf53_0 : decode cJ9_max_7cf53 0 = .ok (.iload_n 0, 1) := by decide +kernel
theorem dJ9_max_7cf53_1 : decode cJ9_max_7cf53 1 = .ok (.iload_n 1, 1) := by decide +kernel
theorem dJ9_max_7cf53_2 : decode cJ9_max_7cf53 2 = .ok (.if_icmp .lt 7, 3) := by decide +kernel
theorem dJ9_max_7cf53_5 : decode cJ9_max_7cf53 5 = .ok (.iload_n 0, 1) := by decide +kernel
theorem dJ9_max_7cf53_6 : decode cJ9_max_7cf53 6 = .ok (.goto 4, 3) := by decide +kernel
theorem dJ9_max_7cf53_9 : decode cJ9_max_7cf53 9 = .ok (.iload_n 1, 1) := by decide +kernel
theorem dJ9_max_7cf53_10 : decode cJ9_max_7cf53 10 = .ok (.ireturn, 1) := by decide +kernel
theorem dJ9_min_7cf53_0 : decode cJ9_min_7cf53 0 = .ok (.iload_n 0, 1) := by decide +kernel
theorem dJ9_min_7cf53_1 : decode cJ9_min_7cf53 1 = .ok (.iload_n 1, 1) := by decide +kernel
theorem dJ9_min_7cf53_2 : decode cJ9_min_7cf53 2 = .ok (.if_icmp .gt 7, 3) := by decide +kernel
theorem dJ9_min_7cf53_5 : decode cJ9_min_7cf53 5 = .ok (.iload_n 0, 1) := by decide +kernel
theorem dJ9_min_7cf53_6 : decode cJ9_min_7cf53 6 = .ok (.goto 4, 3) := by decide +kernel
theorem dJ9_min_7cf53_9 : decode cJ9_min_7cf53 9 = .ok (.iload_n 1, 1) := by decide +kernel
theorem dJ9_min_7cf53_10 : decode cJ9_min_7cf53 10 = .ok (.ireturn, 1) := by decide +kernel
set_option maxRecDepth 20000 in
theorem ggL_setPrice_X4_setPrice : GoodIn wsL_setPrice wsX4_setPrice := goodIn_ca (goodIn_ca (goodIn_r _ [7, 8, 9, 10, 11, 12, 13, 14, 6, 15, 16, 17, 18, 19, 20, 21, 22, 23, 24, 25, 26, 27, 28, 29, 30, 31, 32, 33, 34, 35, 36, 37, 38] (by decide +kernel) (by decide +kernel)) (goodIn_sub (fun _ h => List.mem_cons_of_mem _ (List.mem_append_left _ (List.mem_append_right _ h))) (by decide +kernel))) (goodIn_sub (fun _ h => List.mem_cons_of_mem _ (List.mem_append_right _ h)) (by decide +kernel))
set_option maxRecDepth 20000 in
theorem gL_setPrice_X4_setPrice : GoodIn wsL_setPrice (wsV RL 7 RX4 yX4_setPrice wsX4_setPrice) := goodIn_app (goodIn_of _ (by decide +kernel)) ggL_setPrice_X4_setPrice
theorem dL_setPrice_0 : decode cL_setPrice 0 = .ok (.aload_n 0, 1) := by decide +kernel
theorem dL_setPrice_1 : decode cL_setPrice 1 = .ok (.iload_n 1, 1) := by decide +kernel
theorem dL_setPrice_2 : decode cL_setPrice 2 = .ok (.iload_n 2, 1) := by decide +kernel
theorem dL_setPrice_3 : decode cL_setPrice 3 = .ok (.iload_n 3, 1) := by decide +kernel
theorem dL_setPrice_4 : decode cL_setPrice 4 = .ok (.invokevirtual 7, 3) := by decide +kernel
theorem dL_setPrice_7 : decode cL_setPrice 7 = .ok (.goto 11, 3) := by decide +kernel
theorem dL_setPrice_10 : decode cL_setPrice 10 = .ok (.astore 4, 2) := by decide +kernel
theorem dL_setPrice_12 : decode cL_setPrice 12 = .ok (.iconst 1, 1) := by decide +kernel
theorem dL_setPrice_13 : decode cL_setPrice 13 = .ok (.ireturn, 1) := by decide +kernel
theorem dL_setPrice_14 : decode cL_setPrice 14 = .ok (.astore 4, 2) := by decide +kernel
theorem dL_setPrice_16 : decode cL_setPrice 16 = .ok (.iconst 2, 1) := by decide +kernel
theorem dL_setPrice_17 : decode cL_setPrice 17 = .ok (.ireturn, 1) := by decide +kernel
theorem dL_setPrice_18 : decode cL_setPrice 18 = .ok (.iconst 0, 1) := by decide +kernel
theorem dL_setPrice_19 : decode cL_setPrice 19 = .ok (.ireturn, 1) := by decide +kernel
set_option maxRecDepth 20000 in
theorem ggL_setPart_X4_setPart : GoodIn wsL_setPart wsX4_setPart := goodIn_ca (goodIn_ca (goodIn_ca (goodIn_r _ [8, 9, 10, 11, 12, 13, 14, 7, 15, 16, 17, 18, 19, 20, 21, 22, 23, 24, 25, 26, 27, 28, 29, 30, 31, 32, 33, 34, 35, 36, 37, 38, 39, 40, 41, 42, 43, 44, 45] (by decide +kernel) (by decide +kernel)) (goodIn_sub (fun _ h => List.mem_cons_of_mem _ (List.mem_append_left _ (List.mem_append_left _ (List.mem_append_right _ h)))) (by decide +kernel))) (goodIn_sub (fun _ h => List.mem_cons_of_mem _ (List.mem_append_left _ (List.mem_append_right _ h))) (by decide +kernel))) (goodIn_sub (fun _ h => List.mem_cons_of_mem _ (List.mem_append_right _ h)) (by decide +kernel))
set_option maxRecDepth 20000 in
theorem gL_setPart_X4_setPart : GoodIn wsL_setPart (wsV RL 17 RX4 yX4_setPart wsX4_setPart) := goodIn_app (goodIn_of _ (by decide +kernel)) ggL_setPart_X4_setPart
theorem dL_setPart_0 : decode cL_setPart 0 = .ok (.aload_n 0, 1) := by decide +kernel
theorem dL_setPart_1 : decode cL_setPart 1 = .ok (.iload_n 1, 1) := by decide +kernel
theorem dL_setPart_2 : decode cL_setPart 2 = .ok (.iload_n 2, 1) := by decide +kernel
theorem dL_setPart_3 : decode cL_setPart 3 = .ok (.iload_n 3, 1) := by decide +kernel
theorem dL_setPart_4 : decode cL_setPart 4 = .ok (.invokevirtual 17, 3) := by decide +kernel
theorem dL_setPart_7 : decode cL_setPart 7 = .ok (.goto 15, 3) := by decide +kernel
theorem dL_setPart_10 : decode cL_setPart 10 = .ok (.astore 4, 2) := by decide +kernel
theorem dL_setPart_12 : decode cL_setPart 12 = .ok (.iconst 1, 1) := by decide +kernel
theorem dL_setPart_13 : decode cL_setPart 13 = .ok (.ireturn, 1) := by decide +kernel
theorem dL_setPart_14 : decode cL_setPart 14 = .ok (.astore 4, 2) := by decide +kernel
theorem dL_setPart_16 : decode cL_setPart 16 = .ok (.iconst 2, 1) := by decide +kernel
theorem dL_setPart_17 : decode cL_setPart 17 = .ok (.ireturn, 1) := by decide +kernel
theorem dL_setPart_18 : decode cL_setPart 18 = .ok (.astore 4, 2) := by decide +kernel
theorem dL_setPart_20 : decode cL_setPart 20 = .ok (.iconst 3, 1) := by decide +kernel
theorem dL_setPart_21 : decode cL_setPart 21 = .ok (.ireturn, 1) := by decide +kernel
theorem dL_setPart_22 : decode cL_setPart 22 = .ok (.iconst 0, 1) := by decide +kernel
theorem dL_setPart_23 : decode cL_setPart 23 = .ok (.ireturn, 1) := by decide +kernel
set_option maxRecDepth 20000 in
theorem ggL_setKind_X4_setKind : GoodIn wsL_setKind wsX4_setKind := goodIn_ca (goodIn_ca (goodIn_ca (goodIn_r _ [8, 9, 10, 11, 12, 13, 14, 15, 16, 17, 18, 7, 19, 20, 21, 22, 23, 24, 25, 26, 27, 28, 29, 30, 31, 32, 33, 34, 35, 36, 37, 38, 39, 40, 41, 42, 43, 44, 45, 46, 47, 48, 49, 50, 51, 52] (by decide +kernel) (by decide +kernel)) (goodIn_sub (fun _ h => List.mem_cons_of_mem _ (List.mem_append_left _ (List.mem_append_left _ (List.mem_append_right _ h)))) (by decide +kernel))) (goodIn_sub (fun _ h => List.mem_cons_of_mem _ (List.mem_append_left _ (List.mem_append_right _ h))) (by decide +kernel))) (goodIn_sub (fun _ h => List.mem_cons_of_mem _ (List.mem_append_right _ h)) (by decide +kernel))
set_option maxRecDepth 20000 in
theorem gL_setKind_X4_setKind : GoodIn wsL_setKind (wsV RL 22 RX4 yX4_setKind wsX4_setKind) := goodIn_app (goodIn_of _ (by decide +kernel)) ggL_setKind_X4_setKind
theorem dL_setKind_0 : decode cL_setKind 0 = .ok (.aload_n 0, 1) := by decide +kernel
theorem dL_setKind_1 : decode cL_setKind 1 = .ok (.iload_n 1, 1) := by decide +kernel
theorem dL_setKind_2 : decode cL_setKind 2 = .ok (.iload_n 2, 1) := by decide +kernel
theorem dL_setKind_3 : decode cL_setKind 3 = .ok (.iload_n 3, 1) := by decide +kernel
theorem dL_setKind_4 : decode cL_setKind 4 = .ok (.iload 4, 2) := by decide +kernel
theorem dL_setKind_6 : decode cL_setKind 6 = .ok (.iload 5, 2) := by decide +kernel
theorem dL_setKind_8 : decode cL_setKind 8 = .ok (.iload 6, 2) := by decide +kernel
theorem dL_setKind_10 : decode cL_setKind 10 = .ok (.invokevirtual 22, 3) := by decide +kernel
theorem dL_setKind_13 : decode cL_setKind 13 = .ok (.goto 15, 3) := by decide +kernel
theorem dL_setKind_16 : decode cL_setKind 16 = .ok (.astore 7, 2) := by decide +kernel
theorem dL_setKind_18 : decode cL_setKind 18 = .ok (.iconst 1, 1) := by decide +kernel
theorem dL_setKind_19 : decode cL_setKind 19 = .ok (.ireturn, 1) := by decide +kernel
theorem dL_setKind_20 : decode cL_setKind 20 = .ok (.astore 7, 2) := by decide +kernel
theorem dL_setKind_22 : decode cL_setKind 22 = .ok (.iconst 2, 1) := by decide +kernel
theorem dL_setKind_23 : decode cL_setKind 23 = .ok (.ireturn, 1) := by decide +kernel
theorem dL_setKind_24 : decode cL_setKind 24 = .ok (.astore 7, 2) := by decide +kernel
theorem dL_setKind_26 : decode cL_setKind 26 = .ok (.iconst 3, 1) := by decide +kernel
theorem dL_setKind_27 : decode cL_setKind 27 = .ok (.ireturn, 1) := by decide +kernel
theorem dL_setKind_28 : decode cL_setKind 28 = .ok (.iconst 0, 1) := by decide +kernel
theorem dL_setKind_29 : decode cL_setKind 29 = .ok (.ireturn, 1) := by decide +kernel
set_option maxRecDepth 20000 in
theorem ggL_setYear_X4_setYear : GoodIn wsL_setYear wsX4_setYear := goodIn_ca (goodIn_ca (goodIn_ca (goodIn_r _ [8, 9, 10, 11, 12, 13, 14, 7, 15, 16, 17, 18, 19, 20, 21, 22, 23, 24, 25, 26, 27, 28, 29, 30, 31, 32, 33, 34, 35, 36, 37, 38, 39, 40, 41, 42, 43, 44, 45, 46, 47, 48, 49, 50, 51] (by decide +kernel) (by decide +kernel)) (goodIn_sub (fun _ h => List.mem_cons_of_mem _ (List.mem_append_left _ (List.mem_append_left _ (List.mem_append_right _ h)))) (by decide +kernel))) (goodIn_sub (fun _ h => List.mem_cons_of_mem _ (List.mem_append_left _ (List.mem_append_right _ h))) (by decide +kernel))) (goodIn_sub (fun _ h => List.mem_cons_of_mem _ (List.mem_append_right _ h)) (by decide +kernel))
set_option maxRecDepth 20000 in
theorem gL_setYear_X4_setYear : GoodIn wsL_setYear (wsV RL 26 RX4 yX4_setYear wsX4_setYear) := goodIn_app (goodIn_of _ (by decide +kernel)) ggL_setYear_X4_setYear
theorem dL_setYear_0 : decode cL_setYear 0 = .ok (.aload_n 0, 1) := by decide +kernel
theorem dL_setYear_1 : decode cL_setYear 1 = .ok (.iload_n 1, 1) := by decide +kernel
theorem dL_setYear_2 : decode cL_setYear 2 = .ok (.iload_n 2, 1) := by decide +kernel
theorem dL_setYear_3 : decode cL_setYear 3 = .ok (.iload_n 3, 1) := by decide +kernel
theorem dL_setYear_4 : decode cL_setYear 4 = .ok (.invokevirtual 26, 3) := by decide +kernel
theorem dL_setYear_7 : decode cL_setYear 7 = .ok (.goto 15, 3) := by decide +kernel
theorem dL_setYear_10 : decode cL_setYear 10 = .ok (.astore 4, 2) := by decide +kernel
theorem dL_setYear_12 : decode cL_setYear 12 = .ok (.iconst 1, 1) := by decide +kernel
theorem dL_setYear_13 : decode cL_setYear 13 = .ok (.ireturn, 1) := by decide +kernel
theorem dL_setYear_14 : decode cL_setYear 14 = .ok (.astore 4, 2) := by decide +kernel
theorem dL_setYear_16 : decode cL_setYear 16 = .ok (.iconst 2, 1) := by decide +kernel
theorem dL_setYear_17 : decode cL_setYear 17 = .ok (.ireturn, 1) := by decide +kernel
theorem dL_setYear_18 : decode cL_setYear 18 = .ok (.astore 4, 2) := by decide +kernel
theorem dL_setYear_20 : decode cL_setYear 20 = .ok (.iconst 3, 1) := by decide +kernel
theorem dL_setYear_21 : decode cL_setYear 21 = .ok (.ireturn, 1) := by decide +kernel
theorem dL_setYear_22 : decode cL_setYear 22 = .ok (.iconst 0, 1) := by decide +kernel
theorem dL_setYear_23 : decode cL_setYear 23 = .ok (.ireturn, 1) := by decide +kernel
set_option maxRecDepth 20000 in
theorem ggL_setCarry_X4_setCarry : GoodIn wsL_setCarry wsX4_setCarry := goodIn_ca (goodIn_r _ [6, 7, 8, 9, 10, 11, 5, 12, 13, 14, 15, 16, 17, 18, 19, 20, 21, 22, 23, 24, 25, 26, 27, 28, 29, 30, 31, 32, 33, 34, 35, 36, 37] (by decide +kernel) (by decide +kernel)) (goodIn_sub (fun _ h => List.mem_cons_of_mem _ (List.mem_append_right _ h)) (by decide +kernel))
set_option maxRecDepth 20000 in
theorem gL_setCarry_X4_setCarry : GoodIn wsL_setCarry (wsV RL 29 RX4 yX4_setCarry wsX4_setCarry) := goodIn_app (goodIn_of _ (by decide +kernel)) ggL_setCarry_X4_setCarry
theorem dL_setCarry_0 : decode cL_setCarry 0 = .ok (.aload_n 0, 1) := by decide +kernel
theorem dL_setCarry_1 : decode cL_setCarry 1 = .ok (.iload_n 1, 1) := by decide +kernel
theorem dL_setCarry_2 : decode cL_setCarry 2 = .ok (.invokevirtual 29, 3) := by decide +kernel
theorem dL_setCarry_5 : decode cL_setCarry 5 = .ok (.goto 6, 3) := by decide +kernel
theorem dL_setCarry_8 : decode cL_setCarry 8 = .ok (.astore_n 2, 1) := by decide +kernel
theorem dL_setCarry_9 : decode cL_setCarry 9 = .ok (.iconst 1, 1) := by decide +kernel
theorem dL_setCarry_10 : decode cL_setCarry 10 = .ok (.ireturn, 1) := by decide +kernel
theorem dL_setCarry_11 : decode cL_setCarry 11 = .ok (.iconst 0, 1) := by decide +kernel
theorem dL_setCarry_12 : decode cL_setCarry 12 = .ok (.ireturn, 1) := by decide +kernel
set_option maxRecDepth 20000 in
theorem ggL_close_X4_close : GoodIn wsL_close wsX4_close := goodIn_ca (goodIn_ca (goodIn_r _ [7, 8, 9, 10, 11, 12, 13, 14, 15, 16, 17, 18, 19, 20, 21, 22, 23, 24, 25, 6, 26, 27, 28, 29, 30, 31, 32, 33, 34, 35, 36, 37, 38, 39, 40, 41, 42, 43, 44, 45, 46, 47, 48, 49, 50, 51, 52, 53, 54, 55, 56, 57, 58, 59, 60, 61] (by decide +kernel) (by decide +kernel)) (goodIn_sub (fun _ h => List.mem_cons_of_mem _ (List.mem_append_left _ (List.mem_append_right _ h))) (by decide +kernel))) (goodIn_sub (fun _ h => List.mem_cons_of_mem _ (List.mem_append_right _ h)) (by decide +kernel))
set_option maxRecDepth 20000 in
theorem gL_close_X4_close : GoodIn wsL_close (wsV RL 33 RX4 yX4_close wsX4_close) := goodIn_app (goodIn_of _ (by decide +kernel)) ggL_close_X4_close
theorem dL_close_0 : decode cL_close 0 = .ok (.aload 4, 2) := by decide +kernel
theorem dL_close_2 : decode cL_close 2 = .ok (.iconst 0, 1) := by decide +kernel
theorem dL_close_3 : decode cL_close 3 = .ok (.aload_n 0, 1) := by decide +kernel
theorem dL_close_4 : decode cL_close 4 = .ok (.iload_n 1, 1) := by decide +kernel
theorem dL_close_5 : decode cL_close 5 = .ok (.iload_n 2, 1) := by decide +kernel
theorem dL_close_6 : decode cL_close 6 = .ok (.iload_n 3, 1) := by decide +kernel
theorem dL_close_7 : decode cL_close 7 = .ok (.invokevirtual 33, 3) := by decide +kernel
theorem dL_close_10 : decode cL_close 10 = .ok (.i2l, 1) := by decide +kernel
theorem dL_close_11 : decode cL_close 11 = .ok (.lastore, 1) := by decide +kernel
theorem dL_close_12 : decode cL_close 12 = .ok (.goto 11, 3) := by decide +kernel
theorem dL_close_15 : decode cL_close 15 = .ok (.astore 5, 2) := by decide +kernel
theorem dL_close_17 : decode cL_close 17 = .ok (.iconst 1, 1) := by decide +kernel
theorem dL_close_18 : decode cL_close 18 = .ok (.ireturn, 1) := by decide +kernel
theorem dL_close_19 : decode cL_close 19 = .ok (.astore 5, 2) := by decide +kernel
theorem dL_close_21 : decode cL_close 21 = .ok (.iconst 2, 1) := by decide +kernel
theorem dL_close_22 : decode cL_close 22 = .ok (.ireturn, 1) := by decide +kernel
theorem dL_close_23 : decode cL_close 23 = .ok (.iconst 0, 1) := by decide +kernel
theorem dL_close_24 : decode cL_close 24 = .ok (.ireturn, 1) := by decide +kernel
set_option maxRecDepth 20000 in
theorem ggL_advance_X4_advance : GoodIn wsL_advance wsX4_advance := goodIn_ca (goodIn_ca (goodIn_r _ [7, 8, 9, 10, 11, 12, 6, 13, 14, 15, 16, 17, 18, 19, 20, 21, 22, 23, 24, 25, 26, 27, 28, 29, 30, 31, 32, 33, 34, 35, 36, 37, 38, 39, 40, 41, 42, 43, 44, 45, 46, 47, 48, 49, 50, 51, 52, 53, 54, 55, 56, 57, 58, 59, 60, 61, 62, 63] (by decide +kernel) (by decide +kernel)) (goodIn_sub (fun _ h => List.mem_cons_of_mem _ (List.mem_append_left _ (List.mem_append_right _ h))) (by decide +kernel))) (goodIn_sub (fun _ h => List.mem_cons_of_mem _ (List.mem_append_right _ h)) (by decide +kernel))
set_option maxRecDepth 20000 in
theorem gL_advance_X4_advance : GoodIn wsL_advance (wsV RL 37 RX4 yX4_advance wsX4_advance) := goodIn_app (goodIn_of _ (by decide +kernel)) ggL_advance_X4_advance
theorem dL_advance_0 : decode cL_advance 0 = .ok (.aload_n 2, 1) := by decide +kernel
theorem dL_advance_1 : decode cL_advance 1 = .ok (.iconst 0, 1) := by decide +kernel
theorem dL_advance_2 : decode cL_advance 2 = .ok (.aload_n 0, 1) := by decide +kernel
theorem dL_advance_3 : decode cL_advance 3 = .ok (.iload_n 1, 1) := by decide +kernel
theorem dL_advance_4 : decode cL_advance 4 = .ok (.invokevirtual 37, 3) := by decide +kernel
theorem dL_advance_7 : decode cL_advance 7 = .ok (.i2l, 1) := by decide +kernel
theorem dL_advance_8 : decode cL_advance 8 = .ok (.lastore, 1) := by decide +kernel
theorem dL_advance_9 : decode cL_advance 9 = .ok (.goto 9, 3) := by decide +kernel
theorem dL_advance_12 : decode cL_advance 12 = .ok (.astore_n 3, 1) := by decide +kernel
theorem dL_advance_13 : decode cL_advance 13 = .ok (.iconst 1, 1) := by decide +kernel
theorem dL_advance_14 : decode cL_advance 14 = .ok (.ireturn, 1) := by decide +kernel
theorem dL_advance_15 : decode cL_advance 15 = .ok (.astore_n 3, 1) := by decide +kernel
theorem dL_advance_16 : decode cL_advance 16 = .ok (.iconst 2, 1) := by decide +kernel
theorem dL_advance_17 : decode cL_advance 17 = .ok (.ireturn, 1) := by decide +kernel
theorem dL_advance_18 : decode cL_advance 18 = .ok (.iconst 0, 1) := by decide +kernel
theorem dL_advance_19 : decode cL_advance 19 = .ok (.ireturn, 1) := by decide +kernel
set_option maxRecDepth 20000 in
theorem ggL_claim_X4_claim : GoodIn wsL_claim wsX4_claim := goodIn_ca (goodIn_ca (goodIn_ca (goodIn_r _ [8, 9, 10, 11, 12, 13, 14, 15, 16, 17, 18, 19, 20, 21, 22, 7, 23, 24, 25, 26, 27, 28, 29, 30, 31, 32, 33, 34, 35, 36, 37, 38, 39, 40, 41, 42, 43, 44, 45, 46, 47, 48, 49, 50, 51, 52, 53, 54, 55, 56, 57, 58] (by decide +kernel) (by decide +kernel)) (goodIn_sub (fun _ h => List.mem_cons_of_mem _ (List.mem_append_left _ (List.mem_append_left _ (List.mem_append_right _ h)))) (by decide +kernel))) (goodIn_sub (fun _ h => List.mem_cons_of_mem _ (List.mem_append_left _ (List.mem_append_right _ h))) (by decide +kernel))) (goodIn_sub (fun _ h => List.mem_cons_of_mem _ (List.mem_append_right _ h)) (by decide +kernel))
set_option maxRecDepth 20000 in
theorem gL_claim_X4_claim : GoodIn wsL_claim (wsV RL 41 RX4 yX4_claim wsX4_claim) := goodIn_app (goodIn_of _ (by decide +kernel)) ggL_claim_X4_claim
theorem dL_claim_0 : decode cL_claim 0 = .ok (.aload_n 3, 1) := by decide +kernel
theorem dL_claim_1 : decode cL_claim 1 = .ok (.iconst 0, 1) := by decide +kernel
theorem dL_claim_2 : decode cL_claim 2 = .ok (.aload_n 0, 1) := by decide +kernel
theorem dL_claim_3 : decode cL_claim 3 = .ok (.iload_n 1, 1) := by decide +kernel
theorem dL_claim_4 : decode cL_claim 4 = .ok (.iload_n 2, 1) := by decide +kernel
theorem dL_claim_5 : decode cL_claim 5 = .ok (.invokevirtual 41, 3) := by decide +kernel
theorem dL_claim_8 : decode cL_claim 8 = .ok (.i2l, 1) := by decide +kernel
theorem dL_claim_9 : decode cL_claim 9 = .ok (.lastore, 1) := by decide +kernel
theorem dL_claim_10 : decode cL_claim 10 = .ok (.goto 15, 3) := by decide +kernel
theorem dL_claim_13 : decode cL_claim 13 = .ok (.astore 4, 2) := by decide +kernel
theorem dL_claim_15 : decode cL_claim 15 = .ok (.iconst 1, 1) := by decide +kernel
theorem dL_claim_16 : decode cL_claim 16 = .ok (.ireturn, 1) := by decide +kernel
theorem dL_claim_17 : decode cL_claim 17 = .ok (.astore 4, 2) := by decide +kernel
theorem dL_claim_19 : decode cL_claim 19 = .ok (.iconst 2, 1) := by decide +kernel
theorem dL_claim_20 : decode cL_claim 20 = .ok (.ireturn, 1) := by decide +kernel
theorem dL_claim_21 : decode cL_claim 21 = .ok (.astore 4, 2) := by decide +kernel
theorem dL_claim_23 : decode cL_claim 23 = .ok (.iconst 3, 1) := by decide +kernel
theorem dL_claim_24 : decode cL_claim 24 = .ok (.ireturn, 1) := by decide +kernel
theorem dL_claim_25 : decode cL_claim 25 = .ok (.iconst 0, 1) := by decide +kernel
theorem dL_claim_26 : decode cL_claim 26 = .ok (.ireturn, 1) := by decide +kernel
set_option maxRecDepth 20000 in
theorem ggL_offer_X4_offer : GoodIn wsL_offer wsX4_offer := goodIn_ca (goodIn_ca (goodIn_ca (goodIn_r _ [8, 9, 10, 11, 12, 13, 14, 15, 7, 16, 17, 18, 19, 20, 21, 22, 23, 24, 25, 26, 27, 28, 29, 30, 31, 32, 33, 34, 35, 36, 37, 38, 39, 40, 41, 42, 43, 44, 45, 46, 47] (by decide +kernel) (by decide +kernel)) (goodIn_sub (fun _ h => List.mem_cons_of_mem _ (List.mem_append_left _ (List.mem_append_left _ (List.mem_append_right _ h)))) (by decide +kernel))) (goodIn_sub (fun _ h => List.mem_cons_of_mem _ (List.mem_append_left _ (List.mem_append_right _ h))) (by decide +kernel))) (goodIn_sub (fun _ h => List.mem_cons_of_mem _ (List.mem_append_right _ h)) (by decide +kernel))
set_option maxRecDepth 20000 in
theorem gL_offer_X4_offer : GoodIn wsL_offer (wsV RL 45 RX4 yX4_offer wsX4_offer) := goodIn_app (goodIn_of _ (by decide +kernel)) ggL_offer_X4_offer
theorem dL_offer_0 : decode cL_offer 0 = .ok (.aload_n 3, 1) := by decide +kernel
theorem dL_offer_1 : decode cL_offer 1 = .ok (.iconst 0, 1) := by decide +kernel
theorem dL_offer_2 : decode cL_offer 2 = .ok (.aload_n 0, 1) := by decide +kernel
theorem dL_offer_3 : decode cL_offer 3 = .ok (.iload_n 1, 1) := by decide +kernel
theorem dL_offer_4 : decode cL_offer 4 = .ok (.iload_n 2, 1) := by decide +kernel
theorem dL_offer_5 : decode cL_offer 5 = .ok (.invokevirtual 45, 3) := by decide +kernel
theorem dL_offer_8 : decode cL_offer 8 = .ok (.i2l, 1) := by decide +kernel
theorem dL_offer_9 : decode cL_offer 9 = .ok (.lastore, 1) := by decide +kernel
theorem dL_offer_10 : decode cL_offer 10 = .ok (.goto 15, 3) := by decide +kernel
theorem dL_offer_13 : decode cL_offer 13 = .ok (.astore 4, 2) := by decide +kernel
theorem dL_offer_15 : decode cL_offer 15 = .ok (.iconst 1, 1) := by decide +kernel
theorem dL_offer_16 : decode cL_offer 16 = .ok (.ireturn, 1) := by decide +kernel
theorem dL_offer_17 : decode cL_offer 17 = .ok (.astore 4, 2) := by decide +kernel
theorem dL_offer_19 : decode cL_offer 19 = .ok (.iconst 2, 1) := by decide +kernel
theorem dL_offer_20 : decode cL_offer 20 = .ok (.ireturn, 1) := by decide +kernel
theorem dL_offer_21 : decode cL_offer 21 = .ok (.astore 4, 2) := by decide +kernel
theorem dL_offer_23 : decode cL_offer 23 = .ok (.iconst 3, 1) := by decide +kernel
theorem dL_offer_24 : decode cL_offer 24 = .ok (.ireturn, 1) := by decide +kernel
theorem dL_offer_25 : decode cL_offer 25 = .ok (.iconst 0, 1) := by decide +kernel
theorem dL_offer_26 : decode cL_offer 26 = .ok (.ireturn, 1) := by decide +kernel
set_option maxRecDepth 20000 in
theorem ggL_agree_X4_agree : GoodIn wsL_agree wsX4_agree := goodIn_ca (goodIn_ca (goodIn_r _ [7, 8, 9, 10, 11, 12, 13, 14, 15, 6, 16, 17, 18, 19, 20, 21, 22, 23, 24, 25, 26, 27, 28, 29, 30, 31, 32, 33, 34, 35, 36, 37, 38, 39, 40, 41, 42, 43, 44, 45, 46, 47, 48, 49, 50, 51, 52, 53, 54, 55, 56, 57, 58, 59, 60, 61, 62, 63, 64, 65, 66, 67, 68, 69, 70, 71, 72, 73, 74, 75, 76, 77, 78, 79, 80, 81, 82, 83, 84, 85, 86, 87, 88, 89, 90, 91, 92, 93, 94, 95, 96, 97, 98, 99, 100, 101, 102, 103, 104, 105, 106, 107, 108, 109, 110, 111, 112] (by decide +kernel) (by decide +kernel)) (goodIn_sub (fun _ h => List.mem_cons_of_mem _ (List.mem_append_left _ (List.mem_append_right _ h))) (by decide +kernel))) (goodIn_sub (fun _ h => List.mem_cons_of_mem _ (List.mem_append_right _ h)) (by decide +kernel))
set_option maxRecDepth 20000 in
theorem gL_agree_X4_agree : GoodIn wsL_agree (wsV RL 48 RX4 yX4_agree wsX4_agree) := goodIn_app (goodIn_of _ (by decide +kernel)) ggL_agree_X4_agree
theorem dL_agree_0 : decode cL_agree 0 = .ok (.aload_n 2, 1) := by decide +kernel
theorem dL_agree_1 : decode cL_agree 1 = .ok (.iconst 0, 1) := by decide +kernel
theorem dL_agree_2 : decode cL_agree 2 = .ok (.aload_n 0, 1) := by decide +kernel
theorem dL_agree_3 : decode cL_agree 3 = .ok (.iload_n 1, 1) := by decide +kernel
theorem dL_agree_4 : decode cL_agree 4 = .ok (.invokevirtual 48, 3) := by decide +kernel
theorem dL_agree_7 : decode cL_agree 7 = .ok (.i2l, 1) := by decide +kernel
theorem dL_agree_8 : decode cL_agree 8 = .ok (.lastore, 1) := by decide +kernel
theorem dL_agree_9 : decode cL_agree 9 = .ok (.goto 9, 3) := by decide +kernel
theorem dL_agree_12 : decode cL_agree 12 = .ok (.astore_n 3, 1) := by decide +kernel
theorem dL_agree_13 : decode cL_agree 13 = .ok (.iconst 1, 1) := by decide +kernel
theorem dL_agree_14 : decode cL_agree 14 = .ok (.ireturn, 1) := by decide +kernel
theorem dL_agree_15 : decode cL_agree 15 = .ok (.astore_n 3, 1) := by decide +kernel
theorem dL_agree_16 : decode cL_agree 16 = .ok (.iconst 2, 1) := by decide +kernel
theorem dL_agree_17 : decode cL_agree 17 = .ok (.ireturn, 1) := by decide +kernel
theorem dL_agree_18 : decode cL_agree 18 = .ok (.iconst 0, 1) := by decide +kernel
theorem dL_agree_19 : decode cL_agree 19 = .ok (.ireturn, 1) := by decide +kernel
set_option maxRecDepth 20000 in
theorem ggL_decide_X4_decide : GoodIn wsL_decide wsX4_decide := goodIn_ca (goodIn_ca (goodIn_ca (goodIn_r _ [8, 9, 10, 11, 12, 13, 14, 15, 7, 16, 17, 18, 19, 20, 21, 22, 23, 24, 25, 26, 27, 28, 29, 30, 31, 32, 33, 34, 35, 36, 37, 38, 39, 40, 41, 42, 43, 44, 45, 46, 47, 48, 49, 50, 51, 52, 53, 54, 55, 56, 57, 58, 59, 60, 61, 62, 63, 64, 65, 66, 67, 68, 69, 70, 71, 72, 73, 74, 75, 76, 77, 78, 79, 80, 81, 82, 83, 84, 85, 86, 87, 88, 89, 90, 91, 92, 93, 94, 95, 96, 97, 98, 99, 100, 101, 102, 103, 104, 105, 106, 107, 108, 109, 110, 111, 112, 113, 114, 115, 116, 117, 118, 119] (by decide +kernel) (by decide +kernel)) (goodIn_sub (fun _ h => List.mem_cons_of_mem _ (List.mem_append_left _ (List.mem_append_left _ (List.mem_append_right _ h)))) (by decide +kernel))) (goodIn_sub (fun _ h => List.mem_cons_of_mem _ (List.mem_append_left _ (List.mem_append_right _ h))) (by decide +kernel))) (goodIn_sub (fun _ h => List.mem_cons_of_mem _ (List.mem_append_right _ h)) (by decide +kernel))
set_option maxRecDepth 20000 in
theorem gL_decide_X4_decide : GoodIn wsL_decide (wsV RL 51 RX4 yX4_decide wsX4_decide) := goodIn_app (goodIn_of _ (by decide +kernel)) ggL_decide_X4_decide
theorem dL_decide_0 : decode cL_decide 0 = .ok (.aload_n 3, 1) := by decide +kernel
theorem dL_decide_1 : decode cL_decide 1 = .ok (.iconst 0, 1) := by decide +kernel
theorem dL_decide_2 : decode cL_decide 2 = .ok (.aload_n 0, 1) := by decide +kernel
theorem dL_decide_3 : decode cL_decide 3 = .ok (.iload_n 1, 1) := by decide +kernel
theorem dL_decide_4 : decode cL_decide 4 = .ok (.iload_n 2, 1) := by decide +kernel
theorem dL_decide_5 : decode cL_decide 5 = .ok (.invokevirtual 51, 3) := by decide +kernel
theorem dL_decide_8 : decode cL_decide 8 = .ok (.i2l, 1) := by decide +kernel
theorem dL_decide_9 : decode cL_decide 9 = .ok (.lastore, 1) := by decide +kernel
theorem dL_decide_10 : decode cL_decide 10 = .ok (.goto 15, 3) := by decide +kernel
theorem dL_decide_13 : decode cL_decide 13 = .ok (.astore 4, 2) := by decide +kernel
theorem dL_decide_15 : decode cL_decide 15 = .ok (.iconst 1, 1) := by decide +kernel
theorem dL_decide_16 : decode cL_decide 16 = .ok (.ireturn, 1) := by decide +kernel
theorem dL_decide_17 : decode cL_decide 17 = .ok (.astore 4, 2) := by decide +kernel
theorem dL_decide_19 : decode cL_decide 19 = .ok (.iconst 2, 1) := by decide +kernel
theorem dL_decide_20 : decode cL_decide 20 = .ok (.ireturn, 1) := by decide +kernel
theorem dL_decide_21 : decode cL_decide 21 = .ok (.astore 4, 2) := by decide +kernel
theorem dL_decide_23 : decode cL_decide 23 = .ok (.iconst 3, 1) := by decide +kernel
theorem dL_decide_24 : decode cL_decide 24 = .ok (.ireturn, 1) := by decide +kernel
theorem dL_decide_25 : decode cL_decide 25 = .ok (.iconst 0, 1) := by decide +kernel
theorem dL_decide_26 : decode cL_decide 26 = .ok (.ireturn, 1) := by decide +kernel
set_option maxRecDepth 20000 in
theorem ggL_report_X4_report : GoodIn wsL_report wsX4_report := goodIn_ca (goodIn_ca (goodIn_r _ [7, 8, 9, 10, 11, 12, 13, 14, 15, 16, 6, 17, 18, 19, 20, 21, 22, 23, 24, 25, 26, 27, 28, 29, 30, 31, 32, 33, 34, 35, 36, 37, 38, 39, 40, 41, 42, 43, 44, 45, 46, 47, 48, 49, 50, 51, 52, 53, 54, 55, 56, 57, 58, 59, 60, 61, 62, 63, 64, 65, 66, 67, 68, 69, 70, 71, 72, 73, 74, 75, 76, 77, 78, 79, 80, 81, 82, 83, 84, 85, 86, 87, 88, 89, 90, 91, 92, 93, 94, 95, 96, 97, 98, 99, 100, 101, 102, 103, 104, 105, 106, 107, 108, 109, 110, 111, 112, 113, 114, 115, 116, 117, 118, 119, 120] (by decide +kernel) (by decide +kernel)) (goodIn_sub (fun _ h => List.mem_cons_of_mem _ (List.mem_append_left _ (List.mem_append_right _ h))) (by decide +kernel))) (goodIn_sub (fun _ h => List.mem_cons_of_mem _ (List.mem_append_right _ h)) (by decide +kernel))
set_option maxRecDepth 20000 in
theorem gL_report_X4_report : GoodIn wsL_report (wsV RL 54 RX4 yX4_report wsX4_report) := goodIn_app (goodIn_of _ (by decide +kernel)) ggL_report_X4_report
theorem dL_report_0 : decode cL_report 0 = .ok (.aload_n 2, 1) := by decide +kernel
theorem dL_report_1 : decode cL_report 1 = .ok (.iconst 0, 1) := by decide +kernel
theorem dL_report_2 : decode cL_report 2 = .ok (.aload_n 0, 1) := by decide +kernel
theorem dL_report_3 : decode cL_report 3 = .ok (.iload_n 1, 1) := by decide +kernel
theorem dL_report_4 : decode cL_report 4 = .ok (.invokevirtual 54, 3) := by decide +kernel
theorem dL_report_7 : decode cL_report 7 = .ok (.i2l, 1) := by decide +kernel
theorem dL_report_8 : decode cL_report 8 = .ok (.lastore, 1) := by decide +kernel
theorem dL_report_9 : decode cL_report 9 = .ok (.goto 9, 3) := by decide +kernel
theorem dL_report_12 : decode cL_report 12 = .ok (.astore_n 3, 1) := by decide +kernel
theorem dL_report_13 : decode cL_report 13 = .ok (.iconst 1, 1) := by decide +kernel
theorem dL_report_14 : decode cL_report 14 = .ok (.ireturn, 1) := by decide +kernel
theorem dL_report_15 : decode cL_report 15 = .ok (.astore_n 3, 1) := by decide +kernel
theorem dL_report_16 : decode cL_report 16 = .ok (.iconst 2, 1) := by decide +kernel
theorem dL_report_17 : decode cL_report 17 = .ok (.ireturn, 1) := by decide +kernel
theorem dL_report_18 : decode cL_report 18 = .ok (.iconst 0, 1) := by decide +kernel
theorem dL_report_19 : decode cL_report 19 = .ok (.ireturn, 1) := by decide +kernel
set_option maxRecDepth 20000 in
theorem ggL_speedUp_X4_speedUp : GoodIn wsL_speedUp wsX4_speedUp := goodIn_ca (goodIn_r _ [6, 7, 8, 9, 10, 11, 12, 13, 5, 14, 15, 16, 17, 18, 19, 20, 21, 22, 23, 24, 25, 26, 27, 28, 29, 30, 31, 32, 33, 34, 35, 36, 37, 38, 39, 40, 41, 42, 43, 44, 45, 46, 47, 48, 49, 50, 51, 52, 53, 54, 55, 56, 57, 58, 59, 60, 61, 62, 63, 64, 65, 66, 67, 68, 69, 70, 71, 72, 73, 74, 75, 76, 77, 78, 79, 80, 81, 82, 83, 84, 85, 86, 87, 88, 89, 90, 91, 92, 93, 94, 95, 96, 97, 98, 99, 100, 101, 102, 103, 104, 105, 106, 107, 108] (by decide +kernel) (by decide +kernel)) (goodIn_sub (fun _ h => List.mem_cons_of_mem _ (List.mem_append_right _ h)) (by decide +kernel))
set_option maxRecDepth 20000 in
theorem gL_speedUp_X4_speedUp : GoodIn wsL_speedUp (wsV RL 57 RX4 yX4_speedUp wsX4_speedUp) := goodIn_app (goodIn_of _ (by decide +kernel)) ggL_speedUp_X4_speedUp
theorem dL_speedUp_0 : decode cL_speedUp 0 = .ok (.aload_n 1, 1) := by decide +kernel
theorem dL_speedUp_1 : decode cL_speedUp 1 = .ok (.iconst 0, 1) := by decide +kernel
theorem dL_speedUp_2 : decode cL_speedUp 2 = .ok (.aload_n 0, 1) := by decide +kernel
theorem dL_speedUp_3 : decode cL_speedUp 3 = .ok (.invokevirtual 57, 3) := by decide +kernel
theorem dL_speedUp_6 : decode cL_speedUp 6 = .ok (.i2l, 1) := by decide +kernel
theorem dL_speedUp_7 : decode cL_speedUp 7 = .ok (.lastore, 1) := by decide +kernel
theorem dL_speedUp_8 : decode cL_speedUp 8 = .ok (.goto 6, 3) := by decide +kernel
theorem dL_speedUp_11 : decode cL_speedUp 11 = .ok (.astore_n 2, 1) := by decide +kernel
theorem dL_speedUp_12 : decode cL_speedUp 12 = .ok (.iconst 1, 1) := by decide +kernel
theorem dL_speedUp_13 : decode cL_speedUp 13 = .ok (.ireturn, 1) := by decide +kernel
theorem dL_speedUp_14 : decode cL_speedUp 14 = .ok (.iconst 0, 1) := by decide +kernel
theorem dL_speedUp_15 : decode cL_speedUp 15 = .ok (.ireturn, 1) := by decide +kernel
set_option maxRecDepth 20000 in
theorem ggL_dueOf_X4_dueOf : GoodIn wsL_dueOf wsX4_dueOf := goodIn_ca (goodIn_r _ [6, 7, 8, 5, 9, 10, 11, 12, 13, 14, 15, 16, 17, 18, 19, 20, 21, 22, 23, 24, 25, 26, 27, 28, 29, 30, 31, 32, 33, 34, 35, 36, 37, 38, 39, 40, 41, 42, 43, 44, 45, 46, 47, 48, 49, 50, 51, 52, 53, 54, 55, 56, 57, 58, 59, 60, 61, 62, 63, 64, 65, 66] (by decide +kernel) (by decide +kernel)) (goodIn_sub (fun _ h => List.mem_cons_of_mem _ (List.mem_append_right _ h)) (by decide +kernel))
set_option maxRecDepth 20000 in
theorem gL_dueOf_X4_dueOf : GoodIn wsL_dueOf (wsV RL 61 RX4 yX4_dueOf wsX4_dueOf) := goodIn_app (goodIn_of _ (by decide +kernel)) ggL_dueOf_X4_dueOf
theorem dL_dueOf_0 : decode cL_dueOf 0 = .ok (.aload_n 2, 1) := by decide +kernel
theorem dL_dueOf_1 : decode cL_dueOf 1 = .ok (.iconst 0, 1) := by decide +kernel
theorem dL_dueOf_2 : decode cL_dueOf 2 = .ok (.aload_n 0, 1) := by decide +kernel
theorem dL_dueOf_3 : decode cL_dueOf 3 = .ok (.iload_n 1, 1) := by decide +kernel
theorem dL_dueOf_4 : decode cL_dueOf 4 = .ok (.invokevirtual 61, 3) := by decide +kernel
theorem dL_dueOf_7 : decode cL_dueOf 7 = .ok (.i2l, 1) := by decide +kernel
theorem dL_dueOf_8 : decode cL_dueOf 8 = .ok (.lastore, 1) := by decide +kernel
theorem dL_dueOf_9 : decode cL_dueOf 9 = .ok (.goto 6, 3) := by decide +kernel
theorem dL_dueOf_12 : decode cL_dueOf 12 = .ok (.astore_n 3, 1) := by decide +kernel
theorem dL_dueOf_13 : decode cL_dueOf 13 = .ok (.iconst 1, 1) := by decide +kernel
theorem dL_dueOf_14 : decode cL_dueOf 14 = .ok (.ireturn, 1) := by decide +kernel
theorem dL_dueOf_15 : decode cL_dueOf 15 = .ok (.iconst 0, 1) := by decide +kernel
theorem dL_dueOf_16 : decode cL_dueOf 16 = .ok (.ireturn, 1) := by decide +kernel
set_option maxRecDepth 20000 in
theorem ggL_settledAt_X4_settledAt : GoodIn wsL_settledAt wsX4_settledAt := goodIn_ca (goodIn_r _ [6, 7, 8, 9, 10, 11, 5, 12, 13, 14, 15, 16, 17, 18, 19, 20, 21, 22, 23, 24, 25, 26, 27, 28, 29, 30, 31, 32, 33] (by decide +kernel) (by decide +kernel)) (goodIn_sub (fun _ h => List.mem_cons_of_mem _ (List.mem_append_right _ h)) (by decide +kernel))
set_option maxRecDepth 20000 in
theorem gL_settledAt_X4_settledAt : GoodIn wsL_settledAt (wsV RL 64 RX4 yX4_settledAt wsX4_settledAt) := goodIn_app (goodIn_of _ (by decide +kernel)) ggL_settledAt_X4_settledAt
theorem dL_settledAt_0 : decode cL_settledAt 0 = .ok (.aload_n 2, 1) := by decide +kernel
theorem dL_settledAt_1 : decode cL_settledAt 1 = .ok (.iconst 0, 1) := by decide +kernel
theorem dL_settledAt_2 : decode cL_settledAt 2 = .ok (.aload_n 0, 1) := by decide +kernel
theorem dL_settledAt_3 : decode cL_settledAt 3 = .ok (.iload_n 1, 1) := by decide +kernel
theorem dL_settledAt_4 : decode cL_settledAt 4 = .ok (.invokevirtual 64, 3) := by decide +kernel
theorem dL_settledAt_7 : decode cL_settledAt 7 = .ok (.i2l, 1) := by decide +kernel
theorem dL_settledAt_8 : decode cL_settledAt 8 = .ok (.lastore, 1) := by decide +kernel
theorem dL_settledAt_9 : decode cL_settledAt 9 = .ok (.goto 6, 3) := by decide +kernel
theorem dL_settledAt_12 : decode cL_settledAt 12 = .ok (.astore_n 3, 1) := by decide +kernel
theorem dL_settledAt_13 : decode cL_settledAt 13 = .ok (.iconst 1, 1) := by decide +kernel
theorem dL_settledAt_14 : decode cL_settledAt 14 = .ok (.ireturn, 1) := by decide +kernel
theorem dL_settledAt_15 : decode cL_settledAt 15 = .ok (.iconst 0, 1) := by decide +kernel
theorem dL_settledAt_16 : decode cL_settledAt 16 = .ok (.ireturn, 1) := by decide +kernel
set_option maxRecDepth 20000 in
theorem ggL_isMet_X4_isMet : GoodIn wsL_isMet wsX4_isMet := goodIn_ca (goodIn_r _ [6, 7, 8, 9, 10, 5, 11, 12, 13, 14, 15, 16, 17, 18, 19, 20, 21, 22, 23, 24, 25, 26, 27, 28, 29, 30, 31, 32, 33, 34, 35] (by decide +kernel) (by decide +kernel)) (goodIn_sub (fun _ h => List.mem_cons_of_mem _ (List.mem_append_right _ h)) (by decide +kernel))
set_option maxRecDepth 20000 in
theorem gL_isMet_X4_isMet : GoodIn wsL_isMet (wsV RL 67 RX4 yX4_isMet wsX4_isMet) := goodIn_app (goodIn_of _ (by decide +kernel)) ggL_isMet_X4_isMet
theorem dL_isMet_0 : decode cL_isMet 0 = .ok (.aload_n 2, 1) := by decide +kernel
theorem dL_isMet_1 : decode cL_isMet 1 = .ok (.iconst 0, 1) := by decide +kernel
theorem dL_isMet_2 : decode cL_isMet 2 = .ok (.aload_n 0, 1) := by decide +kernel
theorem dL_isMet_3 : decode cL_isMet 3 = .ok (.iload_n 1, 1) := by decide +kernel
theorem dL_isMet_4 : decode cL_isMet 4 = .ok (.invokevirtual 67, 3) := by decide +kernel
theorem dL_isMet_7 : decode cL_isMet 7 = .ok (.ifCond .eq 7, 3) := by decide +kernel
theorem dL_isMet_10 : decode cL_isMet 10 = .ok (.lconst 1, 1) := by decide +kernel
theorem dL_isMet_11 : decode cL_isMet 11 = .ok (.goto 4, 3) := by decide +kernel
theorem dL_isMet_14 : decode cL_isMet 14 = .ok (.lconst 0, 1) := by decide +kernel
theorem dL_isMet_15 : decode cL_isMet 15 = .ok (.lastore, 1) := by decide +kernel
theorem dL_isMet_16 : decode cL_isMet 16 = .ok (.goto 6, 3) := by decide +kernel
theorem dL_isMet_19 : decode cL_isMet 19 = .ok (.astore_n 3, 1) := by decide +kernel
theorem dL_isMet_20 : decode cL_isMet 20 = .ok (.iconst 1, 1) := by decide +kernel
theorem dL_isMet_21 : decode cL_isMet 21 = .ok (.ireturn, 1) := by decide +kernel
theorem dL_isMet_22 : decode cL_isMet 22 = .ok (.iconst 0, 1) := by decide +kernel
theorem dL_isMet_23 : decode cL_isMet 23 = .ok (.ireturn, 1) := by decide +kernel
set_option maxRecDepth 20000 in
theorem ggL_law_X4_init : GoodIn wsL_law wsX4_init := goodIn_r _ [9, 10, 11, 12, 13, 14, 15, 16, 17, 18, 19, 20, 21, 22, 23, 24, 25, 26, 27, 28, 29, 30, 31, 32, 33, 34, 35, 36, 37, 38, 39, 40, 41, 42, 43, 44, 45, 46, 47, 48, 49, 50, 51, 52, 53, 54, 55, 56, 57, 58, 59, 60, 61, 62, 575, 576, 530, 531, 532, 533, 534, 535, 536, 537, 538, 539, 540, 541, 542, 543, 577, 578, 579, 580, 581, 582, 583, 584, 585, 586, 587, 588, 589, 590, 591, 592, 593, 594] (by decide +kernel) (by decide +kernel)
set_option maxRecDepth 20000 in
theorem gL_law_X4_init : GoodIn wsL_law (wsX4_init) := ggL_law_X4_init
set_option maxRecDepth 20000 in
theorem ggL_law_X5_init : GoodIn wsL_law wsX5_init := goodIn_r _ [65, 66, 11, 12, 35, 67, 68, 69, 70, 44, 71, 72, 73, 74, 75, 76, 77, 78, 79, 80, 81, 544, 545, 546, 547, 548, 549, 550, 551, 552, 553, 554, 555, 556, 557, 558, 559, 560, 561, 562, 563, 564, 565, 566, 567, 568, 569, 570, 571, 572, 573, 574] (by decide +kernel) (by decide +kernel)
set_option maxRecDepth 20000 in
theorem gL_law_X5_init : GoodIn wsL_law (wsX5_init) := ggL_law_X5_init
set_option maxRecDepth 20000 in
theorem ggL_law_L_setPrice : GoodIn wsL_law wsL_setPrice := goodIn_ca (goodIn_ca (goodIn_r _ [85, 86, 87, 88, 89, 90, 2, 91, 92, 93, 94, 95, 96, 97, 98, 99, 100, 101, 102, 103, 104, 105, 106, 107, 29, 530, 531, 532, 533, 534, 535, 536, 537, 538, 539, 540, 541, 542, 543] (by decide +kernel) (by decide +kernel)) (goodIn_sub (fun _ h => List.mem_append_left _ (List.mem_append_left _ (List.mem_append_right _ h))) (by decide +kernel))) (goodIn_sub (fun _ h => List.mem_append_left _ (List.mem_append_right _ h)) (by decide +kernel))
set_option maxRecDepth 20000 in
theorem gL_law_L_setPrice : GoodIn wsL_law (va_wsS RL 75 yL_setPrice wsL_setPrice) := goodIn_app (goodIn_of _ (by decide +kernel)) ggL_law_L_setPrice
set_option maxRecDepth 20000 in
theorem ggL_law_X5_setPrice : GoodIn wsL_law wsX5_setPrice := goodIn_r _ [111, 112, 113, 114, 115, 116, 117, 118, 119, 5, 120, 121, 122, 123, 124, 125, 544, 545, 546, 547, 548, 549, 550, 551, 552, 553, 554, 555, 556, 557, 558, 559, 560, 561, 562, 563, 564, 565, 566, 567, 568, 569, 570, 571, 572, 573, 574] (by decide +kernel) (by decide +kernel)
set_option maxRecDepth 20000 in
theorem gL_law_X5_setPrice : GoodIn wsL_law (wsV RL 80 RX5 yX5_setPrice wsX5_setPrice) := goodIn_app (goodIn_of _ (by decide +kernel)) ggL_law_X5_setPrice
set_option maxRecDepth 20000 in
theorem ggL_law_X5_thrown : GoodIn wsL_law wsX5_thrown := goodIn_r _ [129, 125, 544, 545, 546, 547, 548, 549, 550, 551, 552, 553, 554, 555, 556, 557, 558, 559, 560, 561, 562, 563, 564, 565, 566, 567, 568, 569, 570, 571, 572, 573, 574] (by decide +kernel) (by decide +kernel)
set_option maxRecDepth 20000 in
theorem gL_law_X5_thrown : GoodIn wsL_law (wsV RL 81 RX5 yX5_thrown wsX5_thrown) := goodIn_app (goodIn_of _ (by decide +kernel)) ggL_law_X5_thrown
set_option maxRecDepth 20000 in
theorem ggL_law_L_setPart : GoodIn wsL_law wsL_setPart := goodIn_ca (goodIn_ca (goodIn_ca (goodIn_r _ [132, 133, 86, 87, 134, 135, 136, 2, 137, 92, 16, 138, 139, 140, 141, 142, 143, 144, 97, 98, 99, 100, 101, 102, 103, 104, 105, 106, 107, 29, 530, 531, 532, 533, 534, 535, 536, 537, 538, 539, 540, 541, 542, 543, 575, 576] (by decide +kernel) (by decide +kernel)) (goodIn_sub (fun _ h => List.mem_append_right _ h) (by decide +kernel))) (goodIn_sub (fun _ h => List.mem_append_left _ (List.mem_append_left _ (List.mem_append_right _ h))) (by decide +kernel))) (goodIn_sub (fun _ h => List.mem_append_left _ (List.mem_append_right _ h)) (by decide +kernel))
set_option maxRecDepth 20000 in
theorem gL_law_L_setPart : GoodIn wsL_law (va_wsS RL 84 yL_setPart wsL_setPart) := goodIn_app (goodIn_of _ (by decide +kernel)) ggL_law_L_setPart
set_option maxRecDepth 20000 in
theorem ggL_law_X5_setPart : GoodIn wsL_law wsX5_setPart := goodIn_r _ [148, 112, 114, 67, 68, 118, 119, 5, 120, 121, 122, 123, 124, 125, 544, 545, 546, 547, 548, 549, 550, 551, 552, 553, 554, 555, 556, 557, 558, 559, 560, 561, 562, 563, 564, 565, 566, 567, 568, 569, 570, 571, 572, 573, 574] (by decide +kernel) (by decide +kernel)
set_option maxRecDepth 20000 in
theorem gL_law_X5_setPart : GoodIn wsL_law (wsV RL 86 RX5 yX5_setPart wsX5_setPart) := goodIn_app (goodIn_of _ (by decide +kernel)) ggL_law_X5_setPart
set_option maxRecDepth 20000 in
theorem ggL_law_L_setKind : GoodIn wsL_law wsL_setKind := goodIn_ca (goodIn_ca (goodIn_ca (goodIn_r _ [151, 133, 86, 87, 152, 153, 154, 2, 155, 92, 156, 20, 157, 158, 159, 160, 161, 140, 141, 142, 143, 144, 97, 98, 99, 100, 101, 102, 103, 104, 105, 106, 107, 29, 530, 531, 532, 533, 534, 535, 536, 537, 538, 539, 540, 541, 542, 543, 577, 578, 579, 580, 581] (by decide +kernel) (by decide +kernel)) (goodIn_sub (fun _ h => List.mem_append_right _ h) (by decide +kernel))) (goodIn_sub (fun _ h => List.mem_append_left _ (List.mem_append_left _ (List.mem_append_right _ h))) (by decide +kernel))) (goodIn_sub (fun _ h => List.mem_append_left _ (List.mem_append_right _ h)) (by decide +kernel))
set_option maxRecDepth 20000 in
theorem gL_law_L_setKind : GoodIn wsL_law (va_wsS RL 87 yL_setKind wsL_setKind) := goodIn_app (goodIn_of _ (by decide +kernel)) ggL_law_L_setKind
set_option maxRecDepth 20000 in
theorem ggL_law_X5_setKind : GoodIn wsL_law wsX5_setKind := goodIn_r _ [165, 112, 166, 114, 69, 70, 71, 72, 73, 118, 119, 5, 120, 121, 122, 123, 124, 125, 544, 545, 546, 547, 548, 549, 550, 551, 552, 553, 554, 555, 556, 557, 558, 559, 560, 561, 562, 563, 564, 565, 566, 567, 568, 569, 570, 571, 572, 573, 574] (by decide +kernel) (by decide +kernel)
set_option maxRecDepth 20000 in
theorem gL_law_X5_setKind : GoodIn wsL_law (wsV RL 90 RX5 yX5_setKind wsX5_setKind) := goodIn_app (goodIn_of _ (by decide +kernel)) ggL_law_X5_setKind
set_option maxRecDepth 20000 in
theorem ggL_law_L_setYear : GoodIn wsL_law wsL_setYear := goodIn_ca (goodIn_ca (goodIn_ca (goodIn_r _ [169, 133, 86, 87, 170, 171, 172, 2, 173, 92, 28, 174, 175, 140, 141, 142, 143, 144, 97, 98, 99, 100, 101, 102, 103, 104, 105, 106, 107, 29, 530, 531, 532, 533, 534, 535, 536, 537, 538, 539, 540, 541, 542, 543, 587, 588, 589, 590, 591, 592, 593, 594] (by decide +kernel) (by decide +kernel)) (goodIn_sub (fun _ h => List.mem_append_right _ h) (by decide +kernel))) (goodIn_sub (fun _ h => List.mem_append_left _ (List.mem_append_left _ (List.mem_append_right _ h))) (by decide +kernel))) (goodIn_sub (fun _ h => List.mem_append_left _ (List.mem_append_right _ h)) (by decide +kernel))
set_option maxRecDepth 20000 in
theorem gL_law_L_setYear : GoodIn wsL_law (va_wsS RL 91 yL_setYear wsL_setYear) := goodIn_app (goodIn_of _ (by decide +kernel)) ggL_law_L_setYear
set_option maxRecDepth 20000 in
theorem ggL_law_X5_setYear : GoodIn wsL_law wsX5_setYear := goodIn_r _ [179, 112, 114, 74, 75, 118, 119, 5, 120, 121, 122, 123, 124, 125, 544, 545, 546, 547, 548, 549, 550, 551, 552, 553, 554, 555, 556, 557, 558, 559, 560, 561, 562, 563, 564, 565, 566, 567, 568, 569, 570, 571, 572, 573, 574] (by decide +kernel) (by decide +kernel)
set_option maxRecDepth 20000 in
theorem gL_law_X5_setYear : GoodIn wsL_law (wsV RL 93 RX5 yX5_setYear wsX5_setYear) := goodIn_app (goodIn_of _ (by decide +kernel)) ggL_law_X5_setYear
set_option maxRecDepth 20000 in
theorem ggL_law_L_setCarry : GoodIn wsL_law wsL_setCarry := goodIn_ca (goodIn_r _ [182, 87, 183, 184, 185, 2, 186, 28, 187, 102, 103, 104, 105, 106, 107, 29, 530, 531, 532, 533, 534, 535, 536, 537, 538, 539, 540, 541, 542, 543, 587, 588, 589, 590, 591, 592, 593, 594] (by decide +kernel) (by decide +kernel)) (goodIn_sub (fun _ h => List.mem_append_left _ (List.mem_append_right _ h)) (by decide +kernel))
set_option maxRecDepth 20000 in
theorem gL_law_L_setCarry : GoodIn wsL_law (va_wsS RL 94 yL_setCarry wsL_setCarry) := goodIn_app (goodIn_of _ (by decide +kernel)) ggL_law_L_setCarry
set_option maxRecDepth 20000 in
theorem ggL_law_X5_setCarry : GoodIn wsL_law wsX5_setCarry := goodIn_r _ [191, 114, 192, 121, 122, 123, 5, 124, 125, 544, 545, 546, 547, 548, 549, 550, 551, 552, 553, 554, 555, 556, 557, 558, 559, 560, 561, 562, 563, 564, 565, 566, 567, 568, 569, 570, 571, 572, 573, 574] (by decide +kernel) (by decide +kernel)
set_option maxRecDepth 20000 in
theorem gL_law_X5_setCarry : GoodIn wsL_law (wsV RL 97 RX5 yX5_setCarry wsX5_setCarry) := goodIn_app (goodIn_of _ (by decide +kernel)) ggL_law_X5_setCarry
set_option maxRecDepth 20000 in
theorem ggL_law_L_close : GoodIn wsL_law wsL_close := goodIn_ca (goodIn_ca (goodIn_r _ [195, 86, 87, 196, 197, 198, 2, 199, 92, 93, 29, 94, 95, 200, 201, 202, 203, 30, 16, 204, 205, 206, 207, 208, 97, 98, 99, 100, 101, 102, 103, 104, 105, 106, 107, 209, 210, 211, 212, 96, 213, 214, 215, 15, 216, 36, 530, 531, 532, 533, 534, 535, 536, 537, 538, 539, 540, 541, 542, 543, 575, 576] (by decide +kernel) (by decide +kernel)) (goodIn_sub (fun _ h => List.mem_append_left _ (List.mem_append_left _ (List.mem_append_right _ h))) (by decide +kernel))) (goodIn_sub (fun _ h => List.mem_append_left _ (List.mem_append_right _ h)) (by decide +kernel))
set_option maxRecDepth 20000 in
theorem gL_law_L_close : GoodIn wsL_law (va_wsS RL 98 yL_close wsL_close) := goodIn_app (goodIn_of _ (by decide +kernel)) ggL_law_L_close
set_option maxRecDepth 20000 in
theorem ggL_law_X5_close : GoodIn wsL_law wsX5_close := goodIn_r _ [220, 112, 113, 114, 116, 117, 115, 221, 67, 222, 223, 118, 119, 5, 120, 121, 122, 123, 124, 125, 544, 545, 546, 547, 548, 549, 550, 551, 552, 553, 554, 555, 556, 557, 558, 559, 560, 561, 562, 563, 564, 565, 566, 567, 568, 569, 570, 571, 572, 573, 574] (by decide +kernel) (by decide +kernel)
set_option maxRecDepth 20000 in
theorem gL_law_X5_close : GoodIn wsL_law (wsV RL 101 RX5 yX5_close wsX5_close) := goodIn_app (goodIn_of _ (by decide +kernel)) ggL_law_X5_close
set_option maxRecDepth 20000 in
theorem ggL_law_L_advance : GoodIn wsL_law wsL_advance := goodIn_ca (goodIn_ca (goodIn_r _ [226, 86, 87, 227, 228, 229, 2, 230, 106, 107, 29, 97, 98, 99, 100, 101, 231, 232, 233, 234, 235, 236, 237, 238, 16, 24, 207, 208, 239, 240, 241, 15, 242, 37, 36, 243, 244, 245, 23, 246, 247, 55, 53, 530, 531, 532, 533, 534, 535, 536, 537, 538, 539, 540, 541, 542, 543, 575, 576, 582, 583, 584, 585, 586] (by decide +kernel) (by decide +kernel)) (goodIn_sub (fun _ h => List.mem_append_left _ (List.mem_append_right _ h)) (by decide +kernel))) (goodIn_sub (fun _ h => List.mem_append_left _ (List.mem_append_left _ (List.mem_append_right _ h))) (by decide +kernel))
set_option maxRecDepth 20000 in
theorem gL_law_L_advance : GoodIn wsL_law (va_wsS RL 102 yL_advance wsL_advance) := goodIn_app (goodIn_of _ (by decide +kernel)) ggL_law_L_advance
set_option maxRecDepth 20000 in
theorem ggL_law_X5_advance : GoodIn wsL_law wsX5_advance := goodIn_r _ [251, 114, 252, 118, 119, 5, 120, 121, 122, 123, 124, 125, 253, 254, 255, 256, 68, 67, 257, 79, 77, 222, 223, 544, 545, 546, 547, 548, 549, 550, 551, 552, 553, 554, 555, 556, 557, 558, 559, 560, 561, 562, 563, 564, 565, 566, 567, 568, 569, 570, 571, 572, 573, 574] (by decide +kernel) (by decide +kernel)
set_option maxRecDepth 20000 in
theorem gL_law_X5_advance : GoodIn wsL_law (wsV RL 105 RX5 yX5_advance wsX5_advance) := goodIn_app (goodIn_of _ (by decide +kernel)) ggL_law_X5_advance
set_option maxRecDepth 20000 in
theorem ggL_law_L_claim : GoodIn wsL_law wsL_claim := goodIn_ca (goodIn_ca (goodIn_ca (goodIn_r _ [260, 133, 86, 87, 261, 262, 263, 2, 264, 106, 107, 92, 29, 20, 161, 24, 265, 266, 267, 268, 269, 140, 141, 142, 143, 144, 97, 98, 99, 100, 101, 231, 232, 233, 234, 530, 531, 532, 533, 534, 535, 536, 537, 538, 539, 540, 541, 542, 543, 577, 578, 579, 580, 581, 582, 583, 584, 585, 586] (by decide +kernel) (by decide +kernel)) (goodIn_sub (fun _ h => List.mem_append_left _ (List.mem_append_right _ h)) (by decide +kernel))) (goodIn_sub (fun _ h => List.mem_append_right _ h) (by decide +kernel))) (goodIn_sub (fun _ h => List.mem_append_left _ (List.mem_append_left _ (List.mem_append_right _ h))) (by decide +kernel))
set_option maxRecDepth 20000 in
theorem gL_law_L_claim : GoodIn wsL_law (va_wsS RL 106 yL_claim wsL_claim) := goodIn_app (goodIn_of _ (by decide +kernel)) ggL_law_L_claim
set_option maxRecDepth 20000 in
theorem ggL_law_X5_claim : GoodIn wsL_law wsX5_claim := goodIn_r _ [273, 112, 114, 252, 73, 257, 76, 77, 78, 79, 118, 119, 5, 120, 121, 122, 123, 124, 125, 544, 545, 546, 547, 548, 549, 550, 551, 552, 553, 554, 555, 556, 557, 558, 559, 560, 561, 562, 563, 564, 565, 566, 567, 568, 569, 570, 571, 572, 573, 574] (by decide +kernel) (by decide +kernel)
set_option maxRecDepth 20000 in
theorem gL_law_X5_claim : GoodIn wsL_law (wsV RL 109 RX5 yX5_claim wsX5_claim) := goodIn_app (goodIn_of _ (by decide +kernel)) ggL_law_X5_claim
set_option maxRecDepth 20000 in
theorem ggL_law_L_offer : GoodIn wsL_law wsL_offer := goodIn_ca (goodIn_ca (goodIn_ca (goodIn_r _ [276, 133, 87, 86, 277, 278, 279, 2, 280, 24, 265, 269, 267, 268, 140, 141, 142, 143, 144, 281, 282, 283, 106, 107, 97, 98, 99, 100, 101, 530, 531, 532, 533, 534, 535, 536, 537, 538, 539, 540, 541, 542, 543, 582, 583, 584, 585, 586] (by decide +kernel) (by decide +kernel)) (goodIn_sub (fun _ h => List.mem_append_right _ h) (by decide +kernel))) (goodIn_sub (fun _ h => List.mem_append_left _ (List.mem_append_right _ h)) (by decide +kernel))) (goodIn_sub (fun _ h => List.mem_append_left _ (List.mem_append_left _ (List.mem_append_right _ h))) (by decide +kernel))
set_option maxRecDepth 20000 in
theorem gL_law_L_offer : GoodIn wsL_law (va_wsS RL 110 yL_offer wsL_offer) := goodIn_app (goodIn_of _ (by decide +kernel)) ggL_law_L_offer
set_option maxRecDepth 20000 in
theorem ggL_law_X5_offer : GoodIn wsL_law wsX5_offer := goodIn_r _ [287, 79, 77, 78, 288, 289, 290, 5, 291, 257, 118, 119, 120, 121, 122, 123, 124, 125, 544, 545, 546, 547, 548, 549, 550, 551, 552, 553, 554, 555, 556, 557, 558, 559, 560, 561, 562, 563, 564, 565, 566, 567, 568, 569, 570, 571, 572, 573, 574] (by decide +kernel) (by decide +kernel)
set_option maxRecDepth 20000 in
theorem gL_law_X5_offer : GoodIn wsL_law (wsV RL 112 RX5 yX5_offer wsX5_offer) := goodIn_app (goodIn_of _ (by decide +kernel)) ggL_law_X5_offer
set_option maxRecDepth 20000 in
theorem ggL_law_L_agree : GoodIn wsL_law wsL_agree := goodIn_ca (goodIn_ca (goodIn_r _ [294, 133, 87, 295, 296, 297, 2, 298, 106, 107, 24, 265, 269, 268, 140, 141, 142, 143, 144, 281, 282, 283, 299, 300, 301, 302, 207, 204, 205, 202, 206, 303, 304, 305, 306, 307, 308, 309, 310, 311, 312, 313, 314, 315, 316, 20, 157, 317, 318, 319, 23, 320, 247, 52, 55, 321, 322, 323, 19, 324, 46, 325, 326, 327, 328, 329, 43, 45, 235, 236, 237, 238, 16, 29, 208, 239, 240, 241, 15, 242, 37, 36, 243, 244, 245, 246, 53, 530, 531, 532, 533, 534, 535, 536, 537, 538, 539, 540, 541, 542, 543, 582, 583, 584, 585, 586, 577, 578, 579, 580, 581, 575, 576] (by decide +kernel) (by decide +kernel)) (goodIn_sub (fun _ h => List.mem_append_left _ (List.mem_append_right _ h)) (by decide +kernel))) (goodIn_sub (fun _ h => List.mem_append_right _ h) (by decide +kernel))
set_option maxRecDepth 20000 in
theorem gL_law_L_agree : GoodIn wsL_law (va_wsS RL 113 yL_agree wsL_agree) := goodIn_app (goodIn_of _ (by decide +kernel)) ggL_law_L_agree
set_option maxRecDepth 20000 in
theorem ggL_law_X5_agree : GoodIn wsL_law wsX5_agree := goodIn_r _ [333, 79, 78, 288, 289, 290, 5, 291, 257, 118, 119, 120, 121, 122, 123, 124, 125, 334, 335, 336, 337, 222, 338, 339, 340, 341, 342, 343, 344, 345, 346, 347, 348, 349, 350, 351, 76, 69, 71, 70, 72, 253, 254, 255, 256, 68, 252, 67, 77, 223, 544, 545, 546, 547, 548, 549, 550, 551, 552, 553, 554, 555, 556, 557, 558, 559, 560, 561, 562, 563, 564, 565, 566, 567, 568, 569, 570, 571, 572, 573, 574] (by decide +kernel) (by decide +kernel)
set_option maxRecDepth 20000 in
theorem gL_law_X5_agree : GoodIn wsL_law (wsV RL 115 RX5 yX5_agree wsX5_agree) := goodIn_app (goodIn_of _ (by decide +kernel)) ggL_law_X5_agree
set_option maxRecDepth 20000 in
theorem ggL_law_L_decide : GoodIn wsL_law wsL_decide := goodIn_ca (goodIn_ca (goodIn_ca (goodIn_r _ [354, 133, 87, 86, 355, 356, 357, 2, 358, 24, 265, 269, 268, 267, 140, 141, 142, 143, 144, 281, 282, 283, 106, 107, 97, 98, 99, 100, 101, 299, 300, 301, 302, 207, 204, 205, 202, 206, 303, 304, 305, 306, 307, 308, 309, 310, 311, 312, 313, 314, 315, 316, 20, 157, 317, 318, 319, 23, 320, 247, 52, 55, 321, 322, 323, 19, 324, 46, 325, 326, 327, 328, 329, 43, 45, 235, 236, 237, 238, 16, 29, 208, 239, 240, 241, 15, 242, 37, 36, 243, 244, 245, 246, 53, 530, 531, 532, 533, 534, 535, 536, 537, 538, 539, 540, 541, 542, 543, 582, 583, 584, 585, 586, 577, 578, 579, 580, 581, 575, 576] (by decide +kernel) (by decide +kernel)) (goodIn_sub (fun _ h => List.mem_append_right _ h) (by decide +kernel))) (goodIn_sub (fun _ h => List.mem_append_left _ (List.mem_append_right _ h)) (by decide +kernel))) (goodIn_sub (fun _ h => List.mem_append_left _ (List.mem_append_left _ (List.mem_append_right _ h))) (by decide +kernel))
set_option maxRecDepth 20000 in
theorem gL_law_L_decide : GoodIn wsL_law (va_wsS RL 116 yL_decide wsL_decide) := goodIn_app (goodIn_of _ (by decide +kernel)) ggL_law_L_decide
set_option maxRecDepth 20000 in
theorem ggL_law_X5_decide : GoodIn wsL_law wsX5_decide := goodIn_r _ [362, 79, 78, 77, 288, 289, 290, 5, 291, 257, 118, 119, 120, 121, 122, 123, 124, 125, 334, 335, 336, 337, 222, 338, 339, 340, 341, 342, 343, 344, 345, 346, 347, 348, 349, 350, 351, 76, 69, 71, 70, 72, 253, 254, 255, 256, 68, 252, 67, 223, 544, 545, 546, 547, 548, 549, 550, 551, 552, 553, 554, 555, 556, 557, 558, 559, 560, 561, 562, 563, 564, 565, 566, 567, 568, 569, 570, 571, 572, 573, 574] (by decide +kernel) (by decide +kernel)
set_option maxRecDepth 20000 in
theorem gL_law_X5_decide : GoodIn wsL_law (wsV RL 118 RX5 yX5_decide wsX5_decide) := goodIn_app (goodIn_of _ (by decide +kernel)) ggL_law_X5_decide
set_option maxRecDepth 20000 in
theorem ggL_law_L_report : GoodIn wsL_law wsL_report := goodIn_ca (goodIn_ca (goodIn_r _ [365, 86, 87, 366, 367, 368, 2, 369, 106, 107, 93, 92, 28, 370, 371, 97, 98, 99, 100, 101, 231, 232, 233, 234, 29, 372, 373, 374, 27, 375, 376, 377, 378, 60, 379, 380, 381, 382, 383, 62, 61, 384, 385, 386, 387, 204, 205, 202, 206, 388, 308, 208, 304, 305, 306, 307, 303, 309, 310, 311, 312, 313, 314, 315, 316, 20, 24, 157, 317, 318, 319, 23, 320, 247, 52, 55, 321, 322, 323, 19, 324, 46, 325, 326, 327, 328, 329, 43, 45, 530, 531, 532, 533, 534, 535, 536, 537, 538, 539, 540, 541, 542, 543, 587, 588, 589, 590, 591, 592, 593, 594, 577, 578, 579, 580, 581, 582, 583, 584, 585, 586] (by decide +kernel) (by decide +kernel)) (goodIn_sub (fun _ h => List.mem_append_left _ (List.mem_append_right _ h)) (by decide +kernel))) (goodIn_sub (fun _ h => List.mem_append_left _ (List.mem_append_left _ (List.mem_append_right _ h))) (by decide +kernel))
set_option maxRecDepth 20000 in
theorem gL_law_L_report : GoodIn wsL_law (va_wsS RL 119 yL_report wsL_report) := goodIn_app (goodIn_of _ (by decide +kernel)) ggL_law_L_report
set_option maxRecDepth 20000 in
theorem ggL_law_X5_report : GoodIn wsL_law wsX5_report := goodIn_r _ [392, 113, 112, 114, 393, 394, 80, 74, 192, 81, 75, 118, 119, 5, 120, 121, 122, 123, 124, 125, 395, 396, 397, 398, 343, 223, 399, 339, 340, 341, 342, 338, 344, 345, 346, 347, 348, 349, 350, 351, 257, 76, 79, 69, 71, 70, 72, 544, 545, 546, 547, 548, 549, 550, 551, 552, 553, 554, 555, 556, 557, 558, 559, 560, 561, 562, 563, 564, 565, 566, 567, 568, 569, 570, 571, 572, 573, 574] (by decide +kernel) (by decide +kernel)
set_option maxRecDepth 20000 in
theorem gL_law_X5_report : GoodIn wsL_law (wsV RL 121 RX5 yX5_report wsX5_report) := goodIn_app (goodIn_of _ (by decide +kernel)) ggL_law_X5_report
set_option maxRecDepth 20000 in
theorem ggL_law_L_speedUp : GoodIn wsL_law wsL_speedUp := goodIn_ca (goodIn_r _ [402, 87, 403, 404, 405, 2, 406, 106, 107, 28, 370, 231, 232, 233, 234, 29, 407, 408, 409, 27, 410, 411, 376, 380, 381, 382, 383, 62, 61, 384, 385, 386, 387, 204, 205, 202, 206, 388, 308, 208, 304, 305, 306, 307, 303, 309, 310, 311, 312, 313, 314, 315, 316, 20, 24, 157, 317, 318, 319, 23, 320, 247, 52, 55, 321, 322, 323, 19, 324, 46, 325, 326, 327, 328, 329, 43, 45, 530, 531, 532, 533, 534, 535, 536, 537, 538, 539, 540, 541, 542, 543, 587, 588, 589, 590, 591, 592, 593, 594, 577, 578, 579, 580, 581, 582, 583, 584, 585, 586] (by decide +kernel) (by decide +kernel)) (goodIn_sub (fun _ h => List.mem_append_left _ (List.mem_append_right _ h)) (by decide +kernel))
set_option maxRecDepth 20000 in
theorem gL_law_L_speedUp : GoodIn wsL_law (va_wsS RL 122 yL_speedUp wsL_speedUp) := goodIn_app (goodIn_of _ (by decide +kernel)) ggL_law_L_speedUp
set_option maxRecDepth 20000 in
theorem ggL_law_X5_speedUp : GoodIn wsL_law wsX5_speedUp := goodIn_r _ [415, 114, 394, 393, 81, 75, 121, 122, 123, 5, 124, 125, 395, 396, 397, 398, 343, 223, 399, 339, 340, 341, 342, 338, 344, 345, 346, 347, 348, 349, 350, 351, 257, 76, 79, 69, 71, 70, 72, 544, 545, 546, 547, 548, 549, 550, 551, 552, 553, 554, 555, 556, 557, 558, 559, 560, 561, 562, 563, 564, 565, 566, 567, 568, 569, 570, 571, 572, 573, 574] (by decide +kernel) (by decide +kernel)
set_option maxRecDepth 20000 in
theorem gL_law_X5_speedUp : GoodIn wsL_law (wsV RL 125 RX5 yX5_speedUp wsX5_speedUp) := goodIn_app (goodIn_of _ (by decide +kernel)) ggL_law_X5_speedUp
set_option maxRecDepth 20000 in
theorem ggL_law_X4_day : GoodIn wsL_law wsX4_day := goodIn_r _ [419, 29, 530, 531, 532, 533, 534, 535, 536, 537, 538, 539, 540, 541, 542, 543] (by decide +kernel) (by decide +kernel)
set_option maxRecDepth 20000 in
theorem gL_law_X4_day : GoodIn wsL_law (wsV RL 126 RX4 yX4_day wsX4_day) := goodIn_app (goodIn_of _ (by decide +kernel)) ggL_law_X4_day
set_option maxRecDepth 20000 in
theorem ggL_law_X5_day : GoodIn wsL_law wsX5_day := goodIn_r _ [423, 125, 114, 252, 544, 545, 546, 547, 548, 549, 550, 551, 552, 553, 554, 555, 556, 557, 558, 559, 560, 561, 562, 563, 564, 565, 566, 567, 568, 569, 570, 571, 572, 573, 574] (by decide +kernel) (by decide +kernel)
set_option maxRecDepth 20000 in
theorem gL_law_X5_day : GoodIn wsL_law (wsV RL 129 RX5 yX5_day wsX5_day) := goodIn_app (goodIn_of _ (by decide +kernel)) ggL_law_X5_day
set_option maxRecDepth 20000 in
theorem ggL_law_X4_finalPrice : GoodIn wsL_law wsX4_finalPrice := goodIn_r _ [427, 30, 530, 531, 532, 533, 534, 535, 536, 537, 538, 539, 540, 541, 542, 543] (by decide +kernel) (by decide +kernel)
set_option maxRecDepth 20000 in
theorem gL_law_X4_finalPrice : GoodIn wsL_law (wsV RL 130 RX4 yX4_finalPrice wsX4_finalPrice) := goodIn_app (goodIn_of _ (by decide +kernel)) ggL_law_X4_finalPrice
set_option maxRecDepth 20000 in
theorem ggL_law_X5_finalPrice : GoodIn wsL_law wsX5_finalPrice := goodIn_r _ [431, 125, 114, 221, 544, 545, 546, 547, 548, 549, 550, 551, 552, 553, 554, 555, 556, 557, 558, 559, 560, 561, 562, 563, 564, 565, 566, 567, 568, 569, 570, 571, 572, 573, 574] (by decide +kernel) (by decide +kernel)
set_option maxRecDepth 20000 in
theorem gL_law_X5_finalPrice : GoodIn wsL_law (wsV RL 133 RX5 yX5_finalPrice wsX5_finalPrice) := goodIn_app (goodIn_of _ (by decide +kernel)) ggL_law_X5_finalPrice
set_option maxRecDepth 20000 in
theorem ggL_law_X4_held : GoodIn wsL_law wsX4_held := goodIn_r _ [435, 207, 530, 531, 532, 533, 534, 535, 536, 537, 538, 539, 540, 541, 542, 543] (by decide +kernel) (by decide +kernel)
set_option maxRecDepth 20000 in
theorem gL_law_X4_held : GoodIn wsL_law (wsV RL 134 RX4 yX4_held wsX4_held) := goodIn_app (goodIn_of _ (by decide +kernel)) ggL_law_X4_held
set_option maxRecDepth 20000 in
theorem ggL_law_X5_held : GoodIn wsL_law wsX5_held := goodIn_r _ [439, 125, 222, 544, 545, 546, 547, 548, 549, 550, 551, 552, 553, 554, 555, 556, 557, 558, 559, 560, 561, 562, 563, 564, 565, 566, 567, 568, 569, 570, 571, 572, 573, 574] (by decide +kernel) (by decide +kernel)
set_option maxRecDepth 20000 in
theorem gL_law_X5_held : GoodIn wsL_law (wsV RL 137 RX5 yX5_held wsX5_held) := goodIn_app (goodIn_of _ (by decide +kernel)) ggL_law_X5_held
set_option maxRecDepth 20000 in
theorem ggL_law_X4_paid : GoodIn wsL_law wsX4_paid := goodIn_r _ [443, 208, 530, 531, 532, 533, 534, 535, 536, 537, 538, 539, 540, 541, 542, 543] (by decide +kernel) (by decide +kernel)
set_option maxRecDepth 20000 in
theorem gL_law_X4_paid : GoodIn wsL_law (wsV RL 138 RX4 yX4_paid wsX4_paid) := goodIn_app (goodIn_of _ (by decide +kernel)) ggL_law_X4_paid
set_option maxRecDepth 20000 in
theorem ggL_law_X5_paid : GoodIn wsL_law wsX5_paid := goodIn_r _ [447, 125, 223, 544, 545, 546, 547, 548, 549, 550, 551, 552, 553, 554, 555, 556, 557, 558, 559, 560, 561, 562, 563, 564, 565, 566, 567, 568, 569, 570, 571, 572, 573, 574] (by decide +kernel) (by decide +kernel)
set_option maxRecDepth 20000 in
theorem gL_law_X5_paid : GoodIn wsL_law (wsV RL 141 RX5 yX5_paid wsX5_paid) := goodIn_app (goodIn_of _ (by decide +kernel)) ggL_law_X5_paid
set_option maxRecDepth 20000 in
theorem ggL_law_X4_returned : GoodIn wsL_law wsX4_returned := goodIn_r _ [451, 303, 530, 531, 532, 533, 534, 535, 536, 537, 538, 539, 540, 541, 542, 543] (by decide +kernel) (by decide +kernel)
set_option maxRecDepth 20000 in
theorem gL_law_X4_returned : GoodIn wsL_law (wsV RL 142 RX4 yX4_returned wsX4_returned) := goodIn_app (goodIn_of _ (by decide +kernel)) ggL_law_X4_returned
set_option maxRecDepth 20000 in
theorem ggL_law_X5_returned : GoodIn wsL_law wsX5_returned := goodIn_r _ [455, 125, 338, 544, 545, 546, 547, 548, 549, 550, 551, 552, 553, 554, 555, 556, 557, 558, 559, 560, 561, 562, 563, 564, 565, 566, 567, 568, 569, 570, 571, 572, 573, 574] (by decide +kernel) (by decide +kernel)
set_option maxRecDepth 20000 in
theorem gL_law_X5_returned : GoodIn wsL_law (wsV RL 145 RX5 yX5_returned wsX5_returned) := goodIn_app (goodIn_of _ (by decide +kernel)) ggL_law_X5_returned
set_option maxRecDepth 20000 in
theorem ggL_law_X4_setOff : GoodIn wsL_law wsX4_setOff := goodIn_r _ [459, 308, 530, 531, 532, 533, 534, 535, 536, 537, 538, 539, 540, 541, 542, 543] (by decide +kernel) (by decide +kernel)
set_option maxRecDepth 20000 in
theorem gL_law_X4_setOff : GoodIn wsL_law (wsV RL 146 RX4 yX4_setOff wsX4_setOff) := goodIn_app (goodIn_of _ (by decide +kernel)) ggL_law_X4_setOff
set_option maxRecDepth 20000 in
theorem ggL_law_X5_setOff : GoodIn wsL_law wsX5_setOff := goodIn_r _ [463, 125, 343, 544, 545, 546, 547, 548, 549, 550, 551, 552, 553, 554, 555, 556, 557, 558, 559, 560, 561, 562, 563, 564, 565, 566, 567, 568, 569, 570, 571, 572, 573, 574] (by decide +kernel) (by decide +kernel)
set_option maxRecDepth 20000 in
theorem gL_law_X5_setOff : GoodIn wsL_law (wsV RL 149 RX5 yX5_setOff wsX5_setOff) := goodIn_app (goodIn_of _ (by decide +kernel)) ggL_law_X5_setOff
set_option maxRecDepth 20000 in
theorem ggL_law_X4_owed : GoodIn wsL_law wsX4_owed := goodIn_r _ [467, 388, 530, 531, 532, 533, 534, 535, 536, 537, 538, 539, 540, 541, 542, 543] (by decide +kernel) (by decide +kernel)
set_option maxRecDepth 20000 in
theorem gL_law_X4_owed : GoodIn wsL_law (wsV RL 150 RX4 yX4_owed wsX4_owed) := goodIn_app (goodIn_of _ (by decide +kernel)) ggL_law_X4_owed
set_option maxRecDepth 20000 in
theorem ggL_law_X5_owed : GoodIn wsL_law wsX5_owed := goodIn_r _ [471, 125, 399, 544, 545, 546, 547, 548, 549, 550, 551, 552, 553, 554, 555, 556, 557, 558, 559, 560, 561, 562, 563, 564, 565, 566, 567, 568, 569, 570, 571, 572, 573, 574] (by decide +kernel) (by decide +kernel)
set_option maxRecDepth 20000 in
theorem gL_law_X5_owed : GoodIn wsL_law (wsV RL 153 RX5 yX5_owed wsX5_owed) := goodIn_app (goodIn_of _ (by decide +kernel)) ggL_law_X5_owed
set_option maxRecDepth 20000 in
theorem ggL_law_X4_due : GoodIn wsL_law wsX4_due := goodIn_r _ [475, 309, 310, 311, 2, 312, 313, 314, 315, 316, 20, 24, 157, 317, 318, 319, 23, 320, 247, 52, 55, 321, 322, 323, 19, 324, 46, 325, 205, 202, 206, 326, 327, 328, 329, 43, 45, 530, 531, 532, 533, 534, 535, 536, 537, 538, 539, 540, 541, 542, 543, 577, 578, 579, 580, 581, 582, 583, 584, 585, 586] (by decide +kernel) (by decide +kernel)
set_option maxRecDepth 20000 in
theorem gL_law_X4_due : GoodIn wsL_law (wsV RL 154 RX4 yX4_due wsX4_due) := goodIn_app (goodIn_of _ (by decide +kernel)) ggL_law_X4_due
set_option maxRecDepth 20000 in
theorem ggL_law_X5_due : GoodIn wsL_law wsX5_due := goodIn_r _ [479, 125, 344, 345, 346, 5, 347, 348, 349, 350, 351, 257, 76, 79, 69, 71, 70, 72, 544, 545, 546, 547, 548, 549, 550, 551, 552, 553, 554, 555, 556, 557, 558, 559, 560, 561, 562, 563, 564, 565, 566, 567, 568, 569, 570, 571, 572, 573, 574] (by decide +kernel) (by decide +kernel)
set_option maxRecDepth 20000 in
theorem gL_law_X5_due : GoodIn wsL_law (wsV RL 157 RX5 yX5_due wsX5_due) := goodIn_app (goodIn_of _ (by decide +kernel)) ggL_law_X5_due
set_option maxRecDepth 20000 in
theorem ggL_law_X4_outstanding : GoodIn wsL_law wsX4_outstanding := goodIn_r _ [483, 304, 305, 306, 2, 307, 303, 308, 309, 310, 311, 312, 313, 314, 315, 316, 20, 24, 157, 317, 318, 319, 23, 320, 247, 52, 55, 321, 322, 323, 19, 324, 46, 325, 205, 202, 206, 326, 327, 328, 329, 43, 45, 530, 531, 532, 533, 534, 535, 536, 537, 538, 539, 540, 541, 542, 543, 577, 578, 579, 580, 581, 582, 583, 584, 585, 586] (by decide +kernel) (by decide +kernel)
set_option maxRecDepth 20000 in
theorem gL_law_X4_outstanding : GoodIn wsL_law (wsV RL 158 RX4 yX4_outstanding wsX4_outstanding) := goodIn_app (goodIn_of _ (by decide +kernel)) ggL_law_X4_outstanding
set_option maxRecDepth 20000 in
theorem ggL_law_X5_outstanding : GoodIn wsL_law wsX5_outstanding := goodIn_r _ [487, 125, 339, 340, 341, 5, 342, 338, 343, 344, 345, 346, 347, 348, 349, 350, 351, 257, 76, 79, 69, 71, 70, 72, 544, 545, 546, 547, 548, 549, 550, 551, 552, 553, 554, 555, 556, 557, 558, 559, 560, 561, 562, 563, 564, 565, 566, 567, 568, 569, 570, 571, 572, 573, 574] (by decide +kernel) (by decide +kernel)
set_option maxRecDepth 20000 in
theorem gL_law_X5_outstanding : GoodIn wsL_law (wsV RL 161 RX5 yX5_outstanding wsX5_outstanding) := goodIn_app (goodIn_of _ (by decide +kernel)) ggL_law_X5_outstanding
set_option maxRecDepth 20000 in
theorem ggL_law_L_dueOf : GoodIn wsL_law wsL_dueOf := goodIn_ca (goodIn_r _ [490, 133, 491, 492, 493, 2, 494, 140, 141, 142, 143, 144, 313, 314, 315, 316, 20, 24, 157, 317, 318, 319, 23, 320, 247, 52, 55, 321, 322, 323, 19, 324, 46, 325, 205, 202, 206, 326, 327, 328, 329, 43, 45, 530, 531, 532, 533, 534, 535, 536, 537, 538, 539, 540, 541, 542, 543, 577, 578, 579, 580, 581, 582, 583, 584, 585, 586] (by decide +kernel) (by decide +kernel)) (goodIn_sub (fun _ h => List.mem_append_right _ h) (by decide +kernel))
set_option maxRecDepth 20000 in
theorem gL_law_L_dueOf : GoodIn wsL_law (va_wsS RL 162 yL_dueOf wsL_dueOf) := goodIn_app (goodIn_of _ (by decide +kernel)) ggL_law_L_dueOf
set_option maxRecDepth 20000 in
theorem ggL_law_X5_dueOf : GoodIn wsL_law wsX5_dueOf := goodIn_r _ [498, 118, 119, 5, 120, 121, 122, 123, 124, 125, 348, 349, 350, 351, 257, 76, 79, 69, 71, 70, 72, 544, 545, 546, 547, 548, 549, 550, 551, 552, 553, 554, 555, 556, 557, 558, 559, 560, 561, 562, 563, 564, 565, 566, 567, 568, 569, 570, 571, 572, 573, 574] (by decide +kernel) (by decide +kernel)
set_option maxRecDepth 20000 in
theorem gL_law_X5_dueOf : GoodIn wsL_law (wsV RL 164 RX5 yX5_dueOf wsX5_dueOf) := goodIn_app (goodIn_of _ (by decide +kernel)) ggL_law_X5_dueOf
set_option maxRecDepth 20000 in
theorem ggL_law_X4_claims : GoodIn wsL_law wsX4_claims := goodIn_r _ [502, 24, 265, 530, 531, 532, 533, 534, 535, 536, 537, 538, 539, 540, 541, 542, 543, 582, 583, 584, 585, 586] (by decide +kernel) (by decide +kernel)
set_option maxRecDepth 20000 in
theorem gL_law_X4_claims : GoodIn wsL_law (wsV RL 165 RX4 yX4_claims wsX4_claims) := goodIn_app (goodIn_of _ (by decide +kernel)) ggL_law_X4_claims
set_option maxRecDepth 20000 in
theorem ggL_law_X5_claims : GoodIn wsL_law wsX5_claims := goodIn_r _ [506, 125, 257, 544, 545, 546, 547, 548, 549, 550, 551, 552, 553, 554, 555, 556, 557, 558, 559, 560, 561, 562, 563, 564, 565, 566, 567, 568, 569, 570, 571, 572, 573, 574] (by decide +kernel) (by decide +kernel)
set_option maxRecDepth 20000 in
theorem gL_law_X5_claims : GoodIn wsL_law (wsV RL 168 RX5 yX5_claims wsX5_claims) := goodIn_app (goodIn_of _ (by decide +kernel)) ggL_law_X5_claims
set_option maxRecDepth 20000 in
theorem ggL_law_L_settledAt : GoodIn wsL_law wsL_settledAt := goodIn_ca (goodIn_r _ [509, 133, 510, 511, 512, 2, 513, 24, 265, 269, 140, 141, 142, 143, 144, 530, 531, 532, 533, 534, 535, 536, 537, 538, 539, 540, 541, 542, 543, 582, 583, 584, 585, 586] (by decide +kernel) (by decide +kernel)) (goodIn_sub (fun _ h => List.mem_append_right _ h) (by decide +kernel))
set_option maxRecDepth 20000 in
theorem gL_law_L_settledAt : GoodIn wsL_law (va_wsS RL 169 yL_settledAt wsL_settledAt) := goodIn_app (goodIn_of _ (by decide +kernel)) ggL_law_L_settledAt
set_option maxRecDepth 20000 in
theorem ggL_law_X5_settledAt : GoodIn wsL_law wsX5_settledAt := goodIn_r _ [517, 79, 288, 289, 290, 5, 291, 257, 118, 119, 120, 121, 122, 123, 124, 125, 544, 545, 546, 547, 548, 549, 550, 551, 552, 553, 554, 555, 556, 557, 558, 559, 560, 561, 562, 563, 564, 565, 566, 567, 568, 569, 570, 571, 572, 573, 574] (by decide +kernel) (by decide +kernel)
set_option maxRecDepth 20000 in
theorem gL_law_X5_settledAt : GoodIn wsL_law (wsV RL 171 RX5 yX5_settledAt wsX5_settledAt) := goodIn_app (goodIn_of _ (by decide +kernel)) ggL_law_X5_settledAt
set_option maxRecDepth 20000 in
theorem ggL_law_L_isMet : GoodIn wsL_law wsL_isMet := goodIn_ca (goodIn_r _ [520, 133, 521, 522, 523, 2, 524, 28, 525, 140, 141, 142, 143, 144, 530, 531, 532, 533, 534, 535, 536, 537, 538, 539, 540, 541, 542, 543, 587, 588, 589, 590, 591, 592, 593, 594] (by decide +kernel) (by decide +kernel)) (goodIn_sub (fun _ h => List.mem_append_right _ h) (by decide +kernel))
set_option maxRecDepth 20000 in
theorem gL_law_L_isMet : GoodIn wsL_law (va_wsS RL 172 yL_isMet wsL_isMet) := goodIn_app (goodIn_of _ (by decide +kernel)) ggL_law_L_isMet
set_option maxRecDepth 20000 in
theorem ggL_law_X5_isMet : GoodIn wsL_law wsX5_isMet := goodIn_r _ [529, 81, 118, 119, 5, 120, 121, 122, 123, 124, 125, 544, 545, 546, 547, 548, 549, 550, 551, 552, 553, 554, 555, 556, 557, 558, 559, 560, 561, 562, 563, 564, 565, 566, 567, 568, 569, 570, 571, 572, 573, 574] (by decide +kernel) (by decide +kernel)
set_option maxRecDepth 20000 in
theorem gL_law_X5_isMet : GoodIn wsL_law (wsV RL 174 RX5 yX5_isMet wsX5_isMet) := goodIn_app (goodIn_of _ (by decide +kernel)) ggL_law_X5_isMet
theorem dL_law_0 : decode cL_law 0 = .ok (.new 8, 3) := by decide +kernel
theorem dL_law_3 : decode cL_law 3 = .ok (.dup, 1) := by decide +kernel
theorem dL_law_4 : decode cL_law 4 = .ok (.invokespecial 71, 3) := by decide +kernel
theorem dL_law_7 : decode cL_law 7 = .ok (.astore_n 1, 1) := by decide +kernel
theorem dL_law_8 : decode cL_law 8 = .ok (.new 72, 3) := by decide +kernel
theorem dL_law_11 : decode cL_law 11 = .ok (.dup, 1) := by decide +kernel
theorem dL_law_12 : decode cL_law 12 = .ok (.invokespecial 74, 3) := by decide +kernel
theorem dL_law_15 : decode cL_law 15 = .ok (.astore_n 2, 1) := by decide +kernel
theorem dL_law_16 : decode cL_law 16 = .ok (.iconst 1, 1) := by decide +kernel
theorem dL_law_17 : decode cL_law 17 = .ok (.newarray .long, 2) := by decide +kernel
theorem dL_law_19 : decode cL_law 19 = .ok (.astore_n 3, 1) := by decide +kernel
theorem dL_law_20 : decode cL_law 20 = .ok (.iconst 0, 1) := by decide +kernel
theorem dL_law_21 : decode cL_law 21 = .ok (.istore 4, 2) := by decide +kernel
theorem dL_law_23 : decode cL_law 23 = .ok (.iload 4, 2) := by decide +kernel
theorem dL_law_25 : decode cL_law 25 = .ok (.aload_n 0, 1) := by decide +kernel
theorem dL_law_26 : decode cL_law 26 = .ok (.arraylength, 1) := by decide +kernel
theorem dL_law_27 : decode cL_law 27 = .ok (.bipush 7, 2) := by decide +kernel
theorem dL_law_29 : decode cL_law 29 = .ok (.isub, 1) := by decide +kernel
theorem dL_law_30 : decode cL_law 30 = .ok (.if_icmp .gt 1283, 3) := by decide +kernel
theorem dL_law_33 : decode cL_law 33 = .ok (.aload_n 0, 1) := by decide +kernel
theorem dL_law_34 : decode cL_law 34 = .ok (.iload 4, 2) := by decide +kernel
theorem dL_law_36 : decode cL_law 36 = .ok (.iaload, 1) := by decide +kernel
theorem dL_law_37 : decode cL_law 37 = .ok (.bipush 31, 2) := by decide +kernel
theorem dL_law_39 : decode cL_law 39 = .ok (.iand, 1) := by decide +kernel
theorem dL_law_40 : decode cL_law 40 = .ok (.tableswitch 1267 0 25 #[120, 180, 240, 354, 414, 466, 546, 602, 670, 738, 794, 862, 918, 962, 975, 988, 1001, 1014, 1027, 1040, 1053, 1066, 1079, 1135, 1148, 1204], 120) := by decide +kernel
theorem dL_law_160 : decode cL_law 160 = .ok (.aload_n 1, 1) := by decide +kernel
theorem dL_law_161 : decode cL_law 161 = .ok (.aload_n 0, 1) := by decide +kernel
theorem dL_law_162 : decode cL_law 162 = .ok (.iload 4, 2) := by decide +kernel
theorem dL_law_164 : decode cL_law 164 = .ok (.iconst 1, 1) := by decide +kernel
theorem dL_law_165 : decode cL_law 165 = .ok (.iadd, 1) := by decide +kernel
theorem dL_law_166 : decode cL_law 166 = .ok (.iaload, 1) := by decide +kernel
theorem dL_law_167 : decode cL_law 167 = .ok (.aload_n 0, 1) := by decide +kernel
theorem dL_law_168 : decode cL_law 168 = .ok (.iload 4, 2) := by decide +kernel
theorem dL_law_170 : decode cL_law 170 = .ok (.iconst 2, 1) := by decide +kernel
theorem dL_law_171 : decode cL_law 171 = .ok (.iadd, 1) := by decide +kernel
theorem dL_law_172 : decode cL_law 172 = .ok (.iaload, 1) := by decide +kernel
theorem dL_law_173 : decode cL_law 173 = .ok (.aload_n 0, 1) := by decide +kernel
theorem dL_law_174 : decode cL_law 174 = .ok (.iload 4, 2) := by decide +kernel
theorem dL_law_176 : decode cL_law 176 = .ok (.iconst 3, 1) := by decide +kernel
theorem dL_law_177 : decode cL_law 177 = .ok (.iadd, 1) := by decide +kernel
theorem dL_law_178 : decode cL_law 178 = .ok (.iaload, 1) := by decide +kernel
theorem dL_law_179 : decode cL_law 179 = .ok (.invokestatic 75, 3) := by decide +kernel
theorem dL_law_182 : decode cL_law 182 = .ok (.istore 5, 2) := by decide +kernel
theorem dL_law_184 : decode cL_law 184 = .ok (.aload_n 2, 1) := by decide +kernel
theorem dL_law_185 : decode cL_law 185 = .ok (.aload_n 0, 1) := by decide +kernel
theorem dL_law_186 : decode cL_law 186 = .ok (.iload 4, 2) := by decide +kernel
theorem dL_law_188 : decode cL_law 188 = .ok (.iconst 1, 1) := by decide +kernel
theorem dL_law_189 : decode cL_law 189 = .ok (.iadd, 1) := by decide +kernel
theorem dL_law_190 : decode cL_law 190 = .ok (.iaload, 1) := by decide +kernel
theorem dL_law_191 : decode cL_law 191 = .ok (.aload_n 0, 1) := by decide +kernel
theorem dL_law_192 : decode cL_law 192 = .ok (.iload 4, 2) := by decide +kernel
theorem dL_law_194 : decode cL_law 194 = .ok (.iconst 2, 1) := by decide +kernel
theorem dL_law_195 : decode cL_law 195 = .ok (.iadd, 1) := by decide +kernel
theorem dL_law_196 : decode cL_law 196 = .ok (.iaload, 1) := by decide +kernel
theorem dL_law_197 : decode cL_law 197 = .ok (.aload_n 0, 1) := by decide +kernel
theorem dL_law_198 : decode cL_law 198 = .ok (.iload 4, 2) := by decide +kernel
theorem dL_law_200 : decode cL_law 200 = .ok (.iconst 3, 1) := by decide +kernel
theorem dL_law_201 : decode cL_law 201 = .ok (.iadd, 1) := by decide +kernel
theorem dL_law_202 : decode cL_law 202 = .ok (.iaload, 1) := by decide +kernel
theorem dL_law_203 : decode cL_law 203 = .ok (.invokevirtual 80, 3) := by decide +kernel
theorem dL_law_206 : decode cL_law 206 = .ok (.aload_n 2, 1) := by decide +kernel
theorem dL_law_207 : decode cL_law 207 = .ok (.invokevirtual 81, 3) := by decide +kernel
theorem dL_law_210 : decode cL_law 210 = .ok (.iload 5, 2) := by decide +kernel
theorem dL_law_212 : decode cL_law 212 = .ok (.if_icmp .eq 5, 3) := by decide +kernel
theorem dL_law_215 : decode cL_law 215 = .ok (.iconst 0, 1) := by decide +kernel
theorem dL_law_216 : decode cL_law 216 = .ok (.ireturn, 1) := by decide +kernel
theorem dL_law_217 : decode cL_law 217 = .ok (.goto 1090, 3) := by decide +kernel
theorem dL_law_220 : decode cL_law 220 = .ok (.aload_n 1, 1) := by decide +kernel
theorem dL_law_221 : decode cL_law 221 = .ok (.aload_n 0, 1) := by decide +kernel
theorem dL_law_222 : decode cL_law 222 = .ok (.iload 4, 2) := by decide +kernel
theorem dL_law_224 : decode cL_law 224 = .ok (.iconst 1, 1) := by decide +kernel
theorem dL_law_225 : decode cL_law 225 = .ok (.iadd, 1) := by decide +kernel
theorem dL_law_226 : decode cL_law 226 = .ok (.iaload, 1) := by decide +kernel
theorem dL_law_227 : decode cL_law 227 = .ok (.aload_n 0, 1) := by decide +kernel
theorem dL_law_228 : decode cL_law 228 = .ok (.iload 4, 2) := by decide +kernel
theorem dL_law_230 : decode cL_law 230 = .ok (.iconst 2, 1) := by decide +kernel
theorem dL_law_231 : decode cL_law 231 = .ok (.iadd, 1) := by decide +kernel
theorem dL_law_232 : decode cL_law 232 = .ok (.iaload, 1) := by decide +kernel
theorem dL_law_233 : decode cL_law 233 = .ok (.aload_n 0, 1) := by decide +kernel
theorem dL_law_234 : decode cL_law 234 = .ok (.iload 4, 2) := by decide +kernel
theorem dL_law_236 : decode cL_law 236 = .ok (.iconst 3, 1) := by decide +kernel
theorem dL_law_237 : decode cL_law 237 = .ok (.iadd, 1) := by decide +kernel
theorem dL_law_238 : decode cL_law 238 = .ok (.iaload, 1) := by decide +kernel
theorem dL_law_239 : decode cL_law 239 = .ok (.invokestatic 84, 3) := by decide +kernel
theorem dL_law_242 : decode cL_law 242 = .ok (.istore 5, 2) := by decide +kernel
theorem dL_law_244 : decode cL_law 244 = .ok (.aload_n 2, 1) := by decide +kernel
theorem dL_law_245 : decode cL_law 245 = .ok (.aload_n 0, 1) := by decide +kernel
theorem dL_law_246 : decode cL_law 246 = .ok (.iload 4, 2) := by decide +kernel
theorem dL_law_248 : decode cL_law 248 = .ok (.iconst 1, 1) := by decide +kernel
theorem dL_law_249 : decode cL_law 249 = .ok (.iadd, 1) := by decide +kernel
theorem dL_law_250 : decode cL_law 250 = .ok (.iaload, 1) := by decide +kernel
theorem dL_law_251 : decode cL_law 251 = .ok (.aload_n 0, 1) := by decide +kernel
theorem dL_law_252 : decode cL_law 252 = .ok (.iload 4, 2) := by decide +kernel
theorem dL_law_254 : decode cL_law 254 = .ok (.iconst 2, 1) := by decide +kernel
theorem dL_law_255 : decode cL_law 255 = .ok (.iadd, 1) := by decide +kernel
theorem dL_law_256 : decode cL_law 256 = .ok (.iaload, 1) := by decide +kernel
theorem dL_law_257 : decode cL_law 257 = .ok (.aload_n 0, 1) := by decide +kernel
theorem dL_law_258 : decode cL_law 258 = .ok (.iload 4, 2) := by decide +kernel
theorem dL_law_260 : decode cL_law 260 = .ok (.iconst 3, 1) := by decide +kernel
theorem dL_law_261 : decode cL_law 261 = .ok (.iadd, 1) := by decide +kernel
theorem dL_law_262 : decode cL_law 262 = .ok (.iaload, 1) := by decide +kernel
theorem dL_law_263 : decode cL_law 263 = .ok (.invokevirtual 86, 3) := by decide +kernel
theorem dL_law_266 : decode cL_law 266 = .ok (.aload_n 2, 1) := by decide +kernel
theorem dL_law_267 : decode cL_law 267 = .ok (.invokevirtual 81, 3) := by decide +kernel
theorem dL_law_270 : decode cL_law 270 = .ok (.iload 5, 2) := by decide +kernel
theorem dL_law_272 : decode cL_law 272 = .ok (.if_icmp .eq 5, 3) := by decide +kernel
theorem dL_law_275 : decode cL_law 275 = .ok (.iconst 0, 1) := by decide +kernel
theorem dL_law_276 : decode cL_law 276 = .ok (.ireturn, 1) := by decide +kernel
theorem dL_law_277 : decode cL_law 277 = .ok (.goto 1030, 3) := by decide +kernel
theorem dL_law_280 : decode cL_law 280 = .ok (.aload_n 1, 1) := by decide +kernel
theorem dL_law_281 : decode cL_law 281 = .ok (.aload_n 0, 1) := by decide +kernel
theorem dL_law_282 : decode cL_law 282 = .ok (.iload 4, 2) := by decide +kernel
theorem dL_law_284 : decode cL_law 284 = .ok (.iconst 1, 1) := by decide +kernel
theorem dL_law_285 : decode cL_law 285 = .ok (.iadd, 1) := by decide +kernel
theorem dL_law_286 : decode cL_law 286 = .ok (.iaload, 1) := by decide +kernel
theorem dL_law_287 : decode cL_law 287 = .ok (.aload_n 0, 1) := by decide +kernel
theorem dL_law_288 : decode cL_law 288 = .ok (.iload 4, 2) := by decide +kernel
theorem dL_law_290 : decode cL_law 290 = .ok (.iconst 2, 1) := by decide +kernel
theorem dL_law_291 : decode cL_law 291 = .ok (.iadd, 1) := by decide +kernel
theorem dL_law_292 : decode cL_law 292 = .ok (.iaload, 1) := by decide +kernel
theorem dL_law_293 : decode cL_law 293 = .ok (.aload_n 0, 1) := by decide +kernel
theorem dL_law_294 : decode cL_law 294 = .ok (.iload 4, 2) := by decide +kernel
theorem dL_law_296 : decode cL_law 296 = .ok (.iconst 3, 1) := by decide +kernel
theorem dL_law_297 : decode cL_law 297 = .ok (.iadd, 1) := by decide +kernel
theorem dL_law_298 : decode cL_law 298 = .ok (.iaload, 1) := by decide +kernel
theorem dL_law_299 : decode cL_law 299 = .ok (.aload_n 0, 1) := by decide +kernel
theorem dL_law_300 : decode cL_law 300 = .ok (.iload 4, 2) := by decide +kernel
theorem dL_law_302 : decode cL_law 302 = .ok (.iconst 4, 1) := by decide +kernel
theorem dL_law_303 : decode cL_law 303 = .ok (.iadd, 1) := by decide +kernel
theorem dL_law_304 : decode cL_law 304 = .ok (.iaload, 1) := by decide +kernel
theorem dL_law_305 : decode cL_law 305 = .ok (.ifCond .eq 7, 3) := by decide +kernel
theorem dL_law_308 : decode cL_law 308 = .ok (.iconst 1, 1) := by decide +kernel
theorem dL_law_309 : decode cL_law 309 = .ok (.goto 4, 3) := by decide +kernel
theorem dL_law_312 : decode cL_law 312 = .ok (.iconst 0, 1) := by decide +kernel
theorem dL_law_313 : decode cL_law 313 = .ok (.aload_n 0, 1) := by decide +kernel
theorem dL_law_314 : decode cL_law 314 = .ok (.iload 4, 2) := by decide +kernel
theorem dL_law_316 : decode cL_law 316 = .ok (.iconst 5, 1) := by decide +kernel
theorem dL_law_317 : decode cL_law 317 = .ok (.iadd, 1) := by decide +kernel
theorem dL_law_318 : decode cL_law 318 = .ok (.iaload, 1) := by decide +kernel
theorem dL_law_319 : decode cL_law 319 = .ok (.aload_n 0, 1) := by decide +kernel
theorem dL_law_320 : decode cL_law 320 = .ok (.iload 4, 2) := by decide +kernel
theorem dL_law_322 : decode cL_law 322 = .ok (.bipush 6, 2) := by decide +kernel
theorem dL_law_324 : decode cL_law 324 = .ok (.iadd, 1) := by decide +kernel
theorem dL_law_325 : decode cL_law 325 = .ok (.iaload, 1) := by decide +kernel
theorem dL_law_326 : decode cL_law 326 = .ok (.invokestatic 87, 3) := by decide +kernel
theorem dL_law_329 : decode cL_law 329 = .ok (.istore 5, 2) := by decide +kernel
theorem dL_law_331 : decode cL_law 331 = .ok (.aload_n 2, 1) := by decide +kernel
theorem dL_law_332 : decode cL_law 332 = .ok (.aload_n 0, 1) := by decide +kernel
theorem dL_law_333 : decode cL_law 333 = .ok (.iload 4, 2) := by decide +kernel
theorem dL_law_335 : decode cL_law 335 = .ok (.iconst 1, 1) := by decide +kernel
theorem dL_law_336 : decode cL_law 336 = .ok (.iadd, 1) := by decide +kernel
theorem dL_law_337 : decode cL_law 337 = .ok (.iaload, 1) := by decide +kernel
theorem dL_law_338 : decode cL_law 338 = .ok (.aload_n 0, 1) := by decide +kernel
theorem dL_law_339 : decode cL_law 339 = .ok (.iload 4, 2) := by decide +kernel
theorem dL_law_341 : decode cL_law 341 = .ok (.iconst 2, 1) := by decide +kernel
theorem dL_law_342 : decode cL_law 342 = .ok (.iadd, 1) := by decide +kernel
theorem dL_law_343 : decode cL_law 343 = .ok (.iaload, 1) := by decide +kernel
theorem dL_law_344 : decode cL_law 344 = .ok (.aload_n 0, 1) := by decide +kernel
theorem dL_law_345 : decode cL_law 345 = .ok (.iload 4, 2) := by decide +kernel
theorem dL_law_347 : decode cL_law 347 = .ok (.iconst 3, 1) := by decide +kernel
theorem dL_law_348 : decode cL_law 348 = .ok (.iadd, 1) := by decide +kernel
theorem dL_law_349 : decode cL_law 349 = .ok (.iaload, 1) := by decide +kernel
theorem dL_law_350 : decode cL_law 350 = .ok (.aload_n 0, 1) := by decide +kernel
theorem dL_law_351 : decode cL_law 351 = .ok (.iload 4, 2) := by decide +kernel
theorem dL_law_353 : decode cL_law 353 = .ok (.iconst 4, 1) := by decide +kernel
theorem dL_law_354 : decode cL_law 354 = .ok (.iadd, 1) := by decide +kernel
theorem dL_law_355 : decode cL_law 355 = .ok (.iaload, 1) := by decide +kernel
theorem dL_law_356 : decode cL_law 356 = .ok (.ifCond .eq 7, 3) := by decide +kernel
theorem dL_law_359 : decode cL_law 359 = .ok (.iconst 1, 1) := by decide +kernel
theorem dL_law_360 : decode cL_law 360 = .ok (.goto 4, 3) := by decide +kernel
theorem dL_law_363 : decode cL_law 363 = .ok (.iconst 0, 1) := by decide +kernel
theorem dL_law_364 : decode cL_law 364 = .ok (.aload_n 0, 1) := by decide +kernel
theorem dL_law_365 : decode cL_law 365 = .ok (.iload 4, 2) := by decide +kernel
theorem dL_law_367 : decode cL_law 367 = .ok (.iconst 5, 1) := by decide +kernel
theorem dL_law_368 : decode cL_law 368 = .ok (.iadd, 1) := by decide +kernel
theorem dL_law_369 : decode cL_law 369 = .ok (.iaload, 1) := by decide +kernel
theorem dL_law_370 : decode cL_law 370 = .ok (.aload_n 0, 1) := by decide +kernel
theorem dL_law_371 : decode cL_law 371 = .ok (.iload 4, 2) := by decide +kernel
theorem dL_law_373 : decode cL_law 373 = .ok (.bipush 6, 2) := by decide +kernel
theorem dL_law_375 : decode cL_law 375 = .ok (.iadd, 1) := by decide +kernel
theorem dL_law_376 : decode cL_law 376 = .ok (.iaload, 1) := by decide +kernel
theorem dL_law_377 : decode cL_law 377 = .ok (.invokevirtual 90, 3) := by decide +kernel
theorem dL_law_380 : decode cL_law 380 = .ok (.aload_n 2, 1) := by decide +kernel
theorem dL_law_381 : decode cL_law 381 = .ok (.invokevirtual 81, 3) := by decide +kernel
theorem dL_law_384 : decode cL_law 384 = .ok (.iload 5, 2) := by decide +kernel
theorem dL_law_386 : decode cL_law 386 = .ok (.if_icmp .eq 5, 3) := by decide +kernel
theorem dL_law_389 : decode cL_law 389 = .ok (.iconst 0, 1) := by decide +kernel
theorem dL_law_390 : decode cL_law 390 = .ok (.ireturn, 1) := by decide +kernel
theorem dL_law_391 : decode cL_law 391 = .ok (.goto 916, 3) := by decide +kernel
theorem dL_law_394 : decode cL_law 394 = .ok (.aload_n 1, 1) := by decide +kernel
theorem dL_law_395 : decode cL_law 395 = .ok (.aload_n 0, 1) := by decide +kernel
theorem dL_law_396 : decode cL_law 396 = .ok (.iload 4, 2) := by decide +kernel
theorem dL_law_398 : decode cL_law 398 = .ok (.iconst 1, 1) := by decide +kernel
theorem dL_law_399 : decode cL_law 399 = .ok (.iadd, 1) := by decide +kernel
theorem dL_law_400 : decode cL_law 400 = .ok (.iaload, 1) := by decide +kernel
theorem dL_law_401 : decode cL_law 401 = .ok (.aload_n 0, 1) := by decide +kernel
theorem dL_law_402 : decode cL_law 402 = .ok (.iload 4, 2) := by decide +kernel
theorem dL_law_404 : decode cL_law 404 = .ok (.iconst 2, 1) := by decide +kernel
theorem dL_law_405 : decode cL_law 405 = .ok (.iadd, 1) := by decide +kernel
theorem dL_law_406 : decode cL_law 406 = .ok (.iaload, 1) := by decide +kernel
theorem dL_law_407 : decode cL_law 407 = .ok (.aload_n 0, 1) := by decide +kernel
theorem dL_law_408 : decode cL_law 408 = .ok (.iload 4, 2) := by decide +kernel
theorem dL_law_410 : decode cL_law 410 = .ok (.iconst 3, 1) := by decide +kernel
theorem dL_law_411 : decode cL_law 411 = .ok (.iadd, 1) := by decide +kernel
theorem dL_law_412 : decode cL_law 412 = .ok (.iaload, 1) := by decide +kernel
theorem dL_law_413 : decode cL_law 413 = .ok (.invokestatic 91, 3) := by decide +kernel
theorem dL_law_416 : decode cL_law 416 = .ok (.istore 5, 2) := by decide +kernel
theorem dL_law_418 : decode cL_law 418 = .ok (.aload_n 2, 1) := by decide +kernel
theorem dL_law_419 : decode cL_law 419 = .ok (.aload_n 0, 1) := by decide +kernel
theorem dL_law_420 : decode cL_law 420 = .ok (.iload 4, 2) := by decide +kernel
theorem dL_law_422 : decode cL_law 422 = .ok (.iconst 1, 1) := by decide +kernel
theorem dL_law_423 : decode cL_law 423 = .ok (.iadd, 1) := by decide +kernel
theorem dL_law_424 : decode cL_law 424 = .ok (.iaload, 1) := by decide +kernel
theorem dL_law_425 : decode cL_law 425 = .ok (.aload_n 0, 1) := by decide +kernel
theorem dL_law_426 : decode cL_law 426 = .ok (.iload 4, 2) := by decide +kernel
theorem dL_law_428 : decode cL_law 428 = .ok (.iconst 2, 1) := by decide +kernel
theorem dL_law_429 : decode cL_law 429 = .ok (.iadd, 1) := by decide +kernel
theorem dL_law_430 : decode cL_law 430 = .ok (.iaload, 1) := by decide +kernel
theorem dL_law_431 : decode cL_law 431 = .ok (.aload_n 0, 1) := by decide +kernel
theorem dL_law_432 : decode cL_law 432 = .ok (.iload 4, 2) := by decide +kernel
theorem dL_law_434 : decode cL_law 434 = .ok (.iconst 3, 1) := by decide +kernel
theorem dL_law_435 : decode cL_law 435 = .ok (.iadd, 1) := by decide +kernel
theorem dL_law_436 : decode cL_law 436 = .ok (.iaload, 1) := by decide +kernel
theorem dL_law_437 : decode cL_law 437 = .ok (.invokevirtual 93, 3) := by decide +kernel
theorem dL_law_440 : decode cL_law 440 = .ok (.aload_n 2, 1) := by decide +kernel
theorem dL_law_441 : decode cL_law 441 = .ok (.invokevirtual 81, 3) := by decide +kernel
theorem dL_law_444 : decode cL_law 444 = .ok (.iload 5, 2) := by decide +kernel
theorem dL_law_446 : decode cL_law 446 = .ok (.if_icmp .eq 5, 3) := by decide +kernel
theorem dL_law_449 : decode cL_law 449 = .ok (.iconst 0, 1) := by decide +kernel
theorem dL_law_450 : decode cL_law 450 = .ok (.ireturn, 1) := by decide +kernel
theorem dL_law_451 : decode cL_law 451 = .ok (.goto 856, 3) := by decide +kernel
theorem dL_law_454 : decode cL_law 454 = .ok (.aload_n 1, 1) := by decide +kernel
theorem dL_law_455 : decode cL_law 455 = .ok (.aload_n 0, 1) := by decide +kernel
theorem dL_law_456 : decode cL_law 456 = .ok (.iload 4, 2) := by decide +kernel
theorem dL_law_458 : decode cL_law 458 = .ok (.iconst 1, 1) := by decide +kernel
theorem dL_law_459 : decode cL_law 459 = .ok (.iadd, 1) := by decide +kernel
theorem dL_law_460 : decode cL_law 460 = .ok (.iaload, 1) := by decide +kernel
theorem dL_law_461 : decode cL_law 461 = .ok (.ifCond .eq 7, 3) := by decide +kernel
theorem dL_law_464 : decode cL_law 464 = .ok (.iconst 1, 1) := by decide +kernel
theorem dL_law_465 : decode cL_law 465 = .ok (.goto 4, 3) := by decide +kernel
theorem dL_law_468 : decode cL_law 468 = .ok (.iconst 0, 1) := by decide +kernel
theorem dL_law_469 : decode cL_law 469 = .ok (.invokestatic 94, 3) := by decide +kernel
theorem dL_law_472 : decode cL_law 472 = .ok (.istore 5, 2) := by decide +kernel
theorem dL_law_474 : decode cL_law 474 = .ok (.aload_n 2, 1) := by decide +kernel
theorem dL_law_475 : decode cL_law 475 = .ok (.aload_n 0, 1) := by decide +kernel
theorem dL_law_476 : decode cL_law 476 = .ok (.iload 4, 2) := by decide +kernel
theorem dL_law_478 : decode cL_law 478 = .ok (.iconst 1, 1) := by decide +kernel
theorem dL_law_479 : decode cL_law 479 = .ok (.iadd, 1) := by decide +kernel
theorem dL_law_480 : decode cL_law 480 = .ok (.iaload, 1) := by decide +kernel
theorem dL_law_481 : decode cL_law 481 = .ok (.ifCond .eq 7, 3) := by decide +kernel
theorem dL_law_484 : decode cL_law 484 = .ok (.iconst 1, 1) := by decide +kernel
theorem dL_law_485 : decode cL_law 485 = .ok (.goto 4, 3) := by decide +kernel
theorem dL_law_488 : decode cL_law 488 = .ok (.iconst 0, 1) := by decide +kernel
theorem dL_law_489 : decode cL_law 489 = .ok (.invokevirtual 97, 3) := by decide +kernel
theorem dL_law_492 : decode cL_law 492 = .ok (.aload_n 2, 1) := by decide +kernel
theorem dL_law_493 : decode cL_law 493 = .ok (.invokevirtual 81, 3) := by decide +kernel
theorem dL_law_496 : decode cL_law 496 = .ok (.iload 5, 2) := by decide +kernel
theorem dL_law_498 : decode cL_law 498 = .ok (.if_icmp .eq 5, 3) := by decide +kernel
theorem dL_law_501 : decode cL_law 501 = .ok (.iconst 0, 1) := by decide +kernel
theorem dL_law_502 : decode cL_law 502 = .ok (.ireturn, 1) := by decide +kernel
theorem dL_law_503 : decode cL_law 503 = .ok (.goto 804, 3) := by decide +kernel
theorem dL_law_506 : decode cL_law 506 = .ok (.aload_n 1, 1) := by decide +kernel
theorem dL_law_507 : decode cL_law 507 = .ok (.aload_n 0, 1) := by decide +kernel
theorem dL_law_508 : decode cL_law 508 = .ok (.iload 4, 2) := by decide +kernel
theorem dL_law_510 : decode cL_law 510 = .ok (.iconst 1, 1) := by decide +kernel
theorem dL_law_511 : decode cL_law 511 = .ok (.iadd, 1) := by decide +kernel
theorem dL_law_512 : decode cL_law 512 = .ok (.iaload, 1) := by decide +kernel
theorem dL_law_513 : decode cL_law 513 = .ok (.aload_n 0, 1) := by decide +kernel
theorem dL_law_514 : decode cL_law 514 = .ok (.iload 4, 2) := by decide +kernel
theorem dL_law_516 : decode cL_law 516 = .ok (.iconst 2, 1) := by decide +kernel
theorem dL_law_517 : decode cL_law 517 = .ok (.iadd, 1) := by decide +kernel
theorem dL_law_518 : decode cL_law 518 = .ok (.iaload, 1) := by decide +kernel
theorem dL_law_519 : decode cL_law 519 = .ok (.aload_n 0, 1) := by decide +kernel
theorem dL_law_520 : decode cL_law 520 = .ok (.iload 4, 2) := by decide +kernel
theorem dL_law_522 : decode cL_law 522 = .ok (.iconst 3, 1) := by decide +kernel
theorem dL_law_523 : decode cL_law 523 = .ok (.iadd, 1) := by decide +kernel
theorem dL_law_524 : decode cL_law 524 = .ok (.iaload, 1) := by decide +kernel
theorem dL_law_525 : decode cL_law 525 = .ok (.aload_n 3, 1) := by decide +kernel
theorem dL_law_526 : decode cL_law 526 = .ok (.invokestatic 98, 3) := by decide +kernel
theorem dL_law_529 : decode cL_law 529 = .ok (.istore 5, 2) := by decide +kernel
theorem dL_law_531 : decode cL_law 531 = .ok (.aload_n 2, 1) := by decide +kernel
theorem dL_law_532 : decode cL_law 532 = .ok (.aload_n 0, 1) := by decide +kernel
theorem dL_law_533 : decode cL_law 533 = .ok (.iload 4, 2) := by decide +kernel
theorem dL_law_535 : decode cL_law 535 = .ok (.iconst 1, 1) := by decide +kernel
theorem dL_law_536 : decode cL_law 536 = .ok (.iadd, 1) := by decide +kernel
theorem dL_law_537 : decode cL_law 537 = .ok (.iaload, 1) := by decide +kernel
theorem dL_law_538 : decode cL_law 538 = .ok (.aload_n 0, 1) := by decide +kernel
theorem dL_law_539 : decode cL_law 539 = .ok (.iload 4, 2) := by decide +kernel
theorem dL_law_541 : decode cL_law 541 = .ok (.iconst 2, 1) := by decide +kernel
theorem dL_law_542 : decode cL_law 542 = .ok (.iadd, 1) := by decide +kernel
theorem dL_law_543 : decode cL_law 543 = .ok (.iaload, 1) := by decide +kernel
theorem dL_law_544 : decode cL_law 544 = .ok (.aload_n 0, 1) := by decide +kernel
theorem dL_law_545 : decode cL_law 545 = .ok (.iload 4, 2) := by decide +kernel
theorem dL_law_547 : decode cL_law 547 = .ok (.iconst 3, 1) := by decide +kernel
theorem dL_law_548 : decode cL_law 548 = .ok (.iadd, 1) := by decide +kernel
theorem dL_law_549 : decode cL_law 549 = .ok (.iaload, 1) := by decide +kernel
theorem dL_law_550 : decode cL_law 550 = .ok (.invokevirtual 101, 3) := by decide +kernel
theorem dL_law_553 : decode cL_law 553 = .ok (.istore 6, 2) := by decide +kernel
theorem dL_law_555 : decode cL_law 555 = .ok (.aload_n 2, 1) := by decide +kernel
theorem dL_law_556 : decode cL_law 556 = .ok (.invokevirtual 81, 3) := by decide +kernel
theorem dL_law_559 : decode cL_law 559 = .ok (.iload 5, 2) := by decide +kernel
theorem dL_law_561 : decode cL_law 561 = .ok (.if_icmp .eq 5, 3) := by decide +kernel
theorem dL_law_564 : decode cL_law 564 = .ok (.iconst 0, 1) := by decide +kernel
theorem dL_law_565 : decode cL_law 565 = .ok (.ireturn, 1) := by decide +kernel
theorem dL_law_566 : decode cL_law 566 = .ok (.iload 5, 2) := by decide +kernel
theorem dL_law_568 : decode cL_law 568 = .ok (.ifCond .ne 15, 3) := by decide +kernel
theorem dL_law_571 : decode cL_law 571 = .ok (.aload_n 3, 1) := by decide +kernel
theorem dL_law_572 : decode cL_law 572 = .ok (.iconst 0, 1) := by decide +kernel
theorem dL_law_573 : decode cL_law 573 = .ok (.laload, 1) := by decide +kernel
theorem dL_law_574 : decode cL_law 574 = .ok (.iload 6, 2) := by decide +kernel
theorem dL_law_576 : decode cL_law 576 = .ok (.i2l, 1) := by decide +kernel
theorem dL_law_577 : decode cL_law 577 = .ok (.lcmp, 1) := by decide +kernel
theorem dL_law_578 : decode cL_law 578 = .ok (.ifCond .eq 5, 3) := by decide +kernel
theorem dL_law_581 : decode cL_law 581 = .ok (.iconst 0, 1) := by decide +kernel
theorem dL_law_582 : decode cL_law 582 = .ok (.ireturn, 1) := by decide +kernel
theorem dL_law_583 : decode cL_law 583 = .ok (.goto 724, 3) := by decide +kernel
theorem dL_law_586 : decode cL_law 586 = .ok (.aload_n 1, 1) := by decide +kernel
theorem dL_law_587 : decode cL_law 587 = .ok (.aload_n 0, 1) := by decide +kernel
theorem dL_law_588 : decode cL_law 588 = .ok (.iload 4, 2) := by decide +kernel
theorem dL_law_590 : decode cL_law 590 = .ok (.iconst 1, 1) := by decide +kernel
theorem dL_law_591 : decode cL_law 591 = .ok (.iadd, 1) := by decide +kernel
theorem dL_law_592 : decode cL_law 592 = .ok (.iaload, 1) := by decide +kernel
theorem dL_law_593 : decode cL_law 593 = .ok (.aload_n 3, 1) := by decide +kernel
theorem dL_law_594 : decode cL_law 594 = .ok (.invokestatic 102, 3) := by decide +kernel
theorem dL_law_597 : decode cL_law 597 = .ok (.istore 5, 2) := by decide +kernel
theorem dL_law_599 : decode cL_law 599 = .ok (.aload_n 2, 1) := by decide +kernel
theorem dL_law_600 : decode cL_law 600 = .ok (.aload_n 0, 1) := by decide +kernel
theorem dL_law_601 : decode cL_law 601 = .ok (.iload 4, 2) := by decide +kernel
theorem dL_law_603 : decode cL_law 603 = .ok (.iconst 1, 1) := by decide +kernel
theorem dL_law_604 : decode cL_law 604 = .ok (.iadd, 1) := by decide +kernel
theorem dL_law_605 : decode cL_law 605 = .ok (.iaload, 1) := by decide +kernel
theorem dL_law_606 : decode cL_law 606 = .ok (.invokevirtual 105, 3) := by decide +kernel
theorem dL_law_609 : decode cL_law 609 = .ok (.istore 6, 2) := by decide +kernel
theorem dL_law_611 : decode cL_law 611 = .ok (.aload_n 2, 1) := by decide +kernel
theorem dL_law_612 : decode cL_law 612 = .ok (.invokevirtual 81, 3) := by decide +kernel
theorem dL_law_615 : decode cL_law 615 = .ok (.iload 5, 2) := by decide +kernel
theorem dL_law_617 : decode cL_law 617 = .ok (.if_icmp .eq 5, 3) := by decide +kernel
theorem dL_law_620 : decode cL_law 620 = .ok (.iconst 0, 1) := by decide +kernel
theorem dL_law_621 : decode cL_law 621 = .ok (.ireturn, 1) := by decide +kernel
theorem dL_law_622 : decode cL_law 622 = .ok (.iload 5, 2) := by decide +kernel
theorem dL_law_624 : decode cL_law 624 = .ok (.ifCond .ne 15, 3) := by decide +kernel
theorem dL_law_627 : decode cL_law 627 = .ok (.aload_n 3, 1) := by decide +kernel
theorem dL_law_628 : decode cL_law 628 = .ok (.iconst 0, 1) := by decide +kernel
theorem dL_law_629 : decode cL_law 629 = .ok (.laload, 1) := by decide +kernel
theorem dL_law_630 : decode cL_law 630 = .ok (.iload 6, 2) := by decide +kernel
theorem dL_law_632 : decode cL_law 632 = .ok (.i2l, 1) := by decide +kernel
theorem dL_law_633 : decode cL_law 633 = .ok (.lcmp, 1) := by decide +kernel
theorem dL_law_634 : decode cL_law 634 = .ok (.ifCond .eq 5, 3) := by decide +kernel
theorem dL_law_637 : decode cL_law 637 = .ok (.iconst 0, 1) := by decide +kernel
theorem dL_law_638 : decode cL_law 638 = .ok (.ireturn, 1) := by decide +kernel
theorem dL_law_639 : decode cL_law 639 = .ok (.goto 668, 3) := by decide +kernel
theorem dL_law_642 : decode cL_law 642 = .ok (.aload_n 1, 1) := by decide +kernel
theorem dL_law_643 : decode cL_law 643 = .ok (.aload_n 0, 1) := by decide +kernel
theorem dL_law_644 : decode cL_law 644 = .ok (.iload 4, 2) := by decide +kernel
theorem dL_law_646 : decode cL_law 646 = .ok (.iconst 1, 1) := by decide +kernel
theorem dL_law_647 : decode cL_law 647 = .ok (.iadd, 1) := by decide +kernel
theorem dL_law_648 : decode cL_law 648 = .ok (.iaload, 1) := by decide +kernel
theorem dL_law_649 : decode cL_law 649 = .ok (.aload_n 0, 1) := by decide +kernel
theorem dL_law_650 : decode cL_law 650 = .ok (.iload 4, 2) := by decide +kernel
theorem dL_law_652 : decode cL_law 652 = .ok (.iconst 2, 1) := by decide +kernel
theorem dL_law_653 : decode cL_law 653 = .ok (.iadd, 1) := by decide +kernel
theorem dL_law_654 : decode cL_law 654 = .ok (.iaload, 1) := by decide +kernel
theorem dL_law_655 : decode cL_law 655 = .ok (.aload_n 3, 1) := by decide +kernel
theorem dL_law_656 : decode cL_law 656 = .ok (.invokestatic 106, 3) := by decide +kernel
theorem dL_law_659 : decode cL_law 659 = .ok (.istore 5, 2) := by decide +kernel
theorem dL_law_661 : decode cL_law 661 = .ok (.aload_n 2, 1) := by decide +kernel
theorem dL_law_662 : decode cL_law 662 = .ok (.aload_n 0, 1) := by decide +kernel
theorem dL_law_663 : decode cL_law 663 = .ok (.iload 4, 2) := by decide +kernel
theorem dL_law_665 : decode cL_law 665 = .ok (.iconst 1, 1) := by decide +kernel
theorem dL_law_666 : decode cL_law 666 = .ok (.iadd, 1) := by decide +kernel
theorem dL_law_667 : decode cL_law 667 = .ok (.iaload, 1) := by decide +kernel
theorem dL_law_668 : decode cL_law 668 = .ok (.aload_n 0, 1) := by decide +kernel
theorem dL_law_669 : decode cL_law 669 = .ok (.iload 4, 2) := by decide +kernel
theorem dL_law_671 : decode cL_law 671 = .ok (.iconst 2, 1) := by decide +kernel
theorem dL_law_672 : decode cL_law 672 = .ok (.iadd, 1) := by decide +kernel
theorem dL_law_673 : decode cL_law 673 = .ok (.iaload, 1) := by decide +kernel
theorem dL_law_674 : decode cL_law 674 = .ok (.invokevirtual 109, 3) := by decide +kernel
theorem dL_law_677 : decode cL_law 677 = .ok (.istore 6, 2) := by decide +kernel
theorem dL_law_679 : decode cL_law 679 = .ok (.aload_n 2, 1) := by decide +kernel
theorem dL_law_680 : decode cL_law 680 = .ok (.invokevirtual 81, 3) := by decide +kernel
theorem dL_law_683 : decode cL_law 683 = .ok (.iload 5, 2) := by decide +kernel
theorem dL_law_685 : decode cL_law 685 = .ok (.if_icmp .eq 5, 3) := by decide +kernel
theorem dL_law_688 : decode cL_law 688 = .ok (.iconst 0, 1) := by decide +kernel
theorem dL_law_689 : decode cL_law 689 = .ok (.ireturn, 1) := by decide +kernel
theorem dL_law_690 : decode cL_law 690 = .ok (.iload 5, 2) := by decide +kernel
theorem dL_law_692 : decode cL_law 692 = .ok (.ifCond .ne 15, 3) := by decide +kernel
theorem dL_law_695 : decode cL_law 695 = .ok (.aload_n 3, 1) := by decide +kernel
theorem dL_law_696 : decode cL_law 696 = .ok (.iconst 0, 1) := by decide +kernel
theorem dL_law_697 : decode cL_law 697 = .ok (.laload, 1) := by decide +kernel
theorem dL_law_698 : decode cL_law 698 = .ok (.iload 6, 2) := by decide +kernel
theorem dL_law_700 : decode cL_law 700 = .ok (.i2l, 1) := by decide +kernel
theorem dL_law_701 : decode cL_law 701 = .ok (.lcmp, 1) := by decide +kernel
theorem dL_law_702 : decode cL_law 702 = .ok (.ifCond .eq 5, 3) := by decide +kernel
theorem dL_law_705 : decode cL_law 705 = .ok (.iconst 0, 1) := by decide +kernel
theorem dL_law_706 : decode cL_law 706 = .ok (.ireturn, 1) := by decide +kernel
theorem dL_law_707 : decode cL_law 707 = .ok (.goto 600, 3) := by decide +kernel
theorem dL_law_710 : decode cL_law 710 = .ok (.aload_n 1, 1) := by decide +kernel
theorem dL_law_711 : decode cL_law 711 = .ok (.aload_n 0, 1) := by decide +kernel
theorem dL_law_712 : decode cL_law 712 = .ok (.iload 4, 2) := by decide +kernel
theorem dL_law_714 : decode cL_law 714 = .ok (.iconst 1, 1) := by decide +kernel
theorem dL_law_715 : decode cL_law 715 = .ok (.iadd, 1) := by decide +kernel
theorem dL_law_716 : decode cL_law 716 = .ok (.iaload, 1) := by decide +kernel
theorem dL_law_717 : decode cL_law 717 = .ok (.aload_n 0, 1) := by decide +kernel
theorem dL_law_718 : decode cL_law 718 = .ok (.iload 4, 2) := by decide +kernel
theorem dL_law_720 : decode cL_law 720 = .ok (.iconst 2, 1) := by decide +kernel
theorem dL_law_721 : decode cL_law 721 = .ok (.iadd, 1) := by decide +kernel
theorem dL_law_722 : decode cL_law 722 = .ok (.iaload, 1) := by decide +kernel
theorem dL_law_723 : decode cL_law 723 = .ok (.aload_n 3, 1) := by decide +kernel
theorem dL_law_724 : decode cL_law 724 = .ok (.invokestatic 110, 3) := by decide +kernel
theorem dL_law_727 : decode cL_law 727 = .ok (.istore 5, 2) := by decide +kernel
theorem dL_law_729 : decode cL_law 729 = .ok (.aload_n 2, 1) := by decide +kernel
theorem dL_law_730 : decode cL_law 730 = .ok (.aload_n 0, 1) := by decide +kernel
theorem dL_law_731 : decode cL_law 731 = .ok (.iload 4, 2) := by decide +kernel
theorem dL_law_733 : decode cL_law 733 = .ok (.iconst 1, 1) := by decide +kernel
theorem dL_law_734 : decode cL_law 734 = .ok (.iadd, 1) := by decide +kernel
theorem dL_law_735 : decode cL_law 735 = .ok (.iaload, 1) := by decide +kernel
theorem dL_law_736 : decode cL_law 736 = .ok (.aload_n 0, 1) := by decide +kernel
theorem dL_law_737 : decode cL_law 737 = .ok (.iload 4, 2) := by decide +kernel
theorem dL_law_739 : decode cL_law 739 = .ok (.iconst 2, 1) := by decide +kernel
theorem dL_law_740 : decode cL_law 740 = .ok (.iadd, 1) := by decide +kernel
theorem dL_law_741 : decode cL_law 741 = .ok (.iaload, 1) := by decide +kernel
theorem dL_law_742 : decode cL_law 742 = .ok (.invokevirtual 112, 3) := by decide +kernel
theorem dL_law_745 : decode cL_law 745 = .ok (.istore 6, 2) := by decide +kernel
theorem dL_law_747 : decode cL_law 747 = .ok (.aload_n 2, 1) := by decide +kernel
theorem dL_law_748 : decode cL_law 748 = .ok (.invokevirtual 81, 3) := by decide +kernel
theorem dL_law_751 : decode cL_law 751 = .ok (.iload 5, 2) := by decide +kernel
theorem dL_law_753 : decode cL_law 753 = .ok (.if_icmp .eq 5, 3) := by decide +kernel
theorem dL_law_756 : decode cL_law 756 = .ok (.iconst 0, 1) := by decide +kernel
theorem dL_law_757 : decode cL_law 757 = .ok (.ireturn, 1) := by decide +kernel
theorem dL_law_758 : decode cL_law 758 = .ok (.iload 5, 2) := by decide +kernel
theorem dL_law_760 : decode cL_law 760 = .ok (.ifCond .ne 15, 3) := by decide +kernel
theorem dL_law_763 : decode cL_law 763 = .ok (.aload_n 3, 1) := by decide +kernel
theorem dL_law_764 : decode cL_law 764 = .ok (.iconst 0, 1) := by decide +kernel
theorem dL_law_765 : decode cL_law 765 = .ok (.laload, 1) := by decide +kernel
theorem dL_law_766 : decode cL_law 766 = .ok (.iload 6, 2) := by decide +kernel
theorem dL_law_768 : decode cL_law 768 = .ok (.i2l, 1) := by decide +kernel
theorem dL_law_769 : decode cL_law 769 = .ok (.lcmp, 1) := by decide +kernel
theorem dL_law_770 : decode cL_law 770 = .ok (.ifCond .eq 5, 3) := by decide +kernel
theorem dL_law_773 : decode cL_law 773 = .ok (.iconst 0, 1) := by decide +kernel
theorem dL_law_774 : decode cL_law 774 = .ok (.ireturn, 1) := by decide +kernel
theorem dL_law_775 : decode cL_law 775 = .ok (.goto 532, 3) := by decide +kernel
theorem dL_law_778 : decode cL_law 778 = .ok (.aload_n 1, 1) := by decide +kernel
theorem dL_law_779 : decode cL_law 779 = .ok (.aload_n 0, 1) := by decide +kernel
theorem dL_law_780 : decode cL_law 780 = .ok (.iload 4, 2) := by decide +kernel
theorem dL_law_782 : decode cL_law 782 = .ok (.iconst 1, 1) := by decide +kernel
theorem dL_law_783 : decode cL_law 783 = .ok (.iadd, 1) := by decide +kernel
theorem dL_law_784 : decode cL_law 784 = .ok (.iaload, 1) := by decide +kernel
theorem dL_law_785 : decode cL_law 785 = .ok (.aload_n 3, 1) := by decide +kernel
theorem dL_law_786 : decode cL_law 786 = .ok (.invokestatic 113, 3) := by decide +kernel
theorem dL_law_789 : decode cL_law 789 = .ok (.istore 5, 2) := by decide +kernel
theorem dL_law_791 : decode cL_law 791 = .ok (.aload_n 2, 1) := by decide +kernel
theorem dL_law_792 : decode cL_law 792 = .ok (.aload_n 0, 1) := by decide +kernel
theorem dL_law_793 : decode cL_law 793 = .ok (.iload 4, 2) := by decide +kernel
theorem dL_law_795 : decode cL_law 795 = .ok (.iconst 1, 1) := by decide +kernel
theorem dL_law_796 : decode cL_law 796 = .ok (.iadd, 1) := by decide +kernel
theorem dL_law_797 : decode cL_law 797 = .ok (.iaload, 1) := by decide +kernel
theorem dL_law_798 : decode cL_law 798 = .ok (.invokevirtual 115, 3) := by decide +kernel
theorem dL_law_801 : decode cL_law 801 = .ok (.istore 6, 2) := by decide +kernel
theorem dL_law_803 : decode cL_law 803 = .ok (.aload_n 2, 1) := by decide +kernel
theorem dL_law_804 : decode cL_law 804 = .ok (.invokevirtual 81, 3) := by decide +kernel
theorem dL_law_807 : decode cL_law 807 = .ok (.iload 5, 2) := by decide +kernel
theorem dL_law_809 : decode cL_law 809 = .ok (.if_icmp .eq 5, 3) := by decide +kernel
theorem dL_law_812 : decode cL_law 812 = .ok (.iconst 0, 1) := by decide +kernel
theorem dL_law_813 : decode cL_law 813 = .ok (.ireturn, 1) := by decide +kernel
theorem dL_law_814 : decode cL_law 814 = .ok (.iload 5, 2) := by decide +kernel
theorem dL_law_816 : decode cL_law 816 = .ok (.ifCond .ne 15, 3) := by decide +kernel
theorem dL_law_819 : decode cL_law 819 = .ok (.aload_n 3, 1) := by decide +kernel
theorem dL_law_820 : decode cL_law 820 = .ok (.iconst 0, 1) := by decide +kernel
theorem dL_law_821 : decode cL_law 821 = .ok (.laload, 1) := by decide +kernel
theorem dL_law_822 : decode cL_law 822 = .ok (.iload 6, 2) := by decide +kernel
theorem dL_law_824 : decode cL_law 824 = .ok (.i2l, 1) := by decide +kernel
theorem dL_law_825 : decode cL_law 825 = .ok (.lcmp, 1) := by decide +kernel
theorem dL_law_826 : decode cL_law 826 = .ok (.ifCond .eq 5, 3) := by decide +kernel
theorem dL_law_829 : decode cL_law 829 = .ok (.iconst 0, 1) := by decide +kernel
theorem dL_law_830 : decode cL_law 830 = .ok (.ireturn, 1) := by decide +kernel
theorem dL_law_831 : decode cL_law 831 = .ok (.goto 476, 3) := by decide +kernel
theorem dL_law_834 : decode cL_law 834 = .ok (.aload_n 1, 1) := by decide +kernel
theorem dL_law_835 : decode cL_law 835 = .ok (.aload_n 0, 1) := by decide +kernel
theorem dL_law_836 : decode cL_law 836 = .ok (.iload 4, 2) := by decide +kernel
theorem dL_law_838 : decode cL_law 838 = .ok (.iconst 1, 1) := by decide +kernel
theorem dL_law_839 : decode cL_law 839 = .ok (.iadd, 1) := by decide +kernel
theorem dL_law_840 : decode cL_law 840 = .ok (.iaload, 1) := by decide +kernel
theorem dL_law_841 : decode cL_law 841 = .ok (.aload_n 0, 1) := by decide +kernel
theorem dL_law_842 : decode cL_law 842 = .ok (.iload 4, 2) := by decide +kernel
theorem dL_law_844 : decode cL_law 844 = .ok (.iconst 2, 1) := by decide +kernel
theorem dL_law_845 : decode cL_law 845 = .ok (.iadd, 1) := by decide +kernel
theorem dL_law_846 : decode cL_law 846 = .ok (.iaload, 1) := by decide +kernel
theorem dL_law_847 : decode cL_law 847 = .ok (.aload_n 3, 1) := by decide +kernel
theorem dL_law_848 : decode cL_law 848 = .ok (.invokestatic 116, 3) := by decide +kernel
theorem dL_law_851 : decode cL_law 851 = .ok (.istore 5, 2) := by decide +kernel
theorem dL_law_853 : decode cL_law 853 = .ok (.aload_n 2, 1) := by decide +kernel
theorem dL_law_854 : decode cL_law 854 = .ok (.aload_n 0, 1) := by decide +kernel
theorem dL_law_855 : decode cL_law 855 = .ok (.iload 4, 2) := by decide +kernel
theorem dL_law_857 : decode cL_law 857 = .ok (.iconst 1, 1) := by decide +kernel
theorem dL_law_858 : decode cL_law 858 = .ok (.iadd, 1) := by decide +kernel
theorem dL_law_859 : decode cL_law 859 = .ok (.iaload, 1) := by decide +kernel
theorem dL_law_860 : decode cL_law 860 = .ok (.aload_n 0, 1) := by decide +kernel
theorem dL_law_861 : decode cL_law 861 = .ok (.iload 4, 2) := by decide +kernel
theorem dL_law_863 : decode cL_law 863 = .ok (.iconst 2, 1) := by decide +kernel
theorem dL_law_864 : decode cL_law 864 = .ok (.iadd, 1) := by decide +kernel
theorem dL_law_865 : decode cL_law 865 = .ok (.iaload, 1) := by decide +kernel
theorem dL_law_866 : decode cL_law 866 = .ok (.invokevirtual 118, 3) := by decide +kernel
theorem dL_law_869 : decode cL_law 869 = .ok (.istore 6, 2) := by decide +kernel
theorem dL_law_871 : decode cL_law 871 = .ok (.aload_n 2, 1) := by decide +kernel
theorem dL_law_872 : decode cL_law 872 = .ok (.invokevirtual 81, 3) := by decide +kernel
theorem dL_law_875 : decode cL_law 875 = .ok (.iload 5, 2) := by decide +kernel
theorem dL_law_877 : decode cL_law 877 = .ok (.if_icmp .eq 5, 3) := by decide +kernel
theorem dL_law_880 : decode cL_law 880 = .ok (.iconst 0, 1) := by decide +kernel
theorem dL_law_881 : decode cL_law 881 = .ok (.ireturn, 1) := by decide +kernel
theorem dL_law_882 : decode cL_law 882 = .ok (.iload 5, 2) := by decide +kernel
theorem dL_law_884 : decode cL_law 884 = .ok (.ifCond .ne 15, 3) := by decide +kernel
theorem dL_law_887 : decode cL_law 887 = .ok (.aload_n 3, 1) := by decide +kernel
theorem dL_law_888 : decode cL_law 888 = .ok (.iconst 0, 1) := by decide +kernel
theorem dL_law_889 : decode cL_law 889 = .ok (.laload, 1) := by decide +kernel
theorem dL_law_890 : decode cL_law 890 = .ok (.iload 6, 2) := by decide +kernel
theorem dL_law_892 : decode cL_law 892 = .ok (.i2l, 1) := by decide +kernel
theorem dL_law_893 : decode cL_law 893 = .ok (.lcmp, 1) := by decide +kernel
theorem dL_law_894 : decode cL_law 894 = .ok (.ifCond .eq 5, 3) := by decide +kernel
theorem dL_law_897 : decode cL_law 897 = .ok (.iconst 0, 1) := by decide +kernel
theorem dL_law_898 : decode cL_law 898 = .ok (.ireturn, 1) := by decide +kernel
theorem dL_law_899 : decode cL_law 899 = .ok (.goto 408, 3) := by decide +kernel
theorem dL_law_902 : decode cL_law 902 = .ok (.aload_n 1, 1) := by decide +kernel
theorem dL_law_903 : decode cL_law 903 = .ok (.aload_n 0, 1) := by decide +kernel
theorem dL_law_904 : decode cL_law 904 = .ok (.iload 4, 2) := by decide +kernel
theorem dL_law_906 : decode cL_law 906 = .ok (.iconst 1, 1) := by decide +kernel
theorem dL_law_907 : decode cL_law 907 = .ok (.iadd, 1) := by decide +kernel
theorem dL_law_908 : decode cL_law 908 = .ok (.iaload, 1) := by decide +kernel
theorem dL_law_909 : decode cL_law 909 = .ok (.aload_n 3, 1) := by decide +kernel
theorem dL_law_910 : decode cL_law 910 = .ok (.invokestatic 119, 3) := by decide +kernel
theorem dL_law_913 : decode cL_law 913 = .ok (.istore 5, 2) := by decide +kernel
theorem dL_law_915 : decode cL_law 915 = .ok (.aload_n 2, 1) := by decide +kernel
theorem dL_law_916 : decode cL_law 916 = .ok (.aload_n 0, 1) := by decide +kernel
theorem dL_law_917 : decode cL_law 917 = .ok (.iload 4, 2) := by decide +kernel
theorem dL_law_919 : decode cL_law 919 = .ok (.iconst 1, 1) := by decide +kernel
theorem dL_law_920 : decode cL_law 920 = .ok (.iadd, 1) := by decide +kernel
theorem dL_law_921 : decode cL_law 921 = .ok (.iaload, 1) := by decide +kernel
theorem dL_law_922 : decode cL_law 922 = .ok (.invokevirtual 121, 3) := by decide +kernel
theorem dL_law_925 : decode cL_law 925 = .ok (.istore 6, 2) := by decide +kernel
theorem dL_law_927 : decode cL_law 927 = .ok (.aload_n 2, 1) := by decide +kernel
theorem dL_law_928 : decode cL_law 928 = .ok (.invokevirtual 81, 3) := by decide +kernel
theorem dL_law_931 : decode cL_law 931 = .ok (.iload 5, 2) := by decide +kernel
theorem dL_law_933 : decode cL_law 933 = .ok (.if_icmp .eq 5, 3) := by decide +kernel
theorem dL_law_936 : decode cL_law 936 = .ok (.iconst 0, 1) := by decide +kernel
theorem dL_law_937 : decode cL_law 937 = .ok (.ireturn, 1) := by decide +kernel
theorem dL_law_938 : decode cL_law 938 = .ok (.iload 5, 2) := by decide +kernel
theorem dL_law_940 : decode cL_law 940 = .ok (.ifCond .ne 15, 3) := by decide +kernel
theorem dL_law_943 : decode cL_law 943 = .ok (.aload_n 3, 1) := by decide +kernel
theorem dL_law_944 : decode cL_law 944 = .ok (.iconst 0, 1) := by decide +kernel
theorem dL_law_945 : decode cL_law 945 = .ok (.laload, 1) := by decide +kernel
theorem dL_law_946 : decode cL_law 946 = .ok (.iload 6, 2) := by decide +kernel
theorem dL_law_948 : decode cL_law 948 = .ok (.i2l, 1) := by decide +kernel
theorem dL_law_949 : decode cL_law 949 = .ok (.lcmp, 1) := by decide +kernel
theorem dL_law_950 : decode cL_law 950 = .ok (.ifCond .eq 5, 3) := by decide +kernel
theorem dL_law_953 : decode cL_law 953 = .ok (.iconst 0, 1) := by decide +kernel
theorem dL_law_954 : decode cL_law 954 = .ok (.ireturn, 1) := by decide +kernel
theorem dL_law_955 : decode cL_law 955 = .ok (.goto 352, 3) := by decide +kernel
theorem dL_law_958 : decode cL_law 958 = .ok (.aload_n 1, 1) := by decide +kernel
theorem dL_law_959 : decode cL_law 959 = .ok (.aload_n 3, 1) := by decide +kernel
theorem dL_law_960 : decode cL_law 960 = .ok (.invokestatic 122, 3) := by decide +kernel
theorem dL_law_963 : decode cL_law 963 = .ok (.istore 5, 2) := by decide +kernel
theorem dL_law_965 : decode cL_law 965 = .ok (.aload_n 2, 1) := by decide +kernel
theorem dL_law_966 : decode cL_law 966 = .ok (.invokevirtual 125, 3) := by decide +kernel
theorem dL_law_969 : decode cL_law 969 = .ok (.istore 6, 2) := by decide +kernel
theorem dL_law_971 : decode cL_law 971 = .ok (.aload_n 2, 1) := by decide +kernel
theorem dL_law_972 : decode cL_law 972 = .ok (.invokevirtual 81, 3) := by decide +kernel
theorem dL_law_975 : decode cL_law 975 = .ok (.iload 5, 2) := by decide +kernel
theorem dL_law_977 : decode cL_law 977 = .ok (.if_icmp .eq 5, 3) := by decide +kernel
theorem dL_law_980 : decode cL_law 980 = .ok (.iconst 0, 1) := by decide +kernel
theorem dL_law_981 : decode cL_law 981 = .ok (.ireturn, 1) := by decide +kernel
theorem dL_law_982 : decode cL_law 982 = .ok (.iload 5, 2) := by decide +kernel
theorem dL_law_984 : decode cL_law 984 = .ok (.ifCond .ne 15, 3) := by decide +kernel
theorem dL_law_987 : decode cL_law 987 = .ok (.aload_n 3, 1) := by decide +kernel
theorem dL_law_988 : decode cL_law 988 = .ok (.iconst 0, 1) := by decide +kernel
theorem dL_law_989 : decode cL_law 989 = .ok (.laload, 1) := by decide +kernel
theorem dL_law_990 : decode cL_law 990 = .ok (.iload 6, 2) := by decide +kernel
theorem dL_law_992 : decode cL_law 992 = .ok (.i2l, 1) := by decide +kernel
theorem dL_law_993 : decode cL_law 993 = .ok (.lcmp, 1) := by decide +kernel
theorem dL_law_994 : decode cL_law 994 = .ok (.ifCond .eq 5, 3) := by decide +kernel
theorem dL_law_997 : decode cL_law 997 = .ok (.iconst 0, 1) := by decide +kernel
theorem dL_law_998 : decode cL_law 998 = .ok (.ireturn, 1) := by decide +kernel
theorem dL_law_999 : decode cL_law 999 = .ok (.goto 308, 3) := by decide +kernel
theorem dL_law_1002 : decode cL_law 1002 = .ok (.aload_n 1, 1) := by decide +kernel
theorem dL_law_1003 : decode cL_law 1003 = .ok (.invokevirtual 126, 3) := by decide +kernel
theorem dL_law_1006 : decode cL_law 1006 = .ok (.aload_n 2, 1) := by decide +kernel
theorem dL_law_1007 : decode cL_law 1007 = .ok (.invokevirtual 129, 3) := by decide +kernel
theorem dL_law_1010 : decode cL_law 1010 = .ok (.if_icmp .eq 297, 3) := by decide +kernel
theorem dL_law_1013 : decode cL_law 1013 = .ok (.iconst 0, 1) := by decide +kernel
theorem dL_law_1014 : decode cL_law 1014 = .ok (.ireturn, 1) := by decide +kernel
theorem dL_law_1015 : decode cL_law 1015 = .ok (.aload_n 1, 1) := by decide +kernel
theorem dL_law_1016 : decode cL_law 1016 = .ok (.invokevirtual 130, 3) := by decide +kernel
theorem dL_law_1019 : decode cL_law 1019 = .ok (.aload_n 2, 1) := by decide +kernel
theorem dL_law_1020 : decode cL_law 1020 = .ok (.invokevirtual 133, 3) := by decide +kernel
theorem dL_law_1023 : decode cL_law 1023 = .ok (.if_icmp .eq 284, 3) := by decide +kernel
theorem dL_law_1026 : decode cL_law 1026 = .ok (.iconst 0, 1) := by decide +kernel
theorem dL_law_1027 : decode cL_law 1027 = .ok (.ireturn, 1) := by decide +kernel
theorem dL_law_1028 : decode cL_law 1028 = .ok (.aload_n 1, 1) := by decide +kernel
theorem dL_law_1029 : decode cL_law 1029 = .ok (.invokevirtual 134, 3) := by decide +kernel
theorem dL_law_1032 : decode cL_law 1032 = .ok (.aload_n 2, 1) := by decide +kernel
theorem dL_law_1033 : decode cL_law 1033 = .ok (.invokevirtual 137, 3) := by decide +kernel
theorem dL_law_1036 : decode cL_law 1036 = .ok (.if_icmp .eq 271, 3) := by decide +kernel
theorem dL_law_1039 : decode cL_law 1039 = .ok (.iconst 0, 1) := by decide +kernel
theorem dL_law_1040 : decode cL_law 1040 = .ok (.ireturn, 1) := by decide +kernel
theorem dL_law_1041 : decode cL_law 1041 = .ok (.aload_n 1, 1) := by decide +kernel
theorem dL_law_1042 : decode cL_law 1042 = .ok (.invokevirtual 138, 3) := by decide +kernel
theorem dL_law_1045 : decode cL_law 1045 = .ok (.aload_n 2, 1) := by decide +kernel
theorem dL_law_1046 : decode cL_law 1046 = .ok (.invokevirtual 141, 3) := by decide +kernel
theorem dL_law_1049 : decode cL_law 1049 = .ok (.if_icmp .eq 258, 3) := by decide +kernel
theorem dL_law_1052 : decode cL_law 1052 = .ok (.iconst 0, 1) := by decide +kernel
theorem dL_law_1053 : decode cL_law 1053 = .ok (.ireturn, 1) := by decide +kernel
theorem dL_law_1054 : decode cL_law 1054 = .ok (.aload_n 1, 1) := by decide +kernel
theorem dL_law_1055 : decode cL_law 1055 = .ok (.invokevirtual 142, 3) := by decide +kernel
theorem dL_law_1058 : decode cL_law 1058 = .ok (.aload_n 2, 1) := by decide +kernel
theorem dL_law_1059 : decode cL_law 1059 = .ok (.invokevirtual 145, 3) := by decide +kernel
theorem dL_law_1062 : decode cL_law 1062 = .ok (.if_icmp .eq 245, 3) := by decide +kernel
theorem dL_law_1065 : decode cL_law 1065 = .ok (.iconst 0, 1) := by decide +kernel
theorem dL_law_1066 : decode cL_law 1066 = .ok (.ireturn, 1) := by decide +kernel
theorem dL_law_1067 : decode cL_law 1067 = .ok (.aload_n 1, 1) := by decide +kernel
theorem dL_law_1068 : decode cL_law 1068 = .ok (.invokevirtual 146, 3) := by decide +kernel
theorem dL_law_1071 : decode cL_law 1071 = .ok (.aload_n 2, 1) := by decide +kernel
theorem dL_law_1072 : decode cL_law 1072 = .ok (.invokevirtual 149, 3) := by decide +kernel
theorem dL_law_1075 : decode cL_law 1075 = .ok (.if_icmp .eq 232, 3) := by decide +kernel
theorem dL_law_1078 : decode cL_law 1078 = .ok (.iconst 0, 1) := by decide +kernel
theorem dL_law_1079 : decode cL_law 1079 = .ok (.ireturn, 1) := by decide +kernel
theorem dL_law_1080 : decode cL_law 1080 = .ok (.aload_n 1, 1) := by decide +kernel
theorem dL_law_1081 : decode cL_law 1081 = .ok (.invokevirtual 150, 3) := by decide +kernel
theorem dL_law_1084 : decode cL_law 1084 = .ok (.aload_n 2, 1) := by decide +kernel
theorem dL_law_1085 : decode cL_law 1085 = .ok (.invokevirtual 153, 3) := by decide +kernel
theorem dL_law_1088 : decode cL_law 1088 = .ok (.if_icmp .eq 219, 3) := by decide +kernel
theorem dL_law_1091 : decode cL_law 1091 = .ok (.iconst 0, 1) := by decide +kernel
theorem dL_law_1092 : decode cL_law 1092 = .ok (.ireturn, 1) := by decide +kernel
theorem dL_law_1093 : decode cL_law 1093 = .ok (.aload_n 1, 1) := by decide +kernel
theorem dL_law_1094 : decode cL_law 1094 = .ok (.invokevirtual 154, 3) := by decide +kernel
theorem dL_law_1097 : decode cL_law 1097 = .ok (.aload_n 2, 1) := by decide +kernel
theorem dL_law_1098 : decode cL_law 1098 = .ok (.invokevirtual 157, 3) := by decide +kernel
theorem dL_law_1101 : decode cL_law 1101 = .ok (.if_icmp .eq 206, 3) := by decide +kernel
theorem dL_law_1104 : decode cL_law 1104 = .ok (.iconst 0, 1) := by decide +kernel
theorem dL_law_1105 : decode cL_law 1105 = .ok (.ireturn, 1) := by decide +kernel
theorem dL_law_1106 : decode cL_law 1106 = .ok (.aload_n 1, 1) := by decide +kernel
theorem dL_law_1107 : decode cL_law 1107 = .ok (.invokevirtual 158, 3) := by decide +kernel
theorem dL_law_1110 : decode cL_law 1110 = .ok (.aload_n 2, 1) := by decide +kernel
theorem dL_law_1111 : decode cL_law 1111 = .ok (.invokevirtual 161, 3) := by decide +kernel
theorem dL_law_1114 : decode cL_law 1114 = .ok (.if_icmp .eq 193, 3) := by decide +kernel
theorem dL_law_1117 : decode cL_law 1117 = .ok (.iconst 0, 1) := by decide +kernel
theorem dL_law_1118 : decode cL_law 1118 = .ok (.ireturn, 1) := by decide +kernel
theorem dL_law_1119 : decode cL_law 1119 = .ok (.aload_n 1, 1) := by decide +kernel
theorem dL_law_1120 : decode cL_law 1120 = .ok (.aload_n 0, 1) := by decide +kernel
theorem dL_law_1121 : decode cL_law 1121 = .ok (.iload 4, 2) := by decide +kernel
theorem dL_law_1123 : decode cL_law 1123 = .ok (.iconst 1, 1) := by decide +kernel
theorem dL_law_1124 : decode cL_law 1124 = .ok (.iadd, 1) := by decide +kernel
theorem dL_law_1125 : decode cL_law 1125 = .ok (.iaload, 1) := by decide +kernel
theorem dL_law_1126 : decode cL_law 1126 = .ok (.aload_n 3, 1) := by decide +kernel
theorem dL_law_1127 : decode cL_law 1127 = .ok (.invokestatic 162, 3) := by decide +kernel
theorem dL_law_1130 : decode cL_law 1130 = .ok (.istore 5, 2) := by decide +kernel
theorem dL_law_1132 : decode cL_law 1132 = .ok (.aload_n 2, 1) := by decide +kernel
theorem dL_law_1133 : decode cL_law 1133 = .ok (.aload_n 0, 1) := by decide +kernel
theorem dL_law_1134 : decode cL_law 1134 = .ok (.iload 4, 2) := by decide +kernel
theorem dL_law_1136 : decode cL_law 1136 = .ok (.iconst 1, 1) := by decide +kernel
theorem dL_law_1137 : decode cL_law 1137 = .ok (.iadd, 1) := by decide +kernel
theorem dL_law_1138 : decode cL_law 1138 = .ok (.iaload, 1) := by decide +kernel
theorem dL_law_1139 : decode cL_law 1139 = .ok (.invokevirtual 164, 3) := by decide +kernel
theorem dL_law_1142 : decode cL_law 1142 = .ok (.istore 6, 2) := by decide +kernel
theorem dL_law_1144 : decode cL_law 1144 = .ok (.aload_n 2, 1) := by decide +kernel
theorem dL_law_1145 : decode cL_law 1145 = .ok (.invokevirtual 81, 3) := by decide +kernel
theorem dL_law_1148 : decode cL_law 1148 = .ok (.iload 5, 2) := by decide +kernel
theorem dL_law_1150 : decode cL_law 1150 = .ok (.if_icmp .eq 5, 3) := by decide +kernel
theorem dL_law_1153 : decode cL_law 1153 = .ok (.iconst 0, 1) := by decide +kernel
theorem dL_law_1154 : decode cL_law 1154 = .ok (.ireturn, 1) := by decide +kernel
theorem dL_law_1155 : decode cL_law 1155 = .ok (.iload 5, 2) := by decide +kernel
theorem dL_law_1157 : decode cL_law 1157 = .ok (.ifCond .ne 15, 3) := by decide +kernel
theorem dL_law_1160 : decode cL_law 1160 = .ok (.aload_n 3, 1) := by decide +kernel
theorem dL_law_1161 : decode cL_law 1161 = .ok (.iconst 0, 1) := by decide +kernel
theorem dL_law_1162 : decode cL_law 1162 = .ok (.laload, 1) := by decide +kernel
theorem dL_law_1163 : decode cL_law 1163 = .ok (.iload 6, 2) := by decide +kernel
theorem dL_law_1165 : decode cL_law 1165 = .ok (.i2l, 1) := by decide +kernel
theorem dL_law_1166 : decode cL_law 1166 = .ok (.lcmp, 1) := by decide +kernel
theorem dL_law_1167 : decode cL_law 1167 = .ok (.ifCond .eq 5, 3) := by decide +kernel
theorem dL_law_1170 : decode cL_law 1170 = .ok (.iconst 0, 1) := by decide +kernel
theorem dL_law_1171 : decode cL_law 1171 = .ok (.ireturn, 1) := by decide +kernel
theorem dL_law_1172 : decode cL_law 1172 = .ok (.goto 135, 3) := by decide +kernel
theorem dL_law_1175 : decode cL_law 1175 = .ok (.aload_n 1, 1) := by decide +kernel
theorem dL_law_1176 : decode cL_law 1176 = .ok (.invokevirtual 165, 3) := by decide +kernel
theorem dL_law_1179 : decode cL_law 1179 = .ok (.aload_n 2, 1) := by decide +kernel
theorem dL_law_1180 : decode cL_law 1180 = .ok (.invokevirtual 168, 3) := by decide +kernel
theorem dL_law_1183 : decode cL_law 1183 = .ok (.if_icmp .eq 124, 3) := by decide +kernel
theorem dL_law_1186 : decode cL_law 1186 = .ok (.iconst 0, 1) := by decide +kernel
theorem dL_law_1187 : decode cL_law 1187 = .ok (.ireturn, 1) := by decide +kernel
theorem dL_law_1188 : decode cL_law 1188 = .ok (.aload_n 1, 1) := by decide +kernel
theorem dL_law_1189 : decode cL_law 1189 = .ok (.aload_n 0, 1) := by decide +kernel
theorem dL_law_1190 : decode cL_law 1190 = .ok (.iload 4, 2) := by decide +kernel
theorem dL_law_1192 : decode cL_law 1192 = .ok (.iconst 1, 1) := by decide +kernel
theorem dL_law_1193 : decode cL_law 1193 = .ok (.iadd, 1) := by decide +kernel
theorem dL_law_1194 : decode cL_law 1194 = .ok (.iaload, 1) := by decide +kernel
theorem dL_law_1195 : decode cL_law 1195 = .ok (.aload_n 3, 1) := by decide +kernel
theorem dL_law_1196 : decode cL_law 1196 = .ok (.invokestatic 169, 3) := by decide +kernel
theorem dL_law_1199 : decode cL_law 1199 = .ok (.istore 5, 2) := by decide +kernel
theorem dL_law_1201 : decode cL_law 1201 = .ok (.aload_n 2, 1) := by decide +kernel
theorem dL_law_1202 : decode cL_law 1202 = .ok (.aload_n 0, 1) := by decide +kernel
theorem dL_law_1203 : decode cL_law 1203 = .ok (.iload 4, 2) := by decide +kernel
theorem dL_law_1205 : decode cL_law 1205 = .ok (.iconst 1, 1) := by decide +kernel
theorem dL_law_1206 : decode cL_law 1206 = .ok (.iadd, 1) := by decide +kernel
theorem dL_law_1207 : decode cL_law 1207 = .ok (.iaload, 1) := by decide +kernel
theorem dL_law_1208 : decode cL_law 1208 = .ok (.invokevirtual 171, 3) := by decide +kernel
theorem dL_law_1211 : decode cL_law 1211 = .ok (.istore 6, 2) := by decide +kernel
theorem dL_law_1213 : decode cL_law 1213 = .ok (.aload_n 2, 1) := by decide +kernel
theorem dL_law_1214 : decode cL_law 1214 = .ok (.invokevirtual 81, 3) := by decide +kernel
theorem dL_law_1217 : decode cL_law 1217 = .ok (.iload 5, 2) := by decide +kernel
theorem dL_law_1219 : decode cL_law 1219 = .ok (.if_icmp .eq 5, 3) := by decide +kernel
theorem dL_law_1222 : decode cL_law 1222 = .ok (.iconst 0, 1) := by decide +kernel
theorem dL_law_1223 : decode cL_law 1223 = .ok (.ireturn, 1) := by decide +kernel
theorem dL_law_1224 : decode cL_law 1224 = .ok (.iload 5, 2) := by decide +kernel
theorem dL_law_1226 : decode cL_law 1226 = .ok (.ifCond .ne 15, 3) := by decide +kernel
theorem dL_law_1229 : decode cL_law 1229 = .ok (.aload_n 3, 1) := by decide +kernel
theorem dL_law_1230 : decode cL_law 1230 = .ok (.iconst 0, 1) := by decide +kernel
theorem dL_law_1231 : decode cL_law 1231 = .ok (.laload, 1) := by decide +kernel
theorem dL_law_1232 : decode cL_law 1232 = .ok (.iload 6, 2) := by decide +kernel
theorem dL_law_1234 : decode cL_law 1234 = .ok (.i2l, 1) := by decide +kernel
theorem dL_law_1235 : decode cL_law 1235 = .ok (.lcmp, 1) := by decide +kernel
theorem dL_law_1236 : decode cL_law 1236 = .ok (.ifCond .eq 5, 3) := by decide +kernel
theorem dL_law_1239 : decode cL_law 1239 = .ok (.iconst 0, 1) := by decide +kernel
theorem dL_law_1240 : decode cL_law 1240 = .ok (.ireturn, 1) := by decide +kernel
theorem dL_law_1241 : decode cL_law 1241 = .ok (.goto 66, 3) := by decide +kernel
theorem dL_law_1244 : decode cL_law 1244 = .ok (.aload_n 1, 1) := by decide +kernel
theorem dL_law_1245 : decode cL_law 1245 = .ok (.aload_n 0, 1) := by decide +kernel
theorem dL_law_1246 : decode cL_law 1246 = .ok (.iload 4, 2) := by decide +kernel
theorem dL_law_1248 : decode cL_law 1248 = .ok (.iconst 1, 1) := by decide +kernel
theorem dL_law_1249 : decode cL_law 1249 = .ok (.iadd, 1) := by decide +kernel
theorem dL_law_1250 : decode cL_law 1250 = .ok (.iaload, 1) := by decide +kernel
theorem dL_law_1251 : decode cL_law 1251 = .ok (.aload_n 3, 1) := by decide +kernel
theorem dL_law_1252 : decode cL_law 1252 = .ok (.invokestatic 172, 3) := by decide +kernel
theorem dL_law_1255 : decode cL_law 1255 = .ok (.istore 5, 2) := by decide +kernel
theorem dL_law_1257 : decode cL_law 1257 = .ok (.aload_n 2, 1) := by decide +kernel
theorem dL_law_1258 : decode cL_law 1258 = .ok (.aload_n 0, 1) := by decide +kernel
theorem dL_law_1259 : decode cL_law 1259 = .ok (.iload 4, 2) := by decide +kernel
theorem dL_law_1261 : decode cL_law 1261 = .ok (.iconst 1, 1) := by decide +kernel
theorem dL_law_1262 : decode cL_law 1262 = .ok (.iadd, 1) := by decide +kernel
theorem dL_law_1263 : decode cL_law 1263 = .ok (.iaload, 1) := by decide +kernel
theorem dL_law_1264 : decode cL_law 1264 = .ok (.invokevirtual 174, 3) := by decide +kernel
theorem dL_law_1267 : decode cL_law 1267 = .ok (.istore 6, 2) := by decide +kernel
theorem dL_law_1269 : decode cL_law 1269 = .ok (.aload_n 2, 1) := by decide +kernel
theorem dL_law_1270 : decode cL_law 1270 = .ok (.invokevirtual 81, 3) := by decide +kernel
theorem dL_law_1273 : decode cL_law 1273 = .ok (.iload 5, 2) := by decide +kernel
theorem dL_law_1275 : decode cL_law 1275 = .ok (.if_icmp .eq 5, 3) := by decide +kernel
theorem dL_law_1278 : decode cL_law 1278 = .ok (.iconst 0, 1) := by decide +kernel
theorem dL_law_1279 : decode cL_law 1279 = .ok (.ireturn, 1) := by decide +kernel
theorem dL_law_1280 : decode cL_law 1280 = .ok (.iload 5, 2) := by decide +kernel
theorem dL_law_1282 : decode cL_law 1282 = .ok (.ifCond .ne 22, 3) := by decide +kernel
theorem dL_law_1285 : decode cL_law 1285 = .ok (.aload_n 3, 1) := by decide +kernel
theorem dL_law_1286 : decode cL_law 1286 = .ok (.iconst 0, 1) := by decide +kernel
theorem dL_law_1287 : decode cL_law 1287 = .ok (.laload, 1) := by decide +kernel
theorem dL_law_1288 : decode cL_law 1288 = .ok (.iload 6, 2) := by decide +kernel
theorem dL_law_1290 : decode cL_law 1290 = .ok (.ifCond .eq 7, 3) := by decide +kernel
theorem dL_law_1293 : decode cL_law 1293 = .ok (.lconst 1, 1) := by decide +kernel
theorem dL_law_1294 : decode cL_law 1294 = .ok (.goto 4, 3) := by decide +kernel
theorem dL_law_1297 : decode cL_law 1297 = .ok (.lconst 0, 1) := by decide +kernel
theorem dL_law_1298 : decode cL_law 1298 = .ok (.lcmp, 1) := by decide +kernel
theorem dL_law_1299 : decode cL_law 1299 = .ok (.ifCond .eq 5, 3) := by decide +kernel
theorem dL_law_1302 : decode cL_law 1302 = .ok (.iconst 0, 1) := by decide +kernel
theorem dL_law_1303 : decode cL_law 1303 = .ok (.ireturn, 1) := by decide +kernel
theorem dL_law_1304 : decode cL_law 1304 = .ok (.goto 3, 3) := by decide +kernel
theorem dL_law_1307 : decode cL_law 1307 = .ok (.iinc 4 7, 3) := by decide +kernel
theorem dL_law_1310 : decode cL_law 1310 = .ok (.goto (-1287), 3) := by decide +kernel
theorem dL_law_1313 : decode cL_law 1313 = .ok (.iconst 1, 1) := by decide +kernel
theorem dL_law_1314 : decode cL_law 1314 = .ok (.ireturn, 1) := by decide +kernel
abbrev vwCl : List vw_C := [(RX0, TX0, 5), (RX1, TX1, 8), (RX2, TX2, 2), (RX3, TX3, 5), (RX4, TX4, 14), (RX5, TX5, 31)]
end
section
theorem pg_dummy : True := trivial
end
