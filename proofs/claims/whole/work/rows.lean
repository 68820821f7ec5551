section
-- ===== PART A: goes FIRST, ahead of the names: the tables' words, and 'selects' of the private methods out of them =====
/-- a private method of a class that the tables say can be made, by its rows of tables_1 -/
def lw_okq (q : MethodName × Nat) : Prop := (q.1.cls ≠ "java/lang/invoke/MethodHandle" ∧ q.1.cls ≠ "java/lang/invoke/VarHandle") ∧ Cond.instantiable q.1.cls q.2 ∈ tables_1 ∧ Cond.privateMethod q.1 ∈ tables_1 ∧ Cond.instanceMethod q.1 ∈ tables_1
theorem lw_p0 : lw_okq (⟨"PegBox", "dueInAll", "()I"⟩, 14) := ⟨⟨by decide +kernel, by decide +kernel⟩, List.mem_of_getElem? (i := 15) (by decide +kernel), List.mem_of_getElem? (i := 206) (by decide +kernel), List.mem_of_getElem? (i := 207) (by decide +kernel)⟩
theorem lw_p1 : lw_okq (⟨"PegBox", "dueOfKind", "(I)I"⟩, 14) := ⟨⟨by decide +kernel, by decide +kernel⟩, List.mem_of_getElem? (i := 15) (by decide +kernel), List.mem_of_getElem? (i := 210) (by decide +kernel), List.mem_of_getElem? (i := 211) (by decide +kernel)⟩
theorem lw_p2 : lw_okq (⟨"PegBox$Kinds", "pastBasket", "(II)I"⟩, 5) := ⟨⟨by decide +kernel, by decide +kernel⟩, List.mem_of_getElem? (i := 39) (by decide +kernel), List.mem_of_getElem? (i := 222) (by decide +kernel), List.mem_of_getElem? (i := 223) (by decide +kernel)⟩
theorem lw_p3 : lw_okq (⟨"PegBox", "leftOutstanding", "()I"⟩, 14) := ⟨⟨by decide +kernel, by decide +kernel⟩, List.mem_of_getElem? (i := 15) (by decide +kernel), List.mem_of_getElem? (i := 233) (by decide +kernel), List.mem_of_getElem? (i := 234) (by decide +kernel)⟩
theorem lw_p4 : lw_okq (⟨"java/lang/Throwable", "fillInStackTrace", "(I)Ljava/lang/Throwable;"⟩, 6) := ⟨⟨by decide +kernel, by decide +kernel⟩, List.mem_of_getElem? (i := 292) (by decide +kernel), List.mem_of_getElem? (i := 290) (by decide +kernel), List.mem_of_getElem? (i := 291) (by decide +kernel)⟩
theorem lw_p5 : lw_okq (⟨"PegBox", "checkNotClosed", "()V"⟩, 14) := ⟨⟨by decide +kernel, by decide +kernel⟩, List.mem_of_getElem? (i := 15) (by decide +kernel), List.mem_of_getElem? (i := 323) (by decide +kernel), List.mem_of_getElem? (i := 324) (by decide +kernel)⟩
theorem lw_p6 : lw_okq (⟨"PegBox", "beyondCollar", "(I)I"⟩, 14) := ⟨⟨by decide +kernel, by decide +kernel⟩, List.mem_of_getElem? (i := 15) (by decide +kernel), List.mem_of_getElem? (i := 399) (by decide +kernel), List.mem_of_getElem? (i := 400) (by decide +kernel)⟩
theorem lw_p7 : lw_okq (⟨"PegBox", "checkClosed", "()V"⟩, 14) := ⟨⟨by decide +kernel, by decide +kernel⟩, List.mem_of_getElem? (i := 15) (by decide +kernel), List.mem_of_getElem? (i := 418) (by decide +kernel), List.mem_of_getElem? (i := 419) (by decide +kernel)⟩
theorem lw_p8 : lw_okq (⟨"PegBox", "free", "()V"⟩, 14) := ⟨⟨by decide +kernel, by decide +kernel⟩, List.mem_of_getElem? (i := 15) (by decide +kernel), List.mem_of_getElem? (i := 424) (by decide +kernel), List.mem_of_getElem? (i := 425) (by decide +kernel)⟩
theorem lw_p9 : lw_okq (⟨"PegBox", "payOut", "()I"⟩, 14) := ⟨⟨by decide +kernel, by decide +kernel⟩, List.mem_of_getElem? (i := 15) (by decide +kernel), List.mem_of_getElem? (i := 464) (by decide +kernel), List.mem_of_getElem? (i := 465) (by decide +kernel)⟩
theorem lw_p10 : lw_okq (⟨"PegBox$EarnOut", "meet", "(II)I"⟩, 8) := ⟨⟨by decide +kernel, by decide +kernel⟩, List.mem_of_getElem? (i := 94) (by decide +kernel), List.mem_of_getElem? (i := 488) (by decide +kernel), List.mem_of_getElem? (i := 489) (by decide +kernel)⟩
theorem lw_p11 : lw_okq (⟨"PegBox", "owe", "(I)I"⟩, 14) := ⟨⟨by decide +kernel, by decide +kernel⟩, List.mem_of_getElem? (i := 15) (by decide +kernel), List.mem_of_getElem? (i := 492) (by decide +kernel), List.mem_of_getElem? (i := 493) (by decide +kernel)⟩
theorem lw_p12 : lw_okq (⟨"PegBoxModel", "isFine", "(I)Z"⟩, 31) := ⟨⟨by decide +kernel, by decide +kernel⟩, List.mem_of_getElem? (i := 528) (by decide +kernel), List.mem_of_getElem? (i := 641) (by decide +kernel), List.mem_of_getElem? (i := 642) (by decide +kernel)⟩
theorem lw_p13 : lw_okq (⟨"PegBoxModel", "frees", "()V"⟩, 31) := ⟨⟨by decide +kernel, by decide +kernel⟩, List.mem_of_getElem? (i := 528) (by decide +kernel), List.mem_of_getElem? (i := 670) (by decide +kernel), List.mem_of_getElem? (i := 671) (by decide +kernel)⟩
theorem lw_p14 : lw_okq (⟨"PegBoxModel", "isClaim", "(I)Z"⟩, 31) := ⟨⟨by decide +kernel, by decide +kernel⟩, List.mem_of_getElem? (i := 528) (by decide +kernel), List.mem_of_getElem? (i := 682) (by decide +kernel), List.mem_of_getElem? (i := 683) (by decide +kernel)⟩
theorem lw_p15 : lw_okq (⟨"PegBoxModel", "settles", "(II)I"⟩, 31) := ⟨⟨by decide +kernel, by decide +kernel⟩, List.mem_of_getElem? (i := 528) (by decide +kernel), List.mem_of_getElem? (i := 690) (by decide +kernel), List.mem_of_getElem? (i := 691) (by decide +kernel)⟩
def lw_privs_1 : List (MethodName × Nat) := [(⟨"PegBox", "dueInAll", "()I"⟩, 14), (⟨"PegBox", "dueOfKind", "(I)I"⟩, 14), (⟨"PegBox$Kinds", "pastBasket", "(II)I"⟩, 5), (⟨"PegBox", "leftOutstanding", "()I"⟩, 14), (⟨"java/lang/Throwable", "fillInStackTrace", "(I)Ljava/lang/Throwable;"⟩, 6), (⟨"PegBox", "checkNotClosed", "()V"⟩, 14), (⟨"PegBox", "beyondCollar", "(I)I"⟩, 14), (⟨"PegBox", "checkClosed", "()V"⟩, 14), (⟨"PegBox", "free", "()V"⟩, 14), (⟨"PegBox", "payOut", "()I"⟩, 14), (⟨"PegBox$EarnOut", "meet", "(II)I"⟩, 8), (⟨"PegBox", "owe", "(I)I"⟩, 14), (⟨"PegBoxModel", "isFine", "(I)Z"⟩, 31), (⟨"PegBoxModel", "frees", "()V"⟩, 31), (⟨"PegBoxModel", "isClaim", "(I)Z"⟩, 31), (⟨"PegBoxModel", "settles", "(II)I"⟩, 31)]
theorem lw_r1 : ∀ q ∈ lw_privs_1, lw_okq q := List.forall_mem_cons.mpr ⟨lw_p0, List.forall_mem_cons.mpr ⟨lw_p1, List.forall_mem_cons.mpr ⟨lw_p2, List.forall_mem_cons.mpr ⟨lw_p3, List.forall_mem_cons.mpr ⟨lw_p4, List.forall_mem_cons.mpr ⟨lw_p5, List.forall_mem_cons.mpr ⟨lw_p6, List.forall_mem_cons.mpr ⟨lw_p7, List.forall_mem_cons.mpr ⟨lw_p8, List.forall_mem_cons.mpr ⟨lw_p9, List.forall_mem_cons.mpr ⟨lw_p10, List.forall_mem_cons.mpr ⟨lw_p11, List.forall_mem_cons.mpr ⟨lw_p12, List.forall_mem_cons.mpr ⟨lw_p13, List.forall_mem_cons.mpr ⟨lw_p14, List.forall_mem_cons.mpr ⟨lw_p15, fun _ h => absurd h List.not_mem_nil⟩⟩⟩⟩⟩⟩⟩⟩⟩⟩⟩⟩⟩⟩⟩⟩
theorem lw_p16 : lw_okq (⟨"PegBoxModel", "open", "()I"⟩, 31) := ⟨⟨by decide +kernel, by decide +kernel⟩, List.mem_of_getElem? (i := 528) (by decide +kernel), List.mem_of_getElem? (i := 694) (by decide +kernel), List.mem_of_getElem? (i := 695) (by decide +kernel)⟩
theorem lw_p17 : lw_okq (⟨"PegBoxModel", "dueAll", "()I"⟩, 31) := ⟨⟨by decide +kernel, by decide +kernel⟩, List.mem_of_getElem? (i := 528) (by decide +kernel), List.mem_of_getElem? (i := 698) (by decide +kernel), List.mem_of_getElem? (i := 699) (by decide +kernel)⟩
theorem lw_p18 : lw_okq (⟨"PegBoxModel", "dueFor", "(I)I"⟩, 31) := ⟨⟨by decide +kernel, by decide +kernel⟩, List.mem_of_getElem? (i := 528) (by decide +kernel), List.mem_of_getElem? (i := 702) (by decide +kernel), List.mem_of_getElem? (i := 703) (by decide +kernel)⟩
theorem lw_p19 : lw_okq (⟨"PegBoxModel", "owes", "(I)I"⟩, 31) := ⟨⟨by decide +kernel, by decide +kernel⟩, List.mem_of_getElem? (i := 528) (by decide +kernel), List.mem_of_getElem? (i := 714) (by decide +kernel), List.mem_of_getElem? (i := 715) (by decide +kernel)⟩
def lw_privs_2 : List (MethodName × Nat) := [(⟨"PegBoxModel", "open", "()I"⟩, 31), (⟨"PegBoxModel", "dueAll", "()I"⟩, 31), (⟨"PegBoxModel", "dueFor", "(I)I"⟩, 31), (⟨"PegBoxModel", "owes", "(I)I"⟩, 31)]
theorem lw_r2 : ∀ q ∈ lw_privs_2, lw_okq q := List.forall_mem_cons.mpr ⟨lw_p16, List.forall_mem_cons.mpr ⟨lw_p17, List.forall_mem_cons.mpr ⟨lw_p18, List.forall_mem_cons.mpr ⟨lw_p19, fun _ h => absurd h List.not_mem_nil⟩⟩⟩⟩
def lw_privs : List (MethodName × Nat) := lw_privs_1 ++ (lw_privs_2)
def lw_tbl : List Cond := k2_sels lw_privs ++ tables_1
theorem lw_privs_ok : ∀ q ∈ lw_privs, lw_okq q := by
  show ∀ q ∈ lw_privs_1 ++ (lw_privs_2), lw_okq q
  exact List.forall_mem_append.mpr ⟨lw_r1, lw_r2⟩
-- ===== end of PART A; then your names; then what follows =====
/-! ===== BEGIN words of one list among another's, by their places ===== -/
theorem goodIn_r {big : List Cond} (ws : List Cond) (ps : List Nat) (hp : ws = ps.filterMap (fun i => big[i]?)) (h : ws.all goodWord = true) : GoodIn big ws := by
  intro w hw
  have h1 := List.all_eq_true.mp h w hw
  rw [hp] at hw
  obtain ⟨i, -, hi⟩ := List.mem_filterMap.mp hw
  have hm : w ∈ big := by first | exact List.mem_of_getElem? hi | exact List.getElem?_mem hi
  exact ⟨hm, good_of_word h1⟩
theorem goodIn_app {big a b : List Cond} (ha : GoodIn big a) (hb : GoodIn big b) : GoodIn big (a ++ b) := fun w h => (List.mem_append.mp h).elim (ha w) (hb w)
theorem goodIn_ca {big a b : List Cond} {c : Cond} (ha : GoodIn big (c :: a)) (hb : GoodIn big b) : GoodIn big (c :: (a ++ b)) := fun w h => (List.mem_cons.mp h).elim (fun e => ha w (List.mem_cons.mpr (Or.inl e))) (fun h => (List.mem_append.mp h).elim (fun h => ha w (List.mem_cons.mpr (Or.inr h))) (hb w))
theorem goodIn_sub {big ws : List Cond} (hm : ∀ w ∈ ws, w ∈ big) (h : ws.all goodWord = true) : GoodIn big ws := fun w hw => ⟨hm w hw, good_of_word (List.all_eq_true.mp h w hw)⟩
/-! ===== END ===== -/

/-! ===== BEGIN exceptions that leave a method, and their catching by the caller (launches without stack traces) ===== -/
section VXA
/-! The laws vx_back, vx_callV, vx_callS, vx_callSW, vx_throw0, vx_throwS follow proofs of the library, with one case more: JvmDerived/Free/Laws.lean (Back.of_free), Shelf42/LK1.lean (callV, callS), Shelf/KitTraced.lean (throwNew0V, throwNewS). -/
/-- where a method has thrown q: the class by its name, the cell, what was written, the world -/
def vx_T (XC : String → State → State → Prop) (st : State) (q : Addr) (t : State) (mc ms : Nat) (free : Addr → Prop) : Prop :=
  ∃ (E : String) (ce : Cell) (L : List Loc), XC E st t ∧ t.heap[q]? = some ce ∧ ce.vm = .none ∧ st.vm.findClass E = some ce.cls ∧ st.WarmedH t.vm ∧ st.sameButNew ({ t with vm := st.vm } : State) L mc ms ∧ ∀ z ∈ L, free z.base
def vx_Q (Qc : Array Value → State → Outcome → State → Prop) (XC : String → State → State → Prop) (mc ms : Nat) (free : Addr → Prop) : Array Value → State → Outcome → State → Prop := fun a st o t =>
  (Qc a st o t ∧ ∃ L, FrameEnd st o t L mc ms ∧ ∀ q ∈ L, free q.base) ∨ ∃ q, o = .threw q ∧ vx_T XC st q t mc ms free
/-- a callee that returns or throws -/
def vx_Met (l : Launch) (y : MethodName) (ws : List Cond) (rm : Room) (Pc : Array Value → State → Prop) (Qc : Array Value → State → Outcome → State → Prop) (XC : String → State → State → Prop) (mc ms : Nat) (free : Addr → Prop) : Prop :=
  MetFree l y (headSpec ws rm) Pc (fun _ _ _ _ _ => True) (vx_Q Qc XC mc ms free)
def vx_Post (XC : String → State → State → Prop) (mc ms : Nat) (free : Addr → Prop) : Pt → Array Value → Addr → Pt → Prop := fun A a q B =>
  ∃ (g : JFrame) (mk : MethodId) (t : State) (L : List Loc) (E : String) (ce : Cell), B.U.heap = t.heap ∧ B.U.vm = t.vm ∧ XC E (A.U.calling g mk a) t ∧ t.heap[q]? = some ce ∧ ce.vm = .none ∧ A.U.vm.findClass E = some ce.cls ∧ B.locs = A.locs ++ L ∧ (∀ z ∈ L, free z.base) ∧ B.cells = A.cells + mc ∧ B.slots = A.slots + ms
def vx_Back (l : Launch) (R : Room) (p : Program) (e : Env) (below : List Frame) (s : State) (sargs : Array Value) (y : MethodName) (len W9 : Nat)
    (Pre : Pt → Array Value → Prop) (Post : Pt → Array Value → Option Value → Pt → Prop) (PostX : Pt → Array Value → Addr → Pt → Prop) : Prop :=
  ∀ (m : MethodId) (meth : Method) (c : Code) (A : Pt) (g : JFrame) (ig : Instr) (mk : MethodId) (a : Array Value),
    Stand p l e R s m sargs below meth c A.U A.locs A.cells A.slots → g.method = m → g.locals.size = c.maxLocals → decode c.code g.pc = .ok (ig, len) →
    2 * g.monitorRoom + (g.stack.map fun v => v.category).sum ≤ W9 → A.U.methodNamed? y = some mk → Pre A a →
    (∃ (v : Option Value) (B : Pt), Stand p l e R s m sargs below meth c B.U B.locs B.cells B.slots ∧ Post A a v B ∧
      Steps p.tables e below (doInvoke e (A.U.setTop g) [] mk a).1 (B.U.setTop { g with pc := g.pc + len, stack := v.toList ++ g.stack })) ∨
    (∃ (q : Addr) (B : Pt), Stand p l e R s m sargs below meth c B.U B.locs B.cells B.slots ∧ PostX A a q B ∧
      Steps p.tables e below (doInvoke e (A.U.setTop g) [] mk a).1 ((B.U.setTop g).pushFrame (.throwing q)))
section Payer
variable {l : Launch} {R : Room} {p : Program} {e : Env} {below : List Frame} {s : State} {sargs : Array Value} {y : MethodName} {len W9 : Nat}
theorem vx_back {ws : List Cond} {rm : Room} {Pc : Array Value → State → Prop} {Qc : Array Value → State → Outcome → State → Prop} {XC : String → State → State → Prop} {mc ms : Nat} {free : Addr → Prop} {bytes : ByteArray} {maxL : Nat} {ret : Option FieldType}
    (hM : vx_Met l y ws rm Pc Qc XC mc ms free) (hblind : FrameBlind Pc) (hrc : rm.cells = mc) (hrs : rm.slots = ms)
    (hframes : rm.frames + 1 ≤ R.frames) (hlocals : W9 + (maxL + 11) + rm.locals ≤ R.locals)
    (hws : ∀ w ∈ ws, ∀ a' U, s.WarmedH U.vm → w.before a' U = true) (hcode : Cond.code y bytes maxL ret ∈ ws) (hinit : ∀ a' U, s.WarmedH U.vm → (Cond.initialized y.cls).before a' U = true) :
    vx_Back l R p e below s sargs y len W9 (PreOf R mc ms Pc) (PostOf Qc mc ms free) (vx_Post XC mc ms free) := by
  intro m meth c A g ig mk a X hg hsize hdg hW hn hp
  have h1 : (headSpec ws rm).pre.before a A.U = true := atoms_intro fun w hw => hws w hw _ _ X.warmed
  have h2 : (Cond.code y bytes maxL ret).before a A.U = true := hws _ hcode _ _ X.warmed
  have h3 : (Cond.initialized y.cls).before a A.U = true := hinit _ _ X.warmed
  have h4 : A.cells + (headSpec ws rm).room.cells ≤ R.cells := by rw [show (headSpec ws rm).room.cells = mc from hrc]; exact hp.1
  have h5 : A.slots + (headSpec ws rm).room.slots ≤ R.slots := by rw [show (headSpec ws rm).room.slots = ms from hrs]; exact hp.2.1
  have hPc : Pc a (A.U.calling g mk a) := hblind _ _ _ _ hp.2.2
  obtain ⟨U, Ls, c0, s0⟩ := A
  dsimp only [Pt.U, Pt.locs, Pt.cells, Pt.slots] at h1 h2 h3 h4 h5 X hn hPc ⊢
  obtain ⟨methY, cY, hmY, hcY, -, hlY, -, -, -, -⟩ := Cond.code_spec hn h2
  obtain ⟨kY, hkY, -⟩ := className_of_methodNamed hn
  have hinitY : kY.init = .initialized := Cond.initialized_spec (findClass_of_methodNamed hn) hkY h3
  have h : At U g.method c below := by rw [hg]; exact X.here
  have hlocals9 : W9 + (maxL + 11) + (headSpec ws rm).room.locals ≤ R.locals := hlocals
  have happ : (headSpec ws rm).appliesLoose y e.platform (U.calling g mk a) = true :=
    Spec.appliesLoose_calling (g := g) h hdg hn hkY hinitY
      (X.room_calling (g := g) (R' := (headSpec ws rm).room) hsize hmY hcY hframes (by rw [hlY]; omega) h4 h5) h1
  obtain ⟨mid, hmid⟩ := h.above
  have hfr : (U.setTop g).frames = (.java g :: mid) ++ below := by rw [State.frames_setTop' g h.top, hmid]; rfl
  obtain ⟨o, s₂, hsteps, -, hend, hq⟩ := Steps.callFree hM p X.admits X.cas X.clock (acts := []) hfr happ hPc trivial
  have hq' : vx_Q Qc XC mc ms free a (U.calling g mk a) o s₂ := hq
  rw [State.frames_setTop' g h.top] at hend
  obtain ⟨g₀, hg0⟩ := Option.isSome_iff_exists.mp h.top
  obtain ⟨r, hr⟩ := State.topJava?_eq_some.mp hg0
  have hr' : (({ U with heap := s₂.heap, slotsUsed := s₂.slotsUsed } : State).setVm s₂.vm).frames = .java g₀ :: r := hr
  rcases hq' with ⟨hqc, L, hfe, hL⟩ | ⟨q, rfl, E, ce, L, hx, hce, hcv, hcl, hW₂, hsm, hL⟩
  · obtain ⟨⟨v, rfl⟩, hW₂, e2, q2, q3, q4, q5, q6⟩ := id hfe
    have e3 : s₂ = ({ (U.calling g mk a).setFrames s₂.frames with heap := s₂.heap, slotsUsed := s₂.slotsUsed } : State).setVm s₂.vm := by
      have : s₂ = ({ s₂ with vm := (U.calling g mk a).vm } : State).setVm s₂.vm := rfl
      rw [e2] at this
      exact this
    obtain ⟨c₂, i₂, len₂, hc₂, hd₂, hf₂⟩ := hend
    have hW' : U.WarmedH s₂.vm := hW₂
    have hcc : c₂ = c := by
      have h1 : s₂.code? g.method = U.code? g.method := by
        rw [State.code?_eq, State.code?_eq, hW'.alike.method?]
      exact Option.some.inj (hc₂.symm.trans (h1.trans h.code))
    subst hcc
    have hlen : len₂ = len := by rw [hdg] at hd₂; cases hd₂; rfl
    subst hlen
    have hs₂ : s₂ = (({ U with heap := s₂.heap, slotsUsed := s₂.slotsUsed } : State).setVm s₂.vm).setTop { g with pc := g.pc + len₂, stack := v.toList ++ g.stack } := by
      refine e3.trans ?_
      rw [hf₂, State.calling_eq h.top, State.setFrames_setFrames, State.setTop_of_frames _ hr', hr]
      rfl
    have hsame : U.sameButNew ({ U with heap := s₂.heap, slotsUsed := s₂.slotsUsed } : State) L mc ms := by
      refine ⟨?_, q2, q3, q4, q5, q6⟩
      obtain ⟨t, ht, -⟩ := State.frames_cons hr
      show ({ U with heap := s₂.heap, slotsUsed := s₂.slotsUsed } : State) = { U.setFrames U.frames with heap := s₂.heap, slotsUsed := s₂.slotsUsed }
      rw [State.setFrames_self ht]
    subst hg
    refine Or.inl ⟨v, ⟨(({ U with heap := s₂.heap, slotsUsed := s₂.slotsUsed } : State).setVm s₂.vm), Ls ++ L, c0 + mc, s0 + ms⟩,
      ⟨X.admits, X.cas, X.clock, X.frames, X.room, X.hears, X.method, X.code, (X.here.setHeapUsed s₂.heap s₂.slotsUsed).setVm hW'.alike, X.tail, State.WarmedH.trans X.warmed hW', X.limits, X.bytes, X.same.trans (hsame.setVm s.vm)⟩,
      ⟨g, mk, s₂, L, rfl, rfl, hqc, rfl, hL, rfl, rfl⟩, ?_⟩
    show Steps p.tables e below _ ((({ U with heap := s₂.heap, slotsUsed := s₂.slotsUsed } : State).setVm s₂.vm).setTop { g with pc := g.pc + len₂, stack := v.toList ++ g.stack })
    rw [← hs₂]
    exact hsteps
  · obtain ⟨e2, q2, q3, q4, q5, q6⟩ := id hsm
    have e3 : s₂ = ({ (U.calling g mk a).setFrames s₂.frames with heap := s₂.heap, slotsUsed := s₂.slotsUsed } : State).setVm s₂.vm := by
      have : s₂ = ({ s₂ with vm := (U.calling g mk a).vm } : State).setVm s₂.vm := rfl
      rw [e2] at this
      exact this
    have hf₂ : s₂.frames = .throwing q :: .java g :: U.frames.tail := hend
    have hW' : U.WarmedH s₂.vm := hW₂
    have hs₂ : s₂ = ((({ U with heap := s₂.heap, slotsUsed := s₂.slotsUsed } : State).setVm s₂.vm).setTop g).pushFrame (.throwing q) := by
      refine e3.trans ?_
      rw [hf₂, State.calling_eq h.top, State.setFrames_setFrames, State.pushFrame, State.frames_setTop _ hr', State.setTop_of_frames _ hr', State.setFrames_setFrames, hr]
      rfl
    have hsame : U.sameButNew ({ U with heap := s₂.heap, slotsUsed := s₂.slotsUsed } : State) L mc ms := by
      refine ⟨?_, q2, q3, q4, q5, q6⟩
      obtain ⟨t, ht, -⟩ := State.frames_cons hr
      show ({ U with heap := s₂.heap, slotsUsed := s₂.slotsUsed } : State) = { U.setFrames U.frames with heap := s₂.heap, slotsUsed := s₂.slotsUsed }
      rw [State.setFrames_self ht]
    subst hg
    refine Or.inr ⟨q, ⟨(({ U with heap := s₂.heap, slotsUsed := s₂.slotsUsed } : State).setVm s₂.vm), Ls ++ L, c0 + mc, s0 + ms⟩,
      ⟨X.admits, X.cas, X.clock, X.frames, X.room, X.hears, X.method, X.code, (X.here.setHeapUsed s₂.heap s₂.slotsUsed).setVm hW'.alike, X.tail, State.WarmedH.trans X.warmed hW', X.limits, X.bytes, X.same.trans (hsame.setVm s.vm)⟩,
      ⟨g, mk, s₂, L, E, ce, rfl, rfl, hx, hce, hcv, hcl, rfl, hL, rfl, rfl⟩, ?_⟩
    show Steps p.tables e below _ (((({ U with heap := s₂.heap, slotsUsed := s₂.slotsUsed } : State).setVm s₂.vm).setTop g).pushFrame (.throwing q))
    rw [← hs₂]
    exact hsteps
end Payer
section Calls
variable {p : Program} {l : Launch} {e : Env} {R : Room} {s : State} {m : MethodId} {args : Array Value} {below : List Frame} {meth : Method} {c : Code} {T : State} {locs : List Loc} {cells slots : Nat}
theorem vx_callV (X : Stand p l e R s m args below meth c T locs cells slots) (hexec : p.tables.exec = Jvm.exec) {own C : String} {index : Nat} {y : MethodName} {bytes : ByteArray} {maxL : Nat} {ret : Option FieldType}
    (hown : s.vm.findClass own = some m.cls) (hlink : (Cond.methodLink own index y).before args s = true) (hinst : (Cond.instanceMethod y).before args s = true) (hsel : (Cond.selects C y y).before args s = true)
    (hcode : (Cond.code y bytes maxL ret).before args s = true) (hy : y.cls ≠ "java/lang/invoke/MethodHandle" ∧ y.cls ≠ "java/lang/invoke/VarHandle")
    {W9 : Nat} {Pre : Pt → Array Value → Prop} {Post : Pt → Array Value → Option Value → Pt → Prop} {PostX : Pt → Array Value → Addr → Pt → Prop} (hK : vx_Back l R p e below s args y 3 W9 Pre Post PostX)
    {b : Addr} {cellB : Cell} (hcell : T.heap[b]? = some cellB) (hobj : cellB.vm.isStatics = false) (hcls : s.vm.findClass C = some cellB.cls)
    {g : JFrame} (hg : g.method = m) (hsize : g.locals.size = c.maxLocals) {argsL rest : List Value} (hlen : ∀ sig, parseMethodDescriptor y.desc = some sig → argsL.length = sig.parameters.length)
    (hstack : g.stack = argsL.reverse ++ .ref b :: rest) (hW : 2 * g.monitorRoom + (rest.map fun v => v.category).sum ≤ W9) (hdg : decode c.code g.pc = .ok (.invokevirtual index, 3))
    (hpre : ∀ vm₁, s.WarmedH vm₁ → Pre ⟨T.setVm vm₁, locs, cells, slots⟩ (Value.ref b :: argsL).toArray) :
    (∃ (v : Option Value) (vm₁ : Vm) (B : Pt), s.WarmedH vm₁ ∧ Stand p l e R s m args below meth c B.U B.locs B.cells B.slots ∧ Post ⟨T.setVm vm₁, locs, cells, slots⟩ (Value.ref b :: argsL).toArray v B ∧
      ∀ target, Steps p.tables e below (B.U.setTop { g with pc := g.pc + 3, stack := v.toList ++ rest }) target → Steps p.tables e below (T.setTop g) target) ∨
    (∃ (q : Addr) (vm₁ : Vm) (B : Pt), s.WarmedH vm₁ ∧ Stand p l e R s m args below meth c B.U B.locs B.cells B.slots ∧ PostX ⟨T.setVm vm₁, locs, cells, slots⟩ (Value.ref b :: argsL).toArray q B ∧
      Steps p.tables e below (T.setTop g) ((B.U.setTop { g with stack := rest }).pushFrame (.throwing q))) := by
  obtain ⟨mk, methM, hnamed, hmethM, hstM, habM⟩ := Cond.instanceMethod_spec hinst
  obtain ⟨methM', cM, hmethM', -, -, -, -, -, -, hsigM⟩ := Cond.code_spec hnamed hcode
  cases hmethM.symm.trans hmethM'
  obtain ⟨c2, r2, m2, q1, q2, q3, q4, kP, hkP, hkPi⟩ := Cond.selects_spec hsel
  cases hcls.symm.trans q1
  cases (State.methodFound?_of_named hnamed hy).symm.trans q2
  cases hnamed.symm.trans q3
  have hselP : selectMethod e.platform s.vm cellB.cls mk = .method mk := by rw [Launch.admits_selectMethod X.admits]; exact q4
  obtain ⟨vm₁, X₁, hstep₁⟩ := X.invokevirtual hexec hown hlink hnamed hmethM hstM hkP hkPi hy (a := b) (cell := cellB) hcell
    (fun z h => by rw [h] at hobj; cases hobj) hselP hmethM habM hkP hkPi (g := g) hg (argsL := argsL) (rest := rest) (hlen _ hsigM) hstack hdg
  rcases hK m meth c ⟨T.setVm vm₁, locs, cells, slots⟩ { g with stack := rest } (.invokevirtual index) mk (Value.ref b :: argsL).toArray X₁ hg hsize hdg hW (X₁.named hnamed) (hpre vm₁ X₁.warmed) with ⟨v, B, X', hpost, hsteps⟩ | ⟨q, B, X', hpost, hsteps⟩
  · exact Or.inl ⟨v, vm₁, B, X₁.warmed, X', hpost, fun target h => hstep₁ _ fun acts => by rw [doInvoke_state]; exact hsteps.trans h⟩
  · exact Or.inr ⟨q, vm₁, B, X₁.warmed, X', hpost, hstep₁ _ fun acts => by rw [doInvoke_state]; exact hsteps⟩
theorem vx_callS (X : Stand p l e R s m args below meth c T locs cells slots) (hexec : p.tables.exec = Jvm.exec) {own : String} {index : Nat} {y : MethodName} {bytes : ByteArray} {maxL : Nat} {ret : Option FieldType}
    (hown : s.vm.findClass own = some m.cls) (hlink : (Cond.methodLink own index y).before args s = true) (hstat : (Cond.static y).before args s = true) (hinit : (Cond.initialized y.cls).before args s = true)
    (hcode : (Cond.code y bytes maxL ret).before args s = true) (hy : y.cls ≠ "java/lang/invoke/MethodHandle" ∧ y.cls ≠ "java/lang/invoke/VarHandle")
    {W9 : Nat} {Pre : Pt → Array Value → Prop} {Post : Pt → Array Value → Option Value → Pt → Prop} {PostX : Pt → Array Value → Addr → Pt → Prop} (hK : vx_Back l R p e below s args y 3 W9 Pre Post PostX)
    {g : JFrame} (hg : g.method = m) (hsize : g.locals.size = c.maxLocals) {argsL rest : List Value} (hlen : ∀ sig, parseMethodDescriptor y.desc = some sig → argsL.length = sig.parameters.length)
    (hstack : g.stack = argsL.reverse ++ rest) (hW : 2 * g.monitorRoom + (rest.map fun v => v.category).sum ≤ W9) (hdg : decode c.code g.pc = .ok (.invokestatic index, 3))
    (hpre : ∀ vm₁, s.WarmedH vm₁ → Pre ⟨T.setVm vm₁, locs, cells, slots⟩ argsL.toArray) :
    (∃ (v : Option Value) (vm₁ : Vm) (B : Pt), s.WarmedH vm₁ ∧ Stand p l e R s m args below meth c B.U B.locs B.cells B.slots ∧ Post ⟨T.setVm vm₁, locs, cells, slots⟩ argsL.toArray v B ∧
      ∀ target, Steps p.tables e below (B.U.setTop { g with pc := g.pc + 3, stack := v.toList ++ rest }) target → Steps p.tables e below (T.setTop g) target) ∨
    (∃ (q : Addr) (vm₁ : Vm) (B : Pt), s.WarmedH vm₁ ∧ Stand p l e R s m args below meth c B.U B.locs B.cells B.slots ∧ PostX ⟨T.setVm vm₁, locs, cells, slots⟩ argsL.toArray q B ∧
      Steps p.tables e below (T.setTop g) ((B.U.setTop { g with stack := rest }).pushFrame (.throwing q))) := by
  obtain ⟨mk, hnamed⟩ := Cond.code_named hcode
  obtain ⟨methM, cM, hmethM, -, -, -, -, -, -, hsigM⟩ := Cond.code_spec hnamed hcode
  have hstatic : methM.isStatic = true := Cond.static_spec hnamed hmethM hstat
  obtain ⟨kP, hkP, -⟩ := className_of_methodNamed hnamed
  have hinitP : kP.init = .initialized := Cond.initialized_spec (findClass_of_methodNamed hnamed) hkP hinit
  obtain ⟨vm₁, X₁, hstep₁⟩ := X.invokestatic hexec hown hlink hnamed hmethM hstatic hkP hinitP hy (g := g) hg (argsL := argsL) (rest := rest) (hlen _ hsigM) hstack hdg
  rcases hK m meth c ⟨T.setVm vm₁, locs, cells, slots⟩ { g with stack := rest } (.invokestatic index) mk argsL.toArray X₁ hg hsize hdg hW (X₁.named hnamed) (hpre vm₁ X₁.warmed) with ⟨v, B, X', hpost, hsteps⟩ | ⟨q, B, X', hpost, hsteps⟩
  · exact Or.inl ⟨v, vm₁, B, X₁.warmed, X', hpost, fun target h => hstep₁ _ fun acts => by rw [doInvoke_state]; exact hsteps.trans h⟩
  · exact Or.inr ⟨q, vm₁, B, X₁.warmed, X', hpost, hstep₁ _ fun acts => by rw [doInvoke_state]; exact hsteps⟩
end Calls
theorem vx_cls {s : State} {T : State} {vm₁ : Vm} {E : String} {k : ClassId} (hW : s.WarmedH vm₁) (h : (T.setVm vm₁).vm.findClass E = some k) : s.vm.findClass E = some k := by
  have h1 : vm₁.findClass E = some k := h
  rw [hW.alike.findClass] at h1
  exact h1
/-- the method's frame g, with q thrown over it -/
def vx_W (p : Program) (l : Launch) (e : Env) (R : Room) (s : State) (m : MethodId) (args : Array Value) (below : List Frame) (meth : Method) (c : Code) (H : Heap) (locs : List Loc) (cells slots : Nat) (Q : State → Prop) (g : JFrame) (q : Addr) : Prop :=
  ∀ T : State, T.heap = H → Stand p l e R s m args below meth c T locs cells slots → ∃ t, Steps p.tables e below ((T.setTop g).pushFrame (.throwing q)) t ∧ Q t
def vx_Run (p : Program) (l : Launch) (e : Env) (R : Room) (s : State) (m : MethodId) (args : Array Value) (below : List Frame) (meth : Method) (c : Code) (H : Heap) (locs : List Loc) (cells slots mc ms : Nat) (g : JFrame) (rest : List Value) (Qa : State → Outcome → State → Prop) (XC : String → State → State → Prop) (free : Addr → Prop) : Prop :=
  ∀ T : State, T.heap = H → Stand p l e R s m args below meth c T locs cells slots →
    (∃ (v : Option Value) (st₀ t T' : State) (L : List Loc), st₀.heap = H ∧ Stand p l e R s m args below meth c T' (locs ++ L) (cells + mc) (slots + ms) ∧ (∀ q ∈ L, free q.base) ∧ T'.heap = t.heap ∧ T'.vm = t.vm ∧ Qa st₀ (.returned v) t ∧
      Goes p e below T g T' { g with pc := g.pc + 3, stack := v.toList ++ rest }) ∨
    (∃ (q : Addr) (st₀ t T' : State) (L : List Loc) (E : String) (ce : Cell), st₀.heap = H ∧ Stand p l e R s m args below meth c T' (locs ++ L) (cells + mc) (slots + ms) ∧ (∀ z ∈ L, free z.base) ∧ T'.heap = t.heap ∧ T'.vm = t.vm ∧ XC E st₀ t ∧ t.heap[q]? = some ce ∧ ce.vm = .none ∧ s.vm.findClass E = some ce.cls ∧
      Steps p.tables e below (T.setTop g) ((T'.setTop { g with stack := rest }).pushFrame (.throwing q)))
def vx_X {S : Type} (px : S → Prop) (B : String → S → State → Prop) (A : Nat → Prop) : String → State → State → Prop := fun E st t => ∃ u : S, px u ∧ B E u t ∧ va_F A st t
section Runs
variable {p : Program} {l : Launch} {e : Env} {R : Room} {s : State} {m : MethodId} {args : Array Value} {below : List Frame} {meth : Method} {c : Code} {H : Heap} {locs : List Loc} {cells slots : Nat}
variable {y : MethodName} {bytes cc : ByteArray} {maxL nL mc ms n index : Nat} {ret : Option FieldType} {ws : List Cond} {rm : Room} {Pc : Array Value → State → Prop} {Qc : Array Value → State → Outcome → State → Prop} {XC : String → State → State → Prop} {free : Addr → Prop} {Ts : List Cond} {own C : String} {b : Addr} {As rest : List Value} {g : JFrame}
theorem vx_callBack (cb : CallB R s args own index y bytes maxL ret ws rm mc ms n) (hM : vx_Met l y ws rm Pc Qc XC mc ms free) (hbl : FrameBlind Pc) : vx_Back l R p e below s args y 3 8 (PreOf R mc ms Pc) (PostOf Qc mc ms free) (vx_Post XC mc ms free) := by
  obtain ⟨hrc, hrs, hfr, hlo, hws, hcw, -, hini, -⟩ := cb
  exact vx_back (bytes := bytes) (maxL := maxL) (ret := ret) hM hbl hrc hrs hfr hlo hws hcw (fun a' U hW => word_at hW (Or.inl (by first | rfl | simp [Cond.onTables, Cond.keeps, Cond.steady])) hini)
theorem vx_runV (S : CallFix p m c cc nL s args Ts own) (hM : vx_Met l y ws rm Pc Qc XC mc ms free) (cw : CallW R s args own C index y bytes maxL ret ws rm mc ms n) (hp : PreV s H C b Pc As)
    (hg : g.method = m) (hn : As.length = n) (hsize : g.locals.size = nL) (hstack : g.stack = As.reverse ++ .ref b :: rest) (hW : 2 * g.monitorRoom + (rest.map fun v => v.category).sum ≤ 8) (hdg : decode cc g.pc = .ok (.invokevirtual index, 3)) (hf : cells + mc ≤ R.cells ∧ slots + ms ≤ R.slots) :
    vx_Run p l e R s m args below meth c H locs cells slots mc ms g rest (Qc (Value.ref b :: As).toArray) XC free := by
  have hK : vx_Back l R p e below s args y 3 8 (PreOf R mc ms Pc) (PostOf Qc mc ms free) (vx_Post XC mc ms free) := vx_callBack cw.1 hM hp.1
  obtain ⟨⟨-, -, -, -, -, -, hcode, -, hy, hlen, hl⟩, hin, hse⟩ := cw
  obtain ⟨hx, hb, hml, ho, -⟩ := S
  obtain ⟨-, ⟨cellB, hcB, hoB, hclB⟩, hPc⟩ := hp
  intro T hT X
  rcases vx_callV X hx (C := C) (bytes := bytes) (maxL := maxL) (ret := ret) ho hl hin hse hcode hy hK (by rw [hT]; exact hcB) hoB hclB hg (hsize.trans hml.symm) (argsL := As) (rest := rest) (fun sig h => hn.trans (hlen sig h)) hstack hW (by rw [hb]; exact hdg)
    (fun vm₁ hW₁ => ⟨hf.1, hf.2, hPc (T.setVm vm₁) hT hW₁⟩) with ⟨v, vm₁, ⟨U', l2, c2, s2⟩, hW₁, X', ⟨g', mk, t, L, e1, e2, hq, h1, hL, h2, h3⟩, st⟩ | ⟨q, vm₁, ⟨U', l2, c2, s2⟩, hW₁, X', ⟨g', mk, t, L, E, ce, e1, e2, hq, hce, hcv, hcl, h1, hL, h2, h3⟩, st⟩
  · dsimp only [Pt.U, Pt.locs, Pt.cells, Pt.slots] at X' e1 e2 h1 h2 h3 st
    subst h1; subst h2; subst h3
    exact Or.inl ⟨v, (T.setVm vm₁).calling g' mk (Value.ref b :: As).toArray, t, U', L, hT, X', hL, e1, e2, hq, st⟩
  · dsimp only [Pt.U, Pt.locs, Pt.cells, Pt.slots] at X' e1 e2 h1 h2 h3 st hcl
    subst h1; subst h2; subst h3
    exact Or.inr ⟨q, (T.setVm vm₁).calling g' mk (Value.ref b :: As).toArray, t, U', L, E, ce, hT, X', hL, e1, e2, hq, hce, hcv, vx_cls hW₁ hcl, st⟩
theorem vx_runS (S : CallFix p m c cc nL s args Ts own) (hM : vx_Met l y ws rm Pc Qc XC mc ms free) (cw : CallB R s args own index y bytes maxL ret ws rm mc ms n ∧ (Cond.static y).before args s = true) (hp : PreS s H Pc As)
    (hg : g.method = m) (hn : As.length = n) (hsize : g.locals.size = nL) (hstack : g.stack = As.reverse ++ rest) (hW : 2 * g.monitorRoom + (rest.map fun v => v.category).sum ≤ 8) (hdg : decode cc g.pc = .ok (.invokestatic index, 3)) (hf : cells + mc ≤ R.cells ∧ slots + ms ≤ R.slots) :
    vx_Run p l e R s m args below meth c H locs cells slots mc ms g rest (Qc As.toArray) XC free := by
  have hK : vx_Back l R p e below s args y 3 8 (PreOf R mc ms Pc) (PostOf Qc mc ms free) (vx_Post XC mc ms free) := vx_callBack cw.1 hM hp.1
  obtain ⟨⟨-, -, -, -, -, -, hcode, hini, hy, hlen, hl⟩, hstt⟩ := cw
  obtain ⟨hx, hb, hml, ho, -⟩ := S
  intro T hT X
  rcases vx_callS X hx (bytes := bytes) (maxL := maxL) (ret := ret) ho hl hstt hini hcode hy hK hg (hsize.trans hml.symm) (argsL := As) (rest := rest) (fun sig h => hn.trans (hlen sig h)) hstack hW (by rw [hb]; exact hdg)
    (fun vm₁ hW₁ => ⟨hf.1, hf.2, hp.2 (T.setVm vm₁) hT hW₁⟩) with ⟨v, vm₁, ⟨U', l2, c2, s2⟩, hW₁, X', ⟨g', mk, t, L, e1, e2, hq, h1, hL, h2, h3⟩, st⟩ | ⟨q, vm₁, ⟨U', l2, c2, s2⟩, hW₁, X', ⟨g', mk, t, L, E, ce, e1, e2, hq, hce, hcv, hcl, h1, hL, h2, h3⟩, st⟩
  · dsimp only [Pt.U, Pt.locs, Pt.cells, Pt.slots] at X' e1 e2 h1 h2 h3 st
    subst h1; subst h2; subst h3
    exact Or.inl ⟨v, (T.setVm vm₁).calling g' mk As.toArray, t, U', L, hT, X', hL, e1, e2, hq, st⟩
  · dsimp only [Pt.U, Pt.locs, Pt.cells, Pt.slots] at X' e1 e2 h1 h2 h3 st hcl
    subst h1; subst h2; subst h3
    exact Or.inr ⟨q, (T.setVm vm₁).calling g' mk As.toArray, t, U', L, E, ce, hT, X', hL, e1, e2, hq, hce, hcv, vx_cls hW₁ hcl, st⟩
end Runs
section Rows
variable {p : Program} {l : Launch} {e : Env} {R : Room} {s : State} {m : MethodId} {args : Array Value} {below : List Frame} {meth : Method} {c : Code} {H : Heap} {locs : List Loc} {cells slots : Nat} {Q : State → Prop}
variable {mc ms : Nat} {free : Addr → Prop} {A0 A1 : Nat → Prop} {H0 : Heap} {a : Array Value} {pc : Nat} {ls : Array Slot} {st0 rest : List Value}
theorem vx_keep {st₀ t T' : State} {L : List Loc} (h0 : st₀.heap = H) (e1 : T'.heap = t.heap) (hS : va_S A0 H0 H locs) (hA : ∀ q, q < H.size → A1 q → A0 q) (hf : ∀ q, free q → A0 q) (hL : ∀ q ∈ L, free q.base) (hF : va_F A1 st₀ t) :
    H.size ≤ T'.heap.size ∧ (∀ q : Nat, q < H.size → ¬ A1 q → T'.heap[q]? = H[q]?) ∧ va_S A0 H0 T'.heap (locs ++ L) := by
  obtain ⟨hz, hk⟩ := hF
  rw [h0] at hz hk
  exact ⟨by rw [e1]; exact hz, fun q h1 h2 => by rw [e1]; exact hk q h1 h2,
    ⟨Nat.le_trans hS.1 (by rw [e1]; exact hz), fun q h1 h2 => by rw [e1, hk q (Nat.lt_of_lt_of_le h1 hS.1) (fun z => h2 (hA q (Nat.lt_of_lt_of_le h1 hS.1) z))]; exact hS.2.1 q h1 h2, fun q hq => by
      rcases List.mem_append.mp hq with h | h
      · exact hS.2.2 q h
      · exact hf _ (hL q h)⟩⟩
theorem vx_calli {S SX : Type} {post : Int32 → S → Prop} {px : SX → Prop} {B : S → State → Prop} {BX : String → SX → State → Prop} {AX : Nat → Prop} (hr : vx_Run p l e R s m args below meth c H locs cells slots mc ms (F0 m pc ls st0) rest (va_Qi post B A1 a) (vx_X px BX AX) free) (hS : va_S A0 H0 H locs) (hA : ∀ q, q < H.size → A1 q → A0 q) (hf : ∀ q, free q → A0 q) (hAX : ∀ q, q < H.size → AX q → A0 q)
    (kx : ∀ (E : String) (ce : Cell) (q9 : Addr) (u : SX) (t : State) (H1 : Heap) (locs1 : List Loc), t.heap = H1 → s.vm.Alike t.vm → px u → BX E u t → H.size ≤ H1.size → (∀ q : Nat, q < H.size → ¬ AX q → H1[q]? = H[q]?) → va_S A0 H0 H1 locs1 → H1[q9]? = some ce → ce.vm = .none → s.vm.findClass E = some ce.cls → vx_W p l e R s m args below meth c H1 locs1 (cells + mc) (slots + ms) Q (F0 m pc ls rest) q9)
    (kk : ∀ (r : Int32) (u : S) (t : State) (H1 : Heap) (locs1 : List Loc), t.heap = H1 → s.vm.Alike t.vm → post r u → B u t → H.size ≤ H1.size → (∀ q : Nat, q < H.size → ¬ A1 q → H1[q]? = H[q]?) → va_S A0 H0 H1 locs1 → W p l e R s m args below meth c H1 locs1 (cells + mc) (slots + ms) Q (F0 m (pc + 3) ls (.int r :: rest))) : W p l e R s m args below meth c H locs cells slots Q (F0 m pc ls st0) := by
  intro T hT X
  rcases hr T hT X with ⟨v, st₀, t, T', L, h0, X', hL, e1, e2, ⟨⟨r, u, hv, hp, hb⟩, hF⟩, st⟩ | ⟨q, st₀, t, T', L, E, ce, h0, X', hL, e1, e2, ⟨u, hp, hb, hF⟩, hce, hcv, hcl, st⟩
  · cases hv
    obtain ⟨k1, k2, k3⟩ := vx_keep h0 e1 hS hA hf hL hF
    obtain ⟨t2, a1, b1⟩ := kk r u t T'.heap (locs ++ L) e1.symm (by rw [← e2]; exact X'.warmed.alike) hp hb k1 k2 k3 T' rfl X'
    exact ⟨t2, st t2 a1, b1⟩
  · obtain ⟨k1, k2, k3⟩ := vx_keep h0 e1 hS hAX hf hL hF
    obtain ⟨t2, a1, b1⟩ := kx E ce q u t T'.heap (locs ++ L) e1.symm (by rw [← e2]; exact X'.warmed.alike) hp hb k1 k2 k3 (by rw [e1]; exact hce) hcv hcl T' rfl X'
    exact ⟨t2, st.trans a1, b1⟩
theorem vx_calll {S SX : Type} {post : Int64 → S → Prop} {px : SX → Prop} {B : S → State → Prop} {BX : String → SX → State → Prop} {AX : Nat → Prop} (hr : vx_Run p l e R s m args below meth c H locs cells slots mc ms (F0 m pc ls st0) rest (va_Ql post B A1 a) (vx_X px BX AX) free) (hS : va_S A0 H0 H locs) (hA : ∀ q, q < H.size → A1 q → A0 q) (hf : ∀ q, free q → A0 q) (hAX : ∀ q, q < H.size → AX q → A0 q)
    (kx : ∀ (E : String) (ce : Cell) (q9 : Addr) (u : SX) (t : State) (H1 : Heap) (locs1 : List Loc), t.heap = H1 → s.vm.Alike t.vm → px u → BX E u t → H.size ≤ H1.size → (∀ q : Nat, q < H.size → ¬ AX q → H1[q]? = H[q]?) → va_S A0 H0 H1 locs1 → H1[q9]? = some ce → ce.vm = .none → s.vm.findClass E = some ce.cls → vx_W p l e R s m args below meth c H1 locs1 (cells + mc) (slots + ms) Q (F0 m pc ls rest) q9)
    (kk : ∀ (r : Int64) (u : S) (t : State) (H1 : Heap) (locs1 : List Loc), t.heap = H1 → s.vm.Alike t.vm → post r u → B u t → H.size ≤ H1.size → (∀ q : Nat, q < H.size → ¬ A1 q → H1[q]? = H[q]?) → va_S A0 H0 H1 locs1 → W p l e R s m args below meth c H1 locs1 (cells + mc) (slots + ms) Q (F0 m (pc + 3) ls (.long r :: rest))) : W p l e R s m args below meth c H locs cells slots Q (F0 m pc ls st0) := by
  intro T hT X
  rcases hr T hT X with ⟨v, st₀, t, T', L, h0, X', hL, e1, e2, ⟨⟨r, u, hv, hp, hb⟩, hF⟩, st⟩ | ⟨q, st₀, t, T', L, E, ce, h0, X', hL, e1, e2, ⟨u, hp, hb, hF⟩, hce, hcv, hcl, st⟩
  · cases hv
    obtain ⟨k1, k2, k3⟩ := vx_keep h0 e1 hS hA hf hL hF
    obtain ⟨t2, a1, b1⟩ := kk r u t T'.heap (locs ++ L) e1.symm (by rw [← e2]; exact X'.warmed.alike) hp hb k1 k2 k3 T' rfl X'
    exact ⟨t2, st t2 a1, b1⟩
  · obtain ⟨k1, k2, k3⟩ := vx_keep h0 e1 hS hAX hf hL hF
    obtain ⟨t2, a1, b1⟩ := kx E ce q u t T'.heap (locs ++ L) e1.symm (by rw [← e2]; exact X'.warmed.alike) hp hb k1 k2 k3 (by rw [e1]; exact hce) hcv hcl T' rfl X'
    exact ⟨t2, st.trans a1, b1⟩
theorem vx_callf {S SX : Type} {post : UInt32 → S → Prop} {px : SX → Prop} {B : S → State → Prop} {BX : String → SX → State → Prop} {AX : Nat → Prop} (hr : vx_Run p l e R s m args below meth c H locs cells slots mc ms (F0 m pc ls st0) rest (va_Qf post B A1 a) (vx_X px BX AX) free) (hS : va_S A0 H0 H locs) (hA : ∀ q, q < H.size → A1 q → A0 q) (hf : ∀ q, free q → A0 q) (hAX : ∀ q, q < H.size → AX q → A0 q)
    (kx : ∀ (E : String) (ce : Cell) (q9 : Addr) (u : SX) (t : State) (H1 : Heap) (locs1 : List Loc), t.heap = H1 → s.vm.Alike t.vm → px u → BX E u t → H.size ≤ H1.size → (∀ q : Nat, q < H.size → ¬ AX q → H1[q]? = H[q]?) → va_S A0 H0 H1 locs1 → H1[q9]? = some ce → ce.vm = .none → s.vm.findClass E = some ce.cls → vx_W p l e R s m args below meth c H1 locs1 (cells + mc) (slots + ms) Q (F0 m pc ls rest) q9)
    (kk : ∀ (r : UInt32) (u : S) (t : State) (H1 : Heap) (locs1 : List Loc), t.heap = H1 → s.vm.Alike t.vm → post r u → B u t → H.size ≤ H1.size → (∀ q : Nat, q < H.size → ¬ A1 q → H1[q]? = H[q]?) → va_S A0 H0 H1 locs1 → W p l e R s m args below meth c H1 locs1 (cells + mc) (slots + ms) Q (F0 m (pc + 3) ls (.float r :: rest))) : W p l e R s m args below meth c H locs cells slots Q (F0 m pc ls st0) := by
  intro T hT X
  rcases hr T hT X with ⟨v, st₀, t, T', L, h0, X', hL, e1, e2, ⟨⟨r, u, hv, hp, hb⟩, hF⟩, st⟩ | ⟨q, st₀, t, T', L, E, ce, h0, X', hL, e1, e2, ⟨u, hp, hb, hF⟩, hce, hcv, hcl, st⟩
  · cases hv
    obtain ⟨k1, k2, k3⟩ := vx_keep h0 e1 hS hA hf hL hF
    obtain ⟨t2, a1, b1⟩ := kk r u t T'.heap (locs ++ L) e1.symm (by rw [← e2]; exact X'.warmed.alike) hp hb k1 k2 k3 T' rfl X'
    exact ⟨t2, st t2 a1, b1⟩
  · obtain ⟨k1, k2, k3⟩ := vx_keep h0 e1 hS hAX hf hL hF
    obtain ⟨t2, a1, b1⟩ := kx E ce q u t T'.heap (locs ++ L) e1.symm (by rw [← e2]; exact X'.warmed.alike) hp hb k1 k2 k3 (by rw [e1]; exact hce) hcv hcl T' rfl X'
    exact ⟨t2, st.trans a1, b1⟩
theorem vx_calld {S SX : Type} {post : UInt64 → S → Prop} {px : SX → Prop} {B : S → State → Prop} {BX : String → SX → State → Prop} {AX : Nat → Prop} (hr : vx_Run p l e R s m args below meth c H locs cells slots mc ms (F0 m pc ls st0) rest (va_Qd post B A1 a) (vx_X px BX AX) free) (hS : va_S A0 H0 H locs) (hA : ∀ q, q < H.size → A1 q → A0 q) (hf : ∀ q, free q → A0 q) (hAX : ∀ q, q < H.size → AX q → A0 q)
    (kx : ∀ (E : String) (ce : Cell) (q9 : Addr) (u : SX) (t : State) (H1 : Heap) (locs1 : List Loc), t.heap = H1 → s.vm.Alike t.vm → px u → BX E u t → H.size ≤ H1.size → (∀ q : Nat, q < H.size → ¬ AX q → H1[q]? = H[q]?) → va_S A0 H0 H1 locs1 → H1[q9]? = some ce → ce.vm = .none → s.vm.findClass E = some ce.cls → vx_W p l e R s m args below meth c H1 locs1 (cells + mc) (slots + ms) Q (F0 m pc ls rest) q9)
    (kk : ∀ (r : UInt64) (u : S) (t : State) (H1 : Heap) (locs1 : List Loc), t.heap = H1 → s.vm.Alike t.vm → post r u → B u t → H.size ≤ H1.size → (∀ q : Nat, q < H.size → ¬ A1 q → H1[q]? = H[q]?) → va_S A0 H0 H1 locs1 → W p l e R s m args below meth c H1 locs1 (cells + mc) (slots + ms) Q (F0 m (pc + 3) ls (.double r :: rest))) : W p l e R s m args below meth c H locs cells slots Q (F0 m pc ls st0) := by
  intro T hT X
  rcases hr T hT X with ⟨v, st₀, t, T', L, h0, X', hL, e1, e2, ⟨⟨r, u, hv, hp, hb⟩, hF⟩, st⟩ | ⟨q, st₀, t, T', L, E, ce, h0, X', hL, e1, e2, ⟨u, hp, hb, hF⟩, hce, hcv, hcl, st⟩
  · cases hv
    obtain ⟨k1, k2, k3⟩ := vx_keep h0 e1 hS hA hf hL hF
    obtain ⟨t2, a1, b1⟩ := kk r u t T'.heap (locs ++ L) e1.symm (by rw [← e2]; exact X'.warmed.alike) hp hb k1 k2 k3 T' rfl X'
    exact ⟨t2, st t2 a1, b1⟩
  · obtain ⟨k1, k2, k3⟩ := vx_keep h0 e1 hS hAX hf hL hF
    obtain ⟨t2, a1, b1⟩ := kx E ce q u t T'.heap (locs ++ L) e1.symm (by rw [← e2]; exact X'.warmed.alike) hp hb k1 k2 k3 (by rw [e1]; exact hce) hcv hcl T' rfl X'
    exact ⟨t2, st.trans a1, b1⟩
theorem vx_callv {S SX : Type} {post : S → Prop} {px : SX → Prop} {B : S → State → Prop} {BX : String → SX → State → Prop} {AX : Nat → Prop} (hr : vx_Run p l e R s m args below meth c H locs cells slots mc ms (F0 m pc ls st0) rest (va_Qv post B A1 a) (vx_X px BX AX) free) (hS : va_S A0 H0 H locs) (hA : ∀ q, q < H.size → A1 q → A0 q) (hf : ∀ q, free q → A0 q) (hAX : ∀ q, q < H.size → AX q → A0 q)
    (kx : ∀ (E : String) (ce : Cell) (q9 : Addr) (u : SX) (t : State) (H1 : Heap) (locs1 : List Loc), t.heap = H1 → s.vm.Alike t.vm → px u → BX E u t → H.size ≤ H1.size → (∀ q : Nat, q < H.size → ¬ AX q → H1[q]? = H[q]?) → va_S A0 H0 H1 locs1 → H1[q9]? = some ce → ce.vm = .none → s.vm.findClass E = some ce.cls → vx_W p l e R s m args below meth c H1 locs1 (cells + mc) (slots + ms) Q (F0 m pc ls rest) q9)
    (kk : ∀ (u : S) (t : State) (H1 : Heap) (locs1 : List Loc), t.heap = H1 → s.vm.Alike t.vm → post u → B u t → H.size ≤ H1.size → (∀ q : Nat, q < H.size → ¬ A1 q → H1[q]? = H[q]?) → va_S A0 H0 H1 locs1 → W p l e R s m args below meth c H1 locs1 (cells + mc) (slots + ms) Q (F0 m (pc + 3) ls (rest))) : W p l e R s m args below meth c H locs cells slots Q (F0 m pc ls st0) := by
  intro T hT X
  rcases hr T hT X with ⟨v, st₀, t, T', L, h0, X', hL, e1, e2, ⟨⟨u, hv, hp, hb⟩, hF⟩, st⟩ | ⟨q, st₀, t, T', L, E, ce, h0, X', hL, e1, e2, ⟨u, hp, hb, hF⟩, hce, hcv, hcl, st⟩
  · cases hv
    obtain ⟨k1, k2, k3⟩ := vx_keep h0 e1 hS hA hf hL hF
    obtain ⟨t2, a1, b1⟩ := kk u t T'.heap (locs ++ L) e1.symm (by rw [← e2]; exact X'.warmed.alike) hp hb k1 k2 k3 T' rfl X'
    exact ⟨t2, st t2 a1, b1⟩
  · obtain ⟨k1, k2, k3⟩ := vx_keep h0 e1 hS hAX hf hL hF
    obtain ⟨t2, a1, b1⟩ := kx E ce q u t T'.heap (locs ++ L) e1.symm (by rw [← e2]; exact X'.warmed.alike) hp hb k1 k2 k3 (by rw [e1]; exact hce) hcv hcl T' rfl X'
    exact ⟨t2, st.trans a1, b1⟩
/-- caught by the row x of this method's table; the rows ahead don't take it -/
theorem vx_catch {own name : String} {E : String} {ce : Cell} {q : Addr} (hown : s.vm.findClass own = some m.cls) (pre : List ExceptionTableEntry) (x : ExceptionTableEntry) (suf : List ExceptionTableEntry) (hsplit : c.exceptionTable.toList = pre ++ x :: suf)
    (hpass : ∀ z ∈ pre, covers z pc = false ∨ (z.catchType ≠ 0 ∧ ∃ nm : String, (Cond.classLink own z.catchType nm).before args s = true ∧ va_Nc E nm s)) (hx : covers x pc = true) (h0 : x.catchType ≠ 0)
    (hlink : (Cond.classLink own x.catchType name).before args s = true) (hcast : (Cond.castable E name).before args s = true) (hcell : H[q]? = some ce) (hv : ce.vm = .none) (hcl : s.vm.findClass E = some ce.cls)
    (kk : W p l e R s m args below meth c H locs cells slots Q (F0 m x.handlerPc ls [.ref q])) : vx_W p l e R s m args below meth c H locs cells slots Q (F0 m pc ls rest) q := by
  intro T hT X
  have hpl : e.platform.magicAccessors = ({} : Platform).magicAccessors := by rw [X.admits.platform]
  obtain ⟨c3, c4, hc3, hc4, hasg⟩ := Cond.castable_spec hcast
  cases Option.some.inj (hc3.symm.trans hcl)
  obtain ⟨c5, hc5, hcl5⟩ := Cond.classLink_spec hown hlink e.platform hpl
  cases Option.some.inj (hc4.symm.trans hc5)
  obtain ⟨vm', X', st⟩ := X.thenCaughtThrough q (g := F0 m pc ls rest) rfl (Steps.refl _) (by rw [hT]; exact hcell) (by rw [hv]; rfl) (by obtain ⟨k9, h9, -⟩ := Vm.findClass_spec hcl; exact ⟨k9, h9⟩) pre x suf hsplit
    (fun z hz => by
      rcases hpass z hz with h | ⟨hz0, nm, hl1, hn1⟩
      · exact Or.inl h
      · obtain ⟨c6, hc6, hcl6⟩ := Cond.classLink_spec hown hl1 e.platform hpl
        obtain ⟨a8, b8, h1, h2, h3⟩ := hn1
        cases Option.some.inj (h1.symm.trans hcl)
        cases Option.some.inj (h2.symm.trans hc6)
        exact Or.inr ⟨hz0, _, hcl6, h3⟩) hx (Or.inr ⟨h0, c4, hcl5, hasg⟩)
  obtain ⟨t, a1, b1⟩ := kk (T.setVm vm') hT X'
  exact ⟨t, st.trans a1, b1⟩
end Rows
section Ends
variable {p : Program} {l : Launch} {e : Env} {R : Room} {s : State} {m : MethodId} {args : Array Value} {below : List Frame} {meth : Method} {c : Code} {H : Heap} {locs : List Loc} {cells slots : Nat} {Q : State → Prop}
variable {mc ms : Nat} {free : Addr → Prop} {A0 A1 : Nat → Prop} {H0 : Heap} {a : Array Value} {ls : Array Slot} {st0 rest : List Value}
variable {Qc : Array Value → State → Outcome → State → Prop} {XC : String → State → State → Prop}
/-- what a body that may throw owes at its end -/
def vx_MQ (below : List Frame) (Qc : Array Value → State → Outcome → State → Prop) (XC : String → State → State → Prop) (a : Array Value) (s : State) (mc ms : Nat) (free : Addr → Prop) : State → Prop := fun t =>
  ∃ o, t.status = .running ∧ Ended t below o ∧ vx_Q Qc XC mc ms free a s o t
theorem vx_ret {g : JFrame} {mc ms : Nat} (k : W p l e R s m args below meth c H locs cells slots (MQ below Qc args s mc ms free) g) : W p l e R s m args below meth c H locs cells slots (vx_MQ below Qc XC args s mc ms free) g := by
  intro T hT X
  obtain ⟨t, a1, o, b1, b2, b3, b4⟩ := k T hT X
  exact ⟨t, a1, o, b1, b2, Or.inl ⟨b3, b4⟩⟩
/-- not caught here: it goes on to the caller -/
theorem vx_widen {g : JFrame} {q : Addr} {k n : Nat} (h1 : cells ≤ k) (h2 : slots ≤ n) (kk : vx_W p l e R s m args below meth c H locs k n Q g q) : vx_W p l e R s m args below meth c H locs cells slots Q g q := fun T hT X => kk T hT (stand_widen X h1 h2)
theorem vx_out {pc : Nat} {E : String} {ce : Cell} {q : Addr} {mc ms : Nat} (hout : ∀ x ∈ c.exceptionTable.toList, covers x pc = false) (hlocks : meth.locks = false) (hcell : H[q]? = some ce) (hv : ce.vm = .none) (hcl : s.vm.findClass E = some ce.cls)
    (hx : ∀ t : State, t.heap = H → s.vm.Alike t.vm → XC E s t) (hf : ∀ z ∈ locs, free z.base) (hc : cells ≤ mc) (hs : slots ≤ ms) :
    vx_W p l e R s m args below meth c H locs cells slots (vx_MQ below Qc XC args s mc ms free) (F0 m pc ls rest) q := by
  intro T hT X
  obtain ⟨st1, hrun, hend, hW, hsm⟩ := X.leaveThrown q (g := F0 m pc ls rest) rfl rfl rfl hout hlocks
  have hcell9 : (T.setFrames (.throwing q :: below)).heap[q]? = some ce := by
    show T.heap[q]? = some ce
    rw [hT]; exact hcell
  exact ⟨_, st1, .threw q, hrun, hend, Or.inr ⟨q, rfl, E, ce, locs, hx _ hT hW.alike, hcell9, hv, hcl, hW, hsm.mono hc hs, hf⟩⟩
theorem vx_frame {U : State} {k n : Nat} (h : s.sameButNew ({ U with vm := s.vm } : State) locs k n) : s.heap.size ≤ U.heap.size ∧ ∀ q : Nat, q < s.heap.size → (∀ z ∈ locs, z.base ≠ q) → U.heap[q]? = s.heap[q]? := by
  obtain ⟨-, h2, -, -, -, h6⟩ := h
  refine ⟨h2, fun q hq hz => ?_⟩
  obtain ⟨c9, e1, e2, e3, e4⟩ := h6 q _ (Array.getElem?_eq_getElem hq)
  have hs : c9.slots = (s.heap[q]).slots := Array.ext_getElem? fun i => e4 i fun hm => hz _ hm rfl
  have h9 : c9 = s.heap[q] := by
    rw [hs] at e2
    exact e2
  have e5 : U.heap[q]? = some c9 := e1
  rw [e5, h9, Array.getElem?_eq_getElem hq]
/-- the words of a throw but the four that speak of the heap -/
def vx_no (w : Cond) : Bool := decide (w ≠ .isRef (.static Bundle.tN "UNASSIGNED_STACK" Bundle.steD)) && decide (w ≠ .isRef (.static Bundle.tN "SUPPRESSED_SENTINEL" Bundle.listD)) && decide (w ≠ .laysStatic Bundle.tN "UNASSIGNED_STACK" Bundle.steD) && decide (w ≠ .laysStatic Bundle.tN "SUPPRESSED_SENTINEL" Bundle.listD)
def vx_at0 (own : String) (ic : Nat) (X : String) (names : List String) : List Cond := (Bundle.ownAtoms0 own ic X names).filter vx_no
def vx_atS (own : String) (ic : Nat) (X : String) (names : List String) : List Cond := (Bundle.ownAtoms own ic X names).filter vx_no
/-- a word that the tables alone decide, or a good one -/
def vx_ot (w : Cond) : Bool := w.onTables || goodWord w
theorem vx_ot_at {args a' : Array Value} {s U : State} {w : Cond} (hW : s.WarmedH U.vm) (hvm : s.vm = U.vm) (hg : vx_ot w = true) (h : w.before args s = true) : w.before a' U = true := by
  simp only [vx_ot, Bool.or_eq_true] at hg
  rcases hg with hg | hg
  · exact va_tabs hg hvm h
  · exact word_at hW (good_of_word hg) h
/-- a list's words: the good ones out of the method's own list, the others by premises of their own -/
theorem vx_hat {args : Array Value} {s : State} {L B : List Cond} (h1 : ∀ w ∈ L.filter goodWord, w.before args s = true) (h2 : ∀ w ∈ L.filter (fun w => !goodWord w), w ∈ B) (h3 : ∀ w ∈ B, w.before args s = true) : ∀ w ∈ L, w.before args s = true := by
  intro w hw
  by_cases g : goodWord w = true
  · exact h1 w (List.mem_filter.mpr ⟨hw, g⟩)
  · refine h3 w (h2 w (List.mem_filter.mpr ⟨hw, ?_⟩))
    show (!goodWord w) = true
    cases hgw : goodWord w
    · rfl
    · exact absurd hgw g
theorem vx_c {args : Array Value} {s : State} {w : Cond} {B : List Cond} (h : w.before args s = true) (t : ∀ w ∈ B, w.before args s = true) : ∀ w' ∈ w :: B, w'.before args s = true := fun w' h' => (List.mem_cons.mp h').elim (fun e => by rw [e]; exact h) (t w')
theorem vx_n {args : Array Value} {s : State} : ∀ w ∈ ([] : List Cond), w.before args s = true := fun _ h => nomatch h
theorem vx_own {args : Array Value} {s : State} {L : List Cond} (h1 : ∀ w ∈ L.filter vx_no, w.before args s = true)
    (hU : (Cond.isRef (.static Bundle.tN "UNASSIGNED_STACK" Bundle.steD)).before args s = true) (hN : (Cond.isRef (.static Bundle.tN "SUPPRESSED_SENTINEL" Bundle.listD)).before args s = true)
    (lU : (Cond.laysStatic Bundle.tN "UNASSIGNED_STACK" Bundle.steD).before args s = true) (lN : (Cond.laysStatic Bundle.tN "SUPPRESSED_SENTINEL" Bundle.listD).before args s = true) : ∀ w ∈ L, w.before args s = true := by
  intro w hw
  by_cases e1 : w = .isRef (.static Bundle.tN "UNASSIGNED_STACK" Bundle.steD)
  · rw [e1]; exact hU
  · by_cases e2 : w = .isRef (.static Bundle.tN "SUPPRESSED_SENTINEL" Bundle.listD)
    · rw [e2]; exact hN
    · by_cases e3 : w = .laysStatic Bundle.tN "UNASSIGNED_STACK" Bundle.steD
      · rw [e3]; exact lU
      · by_cases e4 : w = .laysStatic Bundle.tN "SUPPRESSED_SENTINEL" Bundle.listD
        · rw [e4]; exact lN
        · exact h1 w (List.mem_filter.mpr ⟨hw, by unfold vx_no; rw [decide_eq_true e1, decide_eq_true e2, decide_eq_true e3, decide_eq_true e4]; rfl⟩)
/-- where a static field lies, its class's statics cell in H -/
def vx_L (C n d : String) (A : Nat → Prop) (U : State) (H : Heap) : Prop := ∃ (c : ClassId) (k : Class) (i : Nat) (f : Field) (a : Nat) (cell : Cell), U.vm.findClass C = some c ∧ U.fieldFound? C n d = some (c, k, i, f) ∧ f.isStatic = true ∧ k.statics = some a ∧ H[a]? = some cell ∧ cell.vm.isStatics = true ∧ cell.cls = c ∧ f.slot < cell.slots.size ∧ k.staticTypes[f.slot]? = some f.type ∧ ¬ A a
theorem vx_L.moved {C n d : String} {A : Nat → Prop} {u U : State} {H : Heap} (hvm : u.vm.Alike U.vm) (h : vx_L C n d A u H) : vx_L C n d A U H := by
  obtain ⟨c, k, i, f, a, cell, h1, h2, h3, h4, h5, h6, h7, h8, h9, h10⟩ := h
  obtain ⟨k', hi', he⟩ := State.fieldFound?_setVm hvm h2
  exact ⟨c, k', i, f, a, cell, by rw [hvm.findClass]; exact h1, hi', h3, by rw [he]; exact h4, h5, h6, h7, h8, by rw [he]; exact h9, h10⟩
theorem vx_L.kept {C n d : String} {A : Nat → Prop} {U : State} {H H1 : Heap} (h : vx_L C n d A U H) (hq : ∀ a : Nat, a < H.size → ¬ A a → H1[a]? = H[a]?) : vx_L C n d A U H1 := by
  obtain ⟨c, k, i, f, a, cell, h1, h2, h3, h4, h5, h6, h7, h8, h9, h10⟩ := h
  exact ⟨c, k, i, f, a, cell, h1, h2, h3, h4, by rw [hq a (Array.getElem?_eq_some_iff.mp h5).1 h10]; exact h5, h6, h7, h8, h9, h10⟩
theorem vx_L.narrow {C n d : String} {A B : Nat → Prop} {U : State} {H : Heap} (h : vx_L C n d A U H) (hAB : ∀ q, B q → A q) : vx_L C n d B U H := by
  obtain ⟨c, k, i, f, a, cell, h1, h2, h3, h4, h5, h6, h7, h8, h9, h10⟩ := h
  exact ⟨c, k, i, f, a, cell, h1, h2, h3, h4, h5, h6, h7, h8, h9, fun z => h10 (hAB _ z)⟩
theorem vx_L.word {C n d : String} {A : Nat → Prop} {s : State} {args : Array Value} (h : vx_L C n d A s s.heap) : (Cond.laysStatic C n d).before args s = true := by
  obtain ⟨c, k, i, f, a, cell, h1, h2, h3, h4, h5, h6, h7, h8, h9, -⟩ := h
  show (Cond.laysStatic C n d).holds args s none s [] = true
  exact Cond.laysStatic_of h1 h2 h3 h4 h5 h6 h7 h8 h9
/-- .. and what it holds: null or some reference -/
def vx_Zq (C n d : String) (A : Nat → Prop) (U : State) (H : Heap) : Prop := va_Zq C n d A U H ∧ vx_L C n d A U H
theorem vx_Zq.moved {C n d : String} {A : Nat → Prop} {u U : State} {H : Heap} (hvm : u.vm.Alike U.vm) (h : vx_Zq C n d A u H) : vx_Zq C n d A U H := ⟨va_Zq.moved hvm h.1, vx_L.moved hvm h.2⟩
theorem vx_Zq.kept {C n d : String} {A : Nat → Prop} {U : State} {H H1 : Heap} (h : vx_Zq C n d A U H) (hq : ∀ a : Nat, a < H.size → ¬ A a → H1[a]? = H[a]?) : vx_Zq C n d A U H1 := ⟨va_Zq.kept h.1 hq, vx_L.kept h.2 hq⟩
theorem vx_Zq.narrow {C n d : String} {A B : Nat → Prop} {U : State} {H : Heap} (h : vx_Zq C n d A U H) (hAB : ∀ q, B q → A q) : vx_Zq C n d B U H := ⟨va_Zq.narrow h.1 hAB, vx_L.narrow h.2 hAB⟩
theorem vx_Zqof {args : Array Value} {s : State} {C n d : String} {A : Nat → Prop} (hl : (Cond.laysStatic C n d).before args s = true) (hini : (Cond.initialized C).before args s = true) (h : (Cond.isRef (.static C n d)).before args s = true) (hA : ∀ a : Nat, a < s.heap.size → ¬ A a) : vx_Zq C n d A s s.heap := by
  refine ⟨va_Zqof hl hini h hA, ?_⟩
  obtain ⟨c, k, i, f, a, cell, h1, h2, h3, h4, h5, h6, h7, h8, h9⟩ := Cond.laysStatic_spec hl
  exact ⟨c, k, i, f, a, cell, h1, h2, h3, h4, h5, h6, h7, h8, h9, hA a (Array.getElem?_eq_some_iff.mp h5).1⟩
theorem vx_isRef {C n d : String} {v : Value} {A : Nat → Prop} {s : State} {args : Array Value} (h : va_Z C n d v A s s.heap) (hv : v.isRef = true) : (Cond.isRef (.static C n d)).before args s = true := by
  obtain ⟨cf, kf, fi, f, a, cell, h1, h2, h3, h4, h5, h6, h7, -⟩ := h
  have he : (Term.static C n d).eval args s none [] s = some v := by
    simp [Term.eval, State.fieldNamed?, h1, h2, h4, h5, h6, h7]
  simp only [Cond.before, Cond.holds, Cond.value, he]
  cases v <;> simp_all [Value.isRef]
theorem vx_isRefq {C n d : String} {A : Nat → Prop} {s : State} {args : Array Value} (h : va_Zq C n d A s s.heap) : (Cond.isRef (.static C n d)).before args s = true := by
  rcases h with h | ⟨t, h⟩
  · exact vx_isRef h rfl
  · exact vx_isRef h rfl
/-- the same frame, seen from here: as if the method were called anew in this heap -/
theorem vx_rebase {T : State} (X : Stand p l e R s m args below meth c T locs cells slots) {R' : Room} (hf : R'.frames ≤ R.frames) (hl : R'.locals ≤ R.locals) (hc : cells + R'.cells ≤ R.cells) (hs : slots + R'.slots ≤ R.slots) :
    Stand p l e R' ((T.setVm s.vm).setFrames (.invoking m args :: below)) m args below meth c T [] 0 0 := by
  have htop : (T.setVm s.vm).topJava?.isSome := X.here.top
  have hF : ((T.setVm s.vm).setFrames (.invoking m args :: below)).frames = .invoking m args :: below := State.frames_setFrames _ (State.cur_lt_of_top htop)
  obtain ⟨g₀, hg0⟩ := Option.isSome_iff_exists.mp htop
  obtain ⟨r, hr⟩ := State.topJava?_eq_some.mp hg0
  have hl9 : e.platform.stackLimits (T.setVm s.vm).me = e.platform.stackLimits s.me := X.limits
  have hb9 : (T.setVm s.vm).me.stackBytes = s.me.stackBytes := X.bytes
  refine ⟨X.admits, X.cas, X.clock, hF, ?_, X.hears, X.method, X.code, X.here, X.tail, X.warmed, ?_, ?_, ?_⟩
  · have h := X.room
    have hU : ((T.setVm s.vm).setFrames (.invoking m args :: below)).localsInUse = s.localsInUse := by
      rw [State.localsInUse_invoking hF (meth := meth) (c := c) X.method X.code, State.localsInUse_invoking X.frames X.method X.code]
    simp only [State.hasRoom, Bool.and_eq_true, decide_eq_true_eq] at h ⊢
    obtain ⟨⟨⟨⟨h1, h2, h3, h4, h5, h6⟩, h7⟩, h8⟩, h9⟩ := h
    rw [X.frames, List.length_cons] at h2 h3
    have q1 := X.heapSize
    have q2 := X.used
    simp only [hF, hU, List.length_cons, State.stackLimits_setFrames, State.stackBytes_setFrames, hl9, hb9]
    refine ⟨⟨⟨⟨by omega, by omega, by omega, by omega, by omega, h6⟩, ?_⟩, ?_⟩, X.book⟩
    · show T.heap.size + R'.cells ≤ e.platform.maxCells
      omega
    · show T.slotsUsed + R'.slots ≤ e.platform.maxSlots
      omega
  · rw [State.stackLimits_setFrames]; rfl
  · rw [State.stackBytes_setFrames]; rfl
  · refine ⟨?_, Nat.le_refl _, Nat.le_refl _, ?_, ?_, fun a c9 h9 => ⟨c9, h9, rfl, rfl, fun _ _ => rfl⟩⟩
    · obtain ⟨t, ht, -⟩ := State.frames_cons hr
      show T.setVm s.vm = { ((T.setVm s.vm).setFrames (.invoking m args :: below)).setFrames (T.setVm s.vm).frames with heap := T.heap, slotsUsed := T.slotsUsed }
      rw [State.setFrames_setFrames, State.setFrames_self ht]
      rfl
    · show T.slotsUsed = T.slotsUsed + ((T.heap.toList.drop T.heap.size).map (·.slots.size)).sum
      rw [List.drop_eq_nil_of_le (Nat.le_of_eq Array.length_toList)]
      rfl
    · show ((T.heap.toList.drop T.heap.size).map (·.slots.size)).sum ≤ 0
      rw [List.drop_eq_nil_of_le (Nat.le_of_eq Array.length_toList)]
      exact Nat.le_refl _
/-- 'throw new E()': new; dup; invokespecial; athrow -/
theorem vx_throw0 {cc : ByteArray} {pc : Nat} (hexec : p.tables.exec = Jvm.exec) (hb : c.code = cc) (hl : l.stackTraces = false) {own cls : String} {names : List String} {ik ic mc ms : Nat} {A : Nat → Prop}
    (hown : s.vm.findClass own = some m.cls) (hcls : Bundle.fit cls = true) (hnames : ∀ n ∈ names, Bundle.fit n = true)
    (hk : (Cond.classLink own ik cls).before args s = true) (hini : (Cond.initialized cls).before args s = true) (hat : ∀ w ∈ vx_at0 own ic cls names, w.before args s = true)
    (hgood : ∀ w ∈ Cond.classLink own ik cls :: Cond.initialized cls :: vx_at0 own ic cls names, vx_ot w = true)
    (hU : vx_Zq Bundle.tN "UNASSIGNED_STACK" Bundle.steD A s s.heap) (hN : vx_Zq Bundle.tN "SUPPRESSED_SENTINEL" Bundle.listD A s s.heap) (hS : va_S A s.heap H locs) (hsize : ls.size = c.maxLocals)
    (d0 : decode cc pc = .ok (.new ik, 3)) (d3 : decode cc (pc + 3) = .ok (.dup, 1)) (d4 : decode cc (pc + 4) = .ok (.invokespecial ic, 3)) (d7 : decode cc (pc + 7) = .ok (.athrow, 1))
    (hout : ∀ x ∈ c.exceptionTable.toList, covers x (pc + 7) = false)
    (hRframes : names.length + 3 < R.frames) (hRlocals : (rest.map fun v => v.category).sum + (13 * (names.length + 1) + 42) ≤ R.locals) (hRcells : cells + 1 ≤ R.cells) (hRslots : slots + 6 ≤ R.slots) (hlocks : meth.locks = false)
    (hx : ∀ t : State, s.vm.Alike t.vm → H.size ≤ t.heap.size → (∀ q : Nat, q < H.size → t.heap[q]? = H[q]?) → XC cls s t)
    (hf : ∀ z ∈ locs, free z.base) (hc : cells + 1 ≤ mc) (hs : slots + 6 ≤ ms) :
    W p l e R s m args below meth c H locs cells slots (vx_MQ below Qc XC args s mc ms free) (F0 m pc ls rest) := by
  intro T hT X
  have htr : e.platform.stackTraces = false := (show e.platform.stackTraces = l.stackTraces by rw [X.admits.platform]).trans hl
  have Y := vx_rebase X (R' := { frames := R.frames, locals := R.locals, cells := 1, slots := 6 }) (Nat.le_refl _) (Nat.le_refl _) hRcells hRslots
  obtain ⟨s', hA⟩ : ∃ z, z = (T.setVm s.vm).setFrames (.invoking m args :: below) := ⟨_, rfl⟩
  rw [← hA] at Y
  have hvm : s'.vm = s.vm := by rw [hA]; rfl
  have hhp : s'.heap = H := by rw [hA]; exact hT
  have hW0 : s.WarmedH s'.vm := by rw [hvm]; exact State.WarmedH.refl s
  have hat' : ∀ w ∈ vx_at0 own ic cls names, w.before args s' = true := fun w hw => vx_ot_at hW0 hvm.symm (hgood w (List.mem_cons_of_mem _ (List.mem_cons_of_mem _ hw))) (hat w hw)
  have hk' : (Cond.classLink own ik cls).before args s' = true := vx_ot_at hW0 hvm.symm (hgood _ List.mem_cons_self) hk
  have hini' : (Cond.initialized cls).before args s' = true := vx_ot_at hW0 hvm.symm (hgood _ (List.mem_cons_of_mem _ List.mem_cons_self)) hini
  have hU' : vx_Zq Bundle.tN "UNASSIGNED_STACK" Bundle.steD A s' s'.heap := by rw [hhp]; exact vx_Zq.moved hW0.alike (hU.kept hS.2.1)
  have hN' : vx_Zq Bundle.tN "SUPPRESSED_SENTINEL" Bundle.listD A s' s'.heap := by rw [hhp]; exact vx_Zq.moved hW0.alike (hN.kept hS.2.1)
  have h : ∀ w ∈ Bundle.ownAtoms0 own ic cls names, w.before args s' = true := vx_own hat' (vx_isRefq hU'.1) (vx_isRefq hN'.1) hU'.2.word hN'.2.word
  have hown' : s'.vm.findClass own = some m.cls := by rw [hvm]; exact hown
  have hins : (Cond.instantiable cls 6).before args s' = true := h _ (by simp [Bundle.ownAtoms0])
  obtain ⟨vm₁, cX, kX, hfX, hkX, -, -, X₁, st1⟩ := Y.newCold hexec (own := own) (C := cls) (index := ik) (n := 6) hown' hk' hins hini'
    (g := F0 m pc ls rest) rfl (by rw [hb]; exact d0) (Nat.le_refl _) (Nat.le_refl _)
  generalize hT1 : (T.setVm vm₁).pushCell { cls := cX, slots := kX.instanceTypes.map defaultValue, vm := .none } = T1 at X₁ st1
  have hcat : (Value.ref T.heap.size).category = 1 := rfl
  have hcellA : T1.heap[T.heap.size]? = some (freshCell cX kX) := by rw [← hT1]; exact State.heap_pushCell_size _ _
  have d3' : decode c.code (pc + 3) = .ok (.dup, 1) := by rw [hb]; exact d3
  obtain ⟨U, hsteps, hrun, hend, hW, hsame, ce, hce, hO⟩ := X₁.ctorThrow0 hexec htr (own := own) (cls := cls) (names := names) (ic := ic) hown' hcls hnames h (fun x hx => nomatch hx) hfX hkX hcellA (by rw [hhp, hT]; exact Nat.le_refl _)
    (g := { method := m, pc := pc + 4, locals := ls, stack := .ref T.heap.size :: .ref T.heap.size :: rest, locked := none }) rfl hsize rfl rfl (rest := rest) rfl
    (by rw [hb]; exact d4) (by rw [hb]; exact d7) hout hRframes (by simp only [List.map_cons, List.sum_cons, hcat]; omega) hlocks
  obtain ⟨f1, f2⟩ := vx_frame hsame
  rw [hhp] at f1 f2
  have hWs : s.WarmedH U.vm := State.WarmedH.trans hW0 hW
  have hcl : s.vm.findClass cls = some ce.cls := by
    have h9 := hO.cls
    rw [hvm] at h9
    exact h9
  have hall : s.sameButNew ({ U with vm := s.vm } : State) locs mc ms := by
    subst hA
    obtain ⟨e1, e2⟩ := hsame
    rw [State.setFrames_setFrames] at e1
    have h2 : (T.setVm s.vm).sameButNew ({ U with vm := s.vm } : State) [] (0 + 1) (0 + 6) := ⟨e1, e2⟩
    have h3 := X.same.trans h2
    rw [List.append_nil] at h3
    exact h3.mono hc hs
  refine ⟨U, ?_, .threw T.heap.size, hrun, hend, Or.inr ⟨T.heap.size, rfl, cls, ce, locs, hx U hWs.alike f1 (fun q hq => f2 q hq (fun z hz => nomatch hz)), hce, hO.vm, hcl, hWs, hall, hf⟩⟩
  refine st1 _ ?_
  show Steps p.tables e below (T1.setTop { method := m, pc := pc + 3, locals := ls, stack := .ref T.heap.size :: rest, locked := none }) _
  jvm_step X₁.here [X₁.here.top, hexec, d3', Value.category]
  exact hsteps
/-- 'throw new E("text")': new; dup; ldc; invokespecial; athrow -/
theorem vx_throwS {cc : ByteArray} {pc : Nat} (hexec : p.tables.exec = Jvm.exec) (hb : c.code = cc) (hl : l.stackTraces = false) {own cls text : String} {names : List String} {ik is ic mc ms sa : Nat} {A : Nat → Prop}
    (hown : s.vm.findClass own = some m.cls) (hcls : Bundle.fit cls = true) (hnames : ∀ n ∈ names, Bundle.fit n = true)
    (hk : (Cond.classLink own ik cls).before args s = true) (hini : (Cond.initialized cls).before args s = true) (hstr : vk_R own is text sa s) (hat : ∀ w ∈ vx_atS own ic cls names, w.before args s = true)
    (hgood : ∀ w ∈ Cond.classLink own ik cls :: Cond.initialized cls :: vx_atS own ic cls names, vx_ot w = true)
    (hU : vx_Zq Bundle.tN "UNASSIGNED_STACK" Bundle.steD A s s.heap) (hN : vx_Zq Bundle.tN "SUPPRESSED_SENTINEL" Bundle.listD A s s.heap) (hS : va_S A s.heap H locs) (hsize : ls.size = c.maxLocals)
    (d0 : decode cc pc = .ok (.new ik, 3)) (d3 : decode cc (pc + 3) = .ok (.dup, 1)) (d4 : decode cc (pc + 4) = .ok (.ldc is, 2)) (d6 : decode cc (pc + 6) = .ok (.invokespecial ic, 3)) (d9 : decode cc (pc + 9) = .ok (.athrow, 1))
    (hout : ∀ x ∈ c.exceptionTable.toList, covers x (pc + 9) = false)
    (hRframes : names.length + 3 < R.frames) (hRlocals : (rest.map fun v => v.category).sum + (13 * (names.length + 1) + 43) ≤ R.locals) (hRcells : cells + 1 ≤ R.cells) (hRslots : slots + 6 ≤ R.slots) (hlocks : meth.locks = false)
    (hx : ∀ t : State, s.vm.Alike t.vm → H.size ≤ t.heap.size → (∀ q : Nat, q < H.size → t.heap[q]? = H[q]?) → XC cls s t)
    (hf : ∀ z ∈ locs, free z.base) (hc : cells + 1 ≤ mc) (hs : slots + 6 ≤ ms) :
    W p l e R s m args below meth c H locs cells slots (vx_MQ below Qc XC args s mc ms free) (F0 m pc ls rest) := by
  intro T hT X
  have htr : e.platform.stackTraces = false := (show e.platform.stackTraces = l.stackTraces by rw [X.admits.platform]).trans hl
  have Y := vx_rebase X (R' := { frames := R.frames, locals := R.locals, cells := 1, slots := 6 }) (Nat.le_refl _) (Nat.le_refl _) hRcells hRslots
  obtain ⟨s', hA⟩ : ∃ z, z = (T.setVm s.vm).setFrames (.invoking m args :: below) := ⟨_, rfl⟩
  rw [← hA] at Y
  have hvm : s'.vm = s.vm := by rw [hA]; rfl
  have hhp : s'.heap = H := by rw [hA]; exact hT
  have hW0 : s.WarmedH s'.vm := by rw [hvm]; exact State.WarmedH.refl s
  have hat' : ∀ w ∈ vx_atS own ic cls names, w.before args s' = true := fun w hw => vx_ot_at hW0 hvm.symm (hgood w (List.mem_cons_of_mem _ (List.mem_cons_of_mem _ hw))) (hat w hw)
  have hk' : (Cond.classLink own ik cls).before args s' = true := vx_ot_at hW0 hvm.symm (hgood _ List.mem_cons_self) hk
  have hini' : (Cond.initialized cls).before args s' = true := vx_ot_at hW0 hvm.symm (hgood _ (List.mem_cons_of_mem _ List.mem_cons_self)) hini
  have hU' : vx_Zq Bundle.tN "UNASSIGNED_STACK" Bundle.steD A s' s'.heap := by rw [hhp]; exact vx_Zq.moved hW0.alike (hU.kept hS.2.1)
  have hN' : vx_Zq Bundle.tN "SUPPRESSED_SENTINEL" Bundle.listD A s' s'.heap := by rw [hhp]; exact vx_Zq.moved hW0.alike (hN.kept hS.2.1)
  have h : ∀ w ∈ Bundle.ownAtoms own ic cls names, w.before args s' = true := vx_own hat' (vx_isRefq hU'.1) (vx_isRefq hN'.1) hU'.2.word hN'.2.word
  have hown' : s'.vm.findClass own = some m.cls := by rw [hvm]; exact hown
  have hins : (Cond.instantiable cls 6).before args s' = true := h _ (by simp [Bundle.ownAtoms])
  obtain ⟨vm₁, cX, kX, hfX, hkX, -, -, X₁, st1⟩ := Y.newCold hexec (own := own) (C := cls) (index := ik) (n := 6) hown' hk' hins hini'
    (g := F0 m pc ls rest) rfl (by rw [hb]; exact d0) (Nat.le_refl _) (Nat.le_refl _)
  generalize hT1 : (T.setVm vm₁).pushCell { cls := cX, slots := kX.instanceTypes.map defaultValue, vm := .none } = T1 at X₁ st1
  have hcat : (Value.ref T.heap.size).category = 1 := rfl
  have hcellA : T1.heap[T.heap.size]? = some (freshCell cX kX) := by rw [← hT1]; exact State.heap_pushCell_size _ _
  have d3' : decode c.code (pc + 3) = .ok (.dup, 1) := by rw [hb]; exact d3
  have d4' : decode c.code (pc + 4) = .ok (.ldc is, 2) := by rw [hb]; exact d4
  have hstr' : vk_R own is text sa s' := vk_R.warm hW0 hstr
  obtain ⟨U, hsteps, hrun, hend, hW, hsame, ce, hce, hO⟩ := X₁.ctorThrowS hexec htr (own := own) (cls := cls) (names := names) (ic := ic) hown' hcls hnames h (fun x hx => nomatch hx) hfX hkX hcellA (by rw [hhp, hT]; exact Nat.le_refl _) (msg := .ref sa) rfl
    (g := { method := m, pc := pc + 6, locals := ls, stack := .ref sa :: .ref T.heap.size :: .ref T.heap.size :: rest, locked := none }) rfl hsize rfl rfl (rest := rest) rfl
    (by rw [hb]; exact d6) (by rw [hb]; exact d9) hout hRframes (by simp only [List.map_cons, List.sum_cons, hcat]; omega) hlocks
  obtain ⟨f1, f2⟩ := vx_frame hsame
  rw [hhp] at f1 f2
  have hWs : s.WarmedH U.vm := State.WarmedH.trans hW0 hW
  have hcl : s.vm.findClass cls = some ce.cls := by
    have h9 := hO.cls
    rw [hvm] at h9
    exact h9
  have hall : s.sameButNew ({ U with vm := s.vm } : State) locs mc ms := by
    subst hA
    obtain ⟨e1, e2⟩ := hsame
    rw [State.setFrames_setFrames] at e1
    have h2 : (T.setVm s.vm).sameButNew ({ U with vm := s.vm } : State) [] (0 + 1) (0 + 6) := ⟨e1, e2⟩
    have h3 := X.same.trans h2
    rw [List.append_nil] at h3
    exact h3.mono hc hs
  refine ⟨U, ?_, .threw T.heap.size, hrun, hend, Or.inr ⟨T.heap.size, rfl, cls, ce, locs, hx U hWs.alike f1 (fun q hq => f2 q hq (fun z hz => nomatch hz)), hce, hO.vm, hcl, hWs, hall, hf⟩⟩
  refine st1 _ ?_
  show Steps p.tables e below (T1.setTop { method := m, pc := pc + 3, locals := ls, stack := .ref T.heap.size :: rest, locked := none }) _
  jvm_step X₁.here [X₁.here.top, hexec, d3', Value.category]
  exact X₁.ldcString hexec (own := own) (text := text) (index := is) (a := sa) hown' hstr'.1 hstr'.2
    (g := { method := m, pc := pc + 4, locals := ls, stack := .ref T.heap.size :: .ref T.heap.size :: rest, locked := none }) rfl d4' _ hsteps
/-- 'throw new E("text")', the text by a wide index -/
theorem vx_throwSW {cc : ByteArray} {pc : Nat} (hexec : p.tables.exec = Jvm.exec) (hb : c.code = cc) (hl : l.stackTraces = false) {own cls text : String} {names : List String} {ik is ic mc ms sa : Nat} {A : Nat → Prop}
    (hown : s.vm.findClass own = some m.cls) (hcls : Bundle.fit cls = true) (hnames : ∀ n ∈ names, Bundle.fit n = true)
    (hk : (Cond.classLink own ik cls).before args s = true) (hini : (Cond.initialized cls).before args s = true) (hstr : vk_R own is text sa s) (hat : ∀ w ∈ vx_atS own ic cls names, w.before args s = true)
    (hgood : ∀ w ∈ Cond.classLink own ik cls :: Cond.initialized cls :: vx_atS own ic cls names, vx_ot w = true)
    (hU : vx_Zq Bundle.tN "UNASSIGNED_STACK" Bundle.steD A s s.heap) (hN : vx_Zq Bundle.tN "SUPPRESSED_SENTINEL" Bundle.listD A s s.heap) (hS : va_S A s.heap H locs) (hsize : ls.size = c.maxLocals)
    (d0 : decode cc pc = .ok (.new ik, 3)) (d3 : decode cc (pc + 3) = .ok (.dup, 1)) (d4 : decode cc (pc + 4) = .ok (.ldc_w is, 3)) (d7 : decode cc (pc + 7) = .ok (.invokespecial ic, 3)) (d10 : decode cc (pc + 10) = .ok (.athrow, 1))
    (hout : ∀ x ∈ c.exceptionTable.toList, covers x (pc + 10) = false)
    (hRframes : names.length + 3 < R.frames) (hRlocals : (rest.map fun v => v.category).sum + (13 * (names.length + 1) + 43) ≤ R.locals) (hRcells : cells + 1 ≤ R.cells) (hRslots : slots + 6 ≤ R.slots) (hlocks : meth.locks = false)
    (hx : ∀ t : State, s.vm.Alike t.vm → H.size ≤ t.heap.size → (∀ q : Nat, q < H.size → t.heap[q]? = H[q]?) → XC cls s t)
    (hf : ∀ z ∈ locs, free z.base) (hc : cells + 1 ≤ mc) (hs : slots + 6 ≤ ms) :
    W p l e R s m args below meth c H locs cells slots (vx_MQ below Qc XC args s mc ms free) (F0 m pc ls rest) := by
  intro T hT X
  have htr : e.platform.stackTraces = false := (show e.platform.stackTraces = l.stackTraces by rw [X.admits.platform]).trans hl
  have Y := vx_rebase X (R' := { frames := R.frames, locals := R.locals, cells := 1, slots := 6 }) (Nat.le_refl _) (Nat.le_refl _) hRcells hRslots
  obtain ⟨s', hA⟩ : ∃ z, z = (T.setVm s.vm).setFrames (.invoking m args :: below) := ⟨_, rfl⟩
  rw [← hA] at Y
  have hvm : s'.vm = s.vm := by rw [hA]; rfl
  have hhp : s'.heap = H := by rw [hA]; exact hT
  have hW0 : s.WarmedH s'.vm := by rw [hvm]; exact State.WarmedH.refl s
  have hat' : ∀ w ∈ vx_atS own ic cls names, w.before args s' = true := fun w hw => vx_ot_at hW0 hvm.symm (hgood w (List.mem_cons_of_mem _ (List.mem_cons_of_mem _ hw))) (hat w hw)
  have hk' : (Cond.classLink own ik cls).before args s' = true := vx_ot_at hW0 hvm.symm (hgood _ List.mem_cons_self) hk
  have hini' : (Cond.initialized cls).before args s' = true := vx_ot_at hW0 hvm.symm (hgood _ (List.mem_cons_of_mem _ List.mem_cons_self)) hini
  have hU' : vx_Zq Bundle.tN "UNASSIGNED_STACK" Bundle.steD A s' s'.heap := by rw [hhp]; exact vx_Zq.moved hW0.alike (hU.kept hS.2.1)
  have hN' : vx_Zq Bundle.tN "SUPPRESSED_SENTINEL" Bundle.listD A s' s'.heap := by rw [hhp]; exact vx_Zq.moved hW0.alike (hN.kept hS.2.1)
  have h : ∀ w ∈ Bundle.ownAtoms own ic cls names, w.before args s' = true := vx_own hat' (vx_isRefq hU'.1) (vx_isRefq hN'.1) hU'.2.word hN'.2.word
  have hown' : s'.vm.findClass own = some m.cls := by rw [hvm]; exact hown
  have hins : (Cond.instantiable cls 6).before args s' = true := h _ (by simp [Bundle.ownAtoms])
  obtain ⟨vm₁, cX, kX, hfX, hkX, -, -, X₁, st1⟩ := Y.newCold hexec (own := own) (C := cls) (index := ik) (n := 6) hown' hk' hins hini'
    (g := F0 m pc ls rest) rfl (by rw [hb]; exact d0) (Nat.le_refl _) (Nat.le_refl _)
  generalize hT1 : (T.setVm vm₁).pushCell { cls := cX, slots := kX.instanceTypes.map defaultValue, vm := .none } = T1 at X₁ st1
  have hcat : (Value.ref T.heap.size).category = 1 := rfl
  have hcellA : T1.heap[T.heap.size]? = some (freshCell cX kX) := by rw [← hT1]; exact State.heap_pushCell_size _ _
  have d3' : decode c.code (pc + 3) = .ok (.dup, 1) := by rw [hb]; exact d3
  have d4' : decode c.code (pc + 4) = .ok (.ldc_w is, 3) := by rw [hb]; exact d4
  have hstr' : vk_R own is text sa s' := vk_R.warm hW0 hstr
  obtain ⟨U, hsteps, hrun, hend, hW, hsame, ce, hce, hO⟩ := X₁.ctorThrowS hexec htr (own := own) (cls := cls) (names := names) (ic := ic) hown' hcls hnames h (fun x hx => nomatch hx) hfX hkX hcellA (by rw [hhp, hT]; exact Nat.le_refl _) (msg := .ref sa) rfl
    (g := { method := m, pc := pc + 7, locals := ls, stack := .ref sa :: .ref T.heap.size :: .ref T.heap.size :: rest, locked := none }) rfl hsize rfl rfl (rest := rest) rfl
    (by rw [hb]; exact d7) (by rw [hb]; exact d10) hout hRframes (by simp only [List.map_cons, List.sum_cons, hcat]; omega) hlocks
  obtain ⟨f1, f2⟩ := vx_frame hsame
  rw [hhp] at f1 f2
  have hWs : s.WarmedH U.vm := State.WarmedH.trans hW0 hW
  have hcl : s.vm.findClass cls = some ce.cls := by
    have h9 := hO.cls
    rw [hvm] at h9
    exact h9
  have hall : s.sameButNew ({ U with vm := s.vm } : State) locs mc ms := by
    subst hA
    obtain ⟨e1, e2⟩ := hsame
    rw [State.setFrames_setFrames] at e1
    have h2 : (T.setVm s.vm).sameButNew ({ U with vm := s.vm } : State) [] (0 + 1) (0 + 6) := ⟨e1, e2⟩
    have h3 := X.same.trans h2
    rw [List.append_nil] at h3
    exact h3.mono hc hs
  refine ⟨U, ?_, .threw T.heap.size, hrun, hend, Or.inr ⟨T.heap.size, rfl, cls, ce, locs, hx U hWs.alike f1 (fun q hq => f2 q hq (fun z hz => nomatch hz)), hce, hO.vm, hcl, hWs, hall, hf⟩⟩
  refine st1 _ ?_
  show Steps p.tables e below (T1.setTop { method := m, pc := pc + 3, locals := ls, stack := .ref T.heap.size :: rest, locked := none }) _
  jvm_step X₁.here [X₁.here.top, hexec, d3', Value.category]
  exact X₁.ldcStringW hexec (own := own) (text := text) (index := is) (a := sa) hown' hstr'.1 hstr'.2
    (g := { method := m, pc := pc + 4, locals := ls, stack := .ref T.heap.size :: .ref T.heap.size :: rest, locked := none }) rfl d4' _ hsteps
end Ends
section Bodies
variable {l : Launch}
theorem vx_ofW {y : MethodName} {ws ws' : List Cond} {rm : Room} {Pc : Array Value → State → Prop} {Qc : Array Value → State → Outcome → State → Prop} {XC : String → State → State → Prop} {mc ms : Nat} {free : Addr → Prop} {cc : ByteArray} {maxL : Nat} {ret : Option FieldType}
    (hy : plainName y.cls = true) (hw : ws = Cond.code y cc maxL ret :: ws')
    (body : ∀ p e s m args below meth c s₁, BodyLoose p l y (headSpec ws rm) cc maxL ret e s m args below meth c s₁ → c.maxLocals = maxL → (∀ x ∈ c.exceptionTable.toList, False) → Pc args s →
      W p l e (headSpec ws rm).room s m args below meth c s.heap [] 0 0 (vx_MQ below Qc XC args s mc ms free) (entryFrame m args maxL)) : vx_Met l y ws rm Pc Qc XC mc ms free := by
  refine MetFree.of_bodyS (code := cc) (maxLocals := maxL) (ret := ret) hy ?_ ?_
  · intro args s m h hn
    obtain ⟨meth, c, h1, h2, h3, h4, h5, h6, -, -⟩ := Cond.code_spec hn (atoms_spec (ws := ws) h _ (by rw [hw]; exact List.mem_cons_self))
    exact ⟨meth, c, h1, h2, h3, h4, h5, h6⟩
  · intro p e s m args below meth c s₁ B hml hP _
    have hh0 : s₁.heap = s.heap := by rw [B.state]; rfl
    have ht : ∀ x ∈ c.exceptionTable.toList, False := by
      obtain ⟨meth9, c9, h1, h2, -, -, -, -, h7, -⟩ := Cond.code_spec B.named (atoms_spec (ws := ws) B.pre _ (by rw [hw]; exact List.mem_cons_self))
      cases Option.some.inj (h1.symm.trans B.method)
      cases Option.some.inj (h2.symm.trans (Stand.of_body B).code)
      intro x hx
      rw [Array.isEmpty_iff.mp h7] at hx
      cases hx
    obtain ⟨t, a1, o, b1, b2, b3⟩ := body p e s m args below meth c s₁ B hml ht hP s₁ hh0 (Stand.of_body B)
    exact ⟨t, o, a1, b1, b2, b3⟩
/-- the table of a body with handlers -/
theorem vx_table {p : Program} {x y : MethodName} {S : Spec} {cc bytes : ByteArray} {maxL maxL' : Nat} {ret ret' : Option FieldType} {e : Env} {s s₁ : State} {m : MethodId} {args : Array Value} {below : List Frame} {meth : Method} {c : Code} {hh : List (Nat × Nat × Nat × Nat)}
    (B : BodyLoose p l y S cc maxL ret e s m args below meth c s₁) (h : (Cond.codeWith y bytes maxL' ret' hh).before args s = true) : c.exceptionTable.toList = tableOf hh := by
  obtain ⟨m9, meth9, c9, hn9, h1, h2, -, -, h6, -⟩ := Cond.codeWith_spec h
  cases Option.some.inj (hn9.symm.trans B.named)
  cases Option.some.inj (h1.symm.trans B.method)
  cases Option.some.inj (h2.symm.trans (Stand.of_body B).code)
  rw [← h6, table_eq]
end Bodies
end VXA
/-! ===== END ===== -/
/-! ===== BEGIN a static call of a method with an exception table ===== -/
section VXS
variable {p : Program} {l : Launch} {e : Env} {R : Room} {s : State} {m : MethodId} {args : Array Value} {below : List Frame} {meth : Method} {c : Code} {T : State} {H : Heap} {locs : List Loc} {cells slots : Nat}
abbrev vx_CSW (R : Room) (s : State) (args : Array Value) (own : String) (index : Nat) (y : MethodName) (bytes : ByteArray) (maxL : Nat) (ret : Option FieldType) (hh : List (Nat × Nat × Nat × Nat)) (ws : List Cond) (rm : Room) (mc ms n : Nat) : Prop :=
  (rm.cells = mc ∧ rm.slots = ms ∧ rm.frames + 1 ≤ R.frames ∧ 8 + (maxL + 11) + rm.locals ≤ R.locals ∧ (∀ w ∈ ws, ∀ (a' : Array Value) (U : State), s.WarmedH U.vm → w.before a' U = true) ∧ Cond.codeWith y bytes maxL ret hh ∈ ws) ∧
  (Cond.codeWith y bytes maxL ret hh).before args s = true ∧ (Cond.initialized y.cls).before args s = true ∧ (y.cls ≠ "java/lang/invoke/MethodHandle" ∧ y.cls ≠ "java/lang/invoke/VarHandle") ∧
  (∀ sig, parseMethodDescriptor y.desc = some sig → n = sig.parameters.length) ∧ (Cond.methodLink own index y).before args s = true ∧ (Cond.static y).before args s = true
theorem vx_cwSW {own : String} {index maxL mc ms : Nat} {y : MethodName} {bytes : ByteArray} {ret : Option FieldType} {hh : List (Nat × Nat × Nat × Nat)} {Ts ws ws' : List Cond} {rm : Room} (n : Nat) (ht : ∀ w ∈ Ts, w.before args s = true) (hT : GoodIn Ts (va_wsS own index y ws)) (hw : ws = Cond.codeWith y bytes maxL ret hh :: ws') (hrc : rm.cells = mc) (hrs : rm.slots = ms)
    (hd : y.cls ≠ "java/lang/invoke/MethodHandle" ∧ y.cls ≠ "java/lang/invoke/VarHandle" ∧ (parseMethodDescriptor y.desc).map (fun d => d.parameters.length) = some n) (hR : rm.frames + 1 ≤ R.frames ∧ 8 + (maxL + 11) + rm.locals ≤ R.locals) :
    vx_CSW R s args own index y bytes maxL ret hh ws rm mc ms n := by
  have ok : ∀ w ∈ va_wsS own index y ws, w.before args s = true := fun w h => ht w (hT w h).1
  have hG : GoodIn Ts ws := fun w h => hT w (by unfold va_wsS; exact List.mem_append_right _ h)
  have hc : Cond.codeWith y bytes maxL ret hh ∈ ws := by rw [hw]; exact List.mem_cons_self
  refine ⟨⟨hrc, hrs, hR.1, hR.2, pay_in ht hG, hc⟩, ht _ (hG _ hc).1, ok _ (by simp [va_wsS]), ⟨hd.1, hd.2.1⟩, fun sig h => ?_, ok _ (by simp [va_wsS]), ok _ (by simp [va_wsS])⟩
  have h2 := hd.2.2
  rw [h] at h2
  exact (Option.some.inj h2).symm
theorem vx_callSW (X : Stand p l e R s m args below meth c T locs cells slots) (hexec : p.tables.exec = Jvm.exec) {own : String} {index : Nat} {y : MethodName} {bytes : ByteArray} {maxL : Nat} {ret : Option FieldType} {hh : List (Nat × Nat × Nat × Nat)}
    (hown : s.vm.findClass own = some m.cls) (hlink : (Cond.methodLink own index y).before args s = true) (hstat : (Cond.static y).before args s = true) (hinit : (Cond.initialized y.cls).before args s = true)
    (hcode : (Cond.codeWith y bytes maxL ret hh).before args s = true) (hy : y.cls ≠ "java/lang/invoke/MethodHandle" ∧ y.cls ≠ "java/lang/invoke/VarHandle")
    {W9 : Nat} {Pre : Pt → Array Value → Prop} {Post : Pt → Array Value → Option Value → Pt → Prop} (hK : Back l R p e below s args y 3 W9 Pre Post)
    {g : JFrame} (hg : g.method = m) (hsize : g.locals.size = c.maxLocals) {argsL rest : List Value} (hlen : ∀ sig, parseMethodDescriptor y.desc = some sig → argsL.length = sig.parameters.length)
    (hstack : g.stack = argsL.reverse ++ rest) (hW : 2 * g.monitorRoom + (rest.map fun v => v.category).sum ≤ W9) (hdg : decode c.code g.pc = .ok (.invokestatic index, 3))
    (hpre : ∀ vm₁, s.WarmedH vm₁ → Pre ⟨T.setVm vm₁, locs, cells, slots⟩ argsL.toArray) :
    ∃ (v : Option Value) (vm₁ : Vm) (B : Pt), s.WarmedH vm₁ ∧ Stand p l e R s m args below meth c B.U B.locs B.cells B.slots ∧ Post ⟨T.setVm vm₁, locs, cells, slots⟩ argsL.toArray v B ∧
      ∀ target, Steps p.tables e below (B.U.setTop { g with pc := g.pc + 3, stack := v.toList ++ rest }) target → Steps p.tables e below (T.setTop g) target := by
  obtain ⟨mk, methM, cM, hnamed, hmethM, -, -, -, -, -, -, hsigM⟩ := Cond.codeWith_spec hcode
  have hstatic : methM.isStatic = true := Cond.static_spec hnamed hmethM hstat
  obtain ⟨kP, hkP, -⟩ := className_of_methodNamed hnamed
  have hinitP : kP.init = .initialized := Cond.initialized_spec (findClass_of_methodNamed hnamed) hkP hinit
  obtain ⟨vm₁, X₁, hstep₁⟩ := X.invokestatic hexec hown hlink hnamed hmethM hstatic hkP hinitP hy (g := g) hg (argsL := argsL) (rest := rest) (hlen _ hsigM) hstack hdg
  obtain ⟨v, B, X', hpost, hsteps⟩ := hK m meth c ⟨T.setVm vm₁, locs, cells, slots⟩ { g with stack := rest } (.invokestatic index) mk argsL.toArray X₁ hg hsize hdg hW (X₁.named hnamed) (hpre vm₁ X₁.warmed)
  exact ⟨v, vm₁, B, X₁.warmed, X', hpost, fun target h => hstep₁ _ fun acts => by rw [doInvoke_state]; exact hsteps.trans h⟩
theorem vx_runSW {y : MethodName} {bytes cc : ByteArray} {maxL nL mc ms n index : Nat} {ret : Option FieldType} {hh : List (Nat × Nat × Nat × Nat)} {ws : List Cond} {rm : Room} {Pc : Array Value → State → Prop} {Qc : Array Value → State → Outcome → State → Prop} {free : Addr → Prop} {Ts : List Cond} {own : String} {As rest : List Value} {g : JFrame}
    (S : CallFix p m c cc nL s args Ts own) (hM : Met l y ws rm Pc Qc mc ms free) (cw : vx_CSW R s args own index y bytes maxL ret hh ws rm mc ms n) (hp : PreS s H Pc As)
    (hg : g.method = m) (hn : As.length = n) (hsize : g.locals.size = nL) (hstack : g.stack = As.reverse ++ rest) (hW : 2 * g.monitorRoom + (rest.map fun v => v.category).sum ≤ 8) (hdg : decode cc g.pc = .ok (.invokestatic index, 3)) (hf : cells + mc ≤ R.cells ∧ slots + ms ≤ R.slots) :
    va_Run p l e R s m args below meth c H locs cells slots mc ms g rest (Qc As.toArray) (free) := by
  obtain ⟨⟨hrc, hrs, hfr, hlo, hws, hcw⟩, hcode, hini, hy, hlen, hl, hstt⟩ := cw
  have hK : Back l R p e below s args y 3 8 (PreOf R mc ms Pc) (PostOf Qc mc ms free) := va_backW (hh := hh) (bytes := bytes) (maxL := maxL) (ret := ret) hM hp.1 hrc hrs hfr hlo hws hcw (fun a' U hW => word_at hW (Or.inl (by first | rfl | simp [Cond.onTables, Cond.keeps, Cond.steady])) hini)
  obtain ⟨hx, hb, hml, ho, -⟩ := S
  intro T hT X
  obtain ⟨v, vm₁, ⟨U', l2, c2, s2⟩, hW₁, X', ⟨g', mk, t, L, e1, e2, hq, h1, hL, h2, h3⟩, st⟩ := vx_callSW X hx (hh := hh) (bytes := bytes) (maxL := maxL) (ret := ret) ho hl hstt hini hcode hy hK hg (hsize.trans hml.symm) (argsL := As) (rest := rest) (fun sig h => hn.trans (hlen sig h)) hstack hW (by rw [hb]; exact hdg)
    (fun vm₁ hW₁ => ⟨hf.1, hf.2, hp.2 (T.setVm vm₁) hT hW₁⟩)
  dsimp only [Pt.U, Pt.locs, Pt.cells, Pt.slots] at X' e1 e2 h1 h2 h3 st
  subst h1; subst h2; subst h3
  exact ⟨v, (T.setVm vm₁).calling g' mk As.toArray, t, U', L, hT, X', hL, e1, e2, hq, st⟩
/-- not caught here, past rows that name other classes: it goes on to the caller -/
theorem vx_outP {p : Program} {l : Launch} {e : Env} {R : Room} {s : State} {m : MethodId} {args : Array Value} {below : List Frame} {meth : Method} {c : Code} {H : Heap} {locs : List Loc} {cells slots : Nat} {free : Addr → Prop} {ls : Array Slot} {rest : List Value} {Qc : Array Value → State → Outcome → State → Prop} {XC : String → State → State → Prop}
    {pc : Nat} {own E : String} {ce : Cell} {q : Addr} {mc ms : Nat} (hown : s.vm.findClass own = some m.cls) (hlocks : meth.locks = false)
    (hpass : ∀ z ∈ c.exceptionTable.toList, covers z pc = false ∨ (z.catchType ≠ 0 ∧ ∃ nm : String, (Cond.classLink own z.catchType nm).before args s = true ∧ va_Nc E nm s)) (hcell : H[q]? = some ce) (hv : ce.vm = .none) (hcl : s.vm.findClass E = some ce.cls)
    (hx : ∀ t : State, t.heap = H → s.vm.Alike t.vm → XC E s t) (hf : ∀ z ∈ locs, free z.base) (hc : cells ≤ mc) (hs : slots ≤ ms) :
    vx_W p l e R s m args below meth c H locs cells slots (vx_MQ below Qc XC args s mc ms free) (F0 m pc ls rest) q := by
  intro T hT X
  have hpl : e.platform.magicAccessors = ({} : Platform).magicAccessors := by rw [X.admits.platform]
  obtain ⟨vm', hW', X', st⟩ := X.outThrough hlocks q (g := F0 m pc ls rest) rfl rfl rfl (cell := ce) (by rw [hT]; exact hcell) (by rw [hv]; rfl)
    (by obtain ⟨k9, h9, -⟩ := Vm.findClass_spec hcl; exact ⟨k9, h9⟩) (fun z hz => by
      rcases hpass z hz with h | ⟨hz0, nm, hl1, hn1⟩
      · exact Or.inl h
      · obtain ⟨c6, hc6, hcl6⟩ := Cond.classLink_spec hown hl1 e.platform hpl
        obtain ⟨a8, b8, h1, h2, h3⟩ := hn1
        cases Option.some.inj (h1.symm.trans hcl)
        cases Option.some.inj (h2.symm.trans hc6)
        exact Or.inr ⟨hz0, _, hcl6, h3⟩)
  obtain ⟨g₀, hfr⟩ := X'.frames_eq
  have hcell9 : ((T.setVm vm').setFrames (.throwing q :: below)).heap[q]? = some ce := by
    show T.heap[q]? = some ce
    rw [hT]; exact hcell
  have hend : Ended ((T.setVm vm').setFrames (.throwing q :: below)) below (.threw q) := State.frames_setFrames _ (State.cur_lt_of_frames hfr)
  refine ⟨(T.setVm vm').setFrames (.throwing q :: below), ?_, .threw q, X'.here.running, hend, Or.inr ⟨q, rfl, E, ce, locs, hx _ hT (X'.ends _).1.alike, hcell9, hv, hcl, (X'.ends _).1, (X'.ends _).2.mono hc hs, hf⟩⟩
  rw [X.pushThrowing_eq]
  exact st
/-- a thing of a world lies in the heap -/
theorem vx_lt {D : va_G} {cl : List vw_C} {ws : va_W} {H1 : Heap} (h : va_P D cl ws H1) {k : Nat} {q : Nat × va_E} (hk : ws[k]? = some q) : q.1 < H1.size := (h k q hk).lt
end VXS
/-! ===== END ===== -/
/-! ===== BEGIN methods with a table of their own: called by a name, returning or throwing ===== -/
section VXH
/-! vx_backW, vx_callVX, vx_callSX, vx_callVW, vx_runVW, vx_runVX, vx_runSX, vx_ofWH follow the same proofs as their sisters above (Free/Laws.lean, Shelf42/LK1.lean); vx_outP calls Shelf42/NT130.lean (outThrough). -/
section
variable {l : Launch} {R : Room} {p : Program} {e : Env} {below : List Frame} {s : State} {sargs : Array Value} {y : MethodName} {len W9 : Nat}
theorem vx_backW {ws : List Cond} {rm : Room} {Pc : Array Value → State → Prop} {Qc : Array Value → State → Outcome → State → Prop} {XC : String → State → State → Prop} {mc ms : Nat} {free : Addr → Prop} {bytes : ByteArray} {maxL : Nat} {ret : Option FieldType} {hh : List (Nat × Nat × Nat × Nat)}
    (hM : vx_Met l y ws rm Pc Qc XC mc ms free) (hblind : FrameBlind Pc) (hrc : rm.cells = mc) (hrs : rm.slots = ms)
    (hframes : rm.frames + 1 ≤ R.frames) (hlocals : W9 + (maxL + 11) + rm.locals ≤ R.locals)
    (hws : ∀ w ∈ ws, ∀ a' U, s.WarmedH U.vm → w.before a' U = true) (hcode : Cond.codeWith y bytes maxL ret hh ∈ ws) (hinit : ∀ a' U, s.WarmedH U.vm → (Cond.initialized y.cls).before a' U = true) :
    vx_Back l R p e below s sargs y len W9 (PreOf R mc ms Pc) (PostOf Qc mc ms free) (vx_Post XC mc ms free) := by
  intro m meth c A g ig mk a X hg hsize hdg hW hn hp
  have h1 : (headSpec ws rm).pre.before a A.U = true := atoms_intro fun w hw => hws w hw _ _ X.warmed
  have h2 : (Cond.codeWith y bytes maxL ret hh).before a A.U = true := hws _ hcode _ _ X.warmed
  have h3 : (Cond.initialized y.cls).before a A.U = true := hinit _ _ X.warmed
  have h4 : A.cells + (headSpec ws rm).room.cells ≤ R.cells := by rw [show (headSpec ws rm).room.cells = mc from hrc]; exact hp.1
  have h5 : A.slots + (headSpec ws rm).room.slots ≤ R.slots := by rw [show (headSpec ws rm).room.slots = ms from hrs]; exact hp.2.1
  have hPc : Pc a (A.U.calling g mk a) := hblind _ _ _ _ hp.2.2
  obtain ⟨U, Ls, c0, s0⟩ := A
  dsimp only [Pt.U, Pt.locs, Pt.cells, Pt.slots] at h1 h2 h3 h4 h5 X hn hPc ⊢
  obtain ⟨m9, methY, cY, hn9, hmY, hcY, -, hlY, -⟩ := Cond.codeWith_spec h2
  cases Option.some.inj (hn9.symm.trans hn)
  obtain ⟨kY, hkY, -⟩ := className_of_methodNamed hn
  have hinitY : kY.init = .initialized := Cond.initialized_spec (findClass_of_methodNamed hn) hkY h3
  have h : At U g.method c below := by rw [hg]; exact X.here
  have hlocals9 : W9 + (maxL + 11) + (headSpec ws rm).room.locals ≤ R.locals := hlocals
  have happ : (headSpec ws rm).appliesLoose y e.platform (U.calling g mk a) = true :=
    Spec.appliesLoose_calling (g := g) h hdg hn hkY hinitY
      (X.room_calling (g := g) (R' := (headSpec ws rm).room) hsize hmY hcY hframes (by rw [hlY]; omega) h4 h5) h1
  obtain ⟨mid, hmid⟩ := h.above
  have hfr : (U.setTop g).frames = (.java g :: mid) ++ below := by rw [State.frames_setTop' g h.top, hmid]; rfl
  obtain ⟨o, s₂, hsteps, -, hend, hq⟩ := Steps.callFree hM p X.admits X.cas X.clock (acts := []) hfr happ hPc trivial
  have hq' : vx_Q Qc XC mc ms free a (U.calling g mk a) o s₂ := hq
  rw [State.frames_setTop' g h.top] at hend
  obtain ⟨g₀, hg0⟩ := Option.isSome_iff_exists.mp h.top
  obtain ⟨r, hr⟩ := State.topJava?_eq_some.mp hg0
  have hr' : (({ U with heap := s₂.heap, slotsUsed := s₂.slotsUsed } : State).setVm s₂.vm).frames = .java g₀ :: r := hr
  rcases hq' with ⟨hqc, L, hfe, hL⟩ | ⟨q, rfl, E, ce, L, hx, hce, hcv, hcl, hW₂, hsm, hL⟩
  · obtain ⟨⟨v, rfl⟩, hW₂, e2, q2, q3, q4, q5, q6⟩ := id hfe
    have e3 : s₂ = ({ (U.calling g mk a).setFrames s₂.frames with heap := s₂.heap, slotsUsed := s₂.slotsUsed } : State).setVm s₂.vm := by
      have : s₂ = ({ s₂ with vm := (U.calling g mk a).vm } : State).setVm s₂.vm := rfl
      rw [e2] at this
      exact this
    obtain ⟨c₂, i₂, len₂, hc₂, hd₂, hf₂⟩ := hend
    have hW' : U.WarmedH s₂.vm := hW₂
    have hcc : c₂ = c := by
      have h1 : s₂.code? g.method = U.code? g.method := by
        rw [State.code?_eq, State.code?_eq, hW'.alike.method?]
      exact Option.some.inj (hc₂.symm.trans (h1.trans h.code))
    subst hcc
    have hlen : len₂ = len := by rw [hdg] at hd₂; cases hd₂; rfl
    subst hlen
    have hs₂ : s₂ = (({ U with heap := s₂.heap, slotsUsed := s₂.slotsUsed } : State).setVm s₂.vm).setTop { g with pc := g.pc + len₂, stack := v.toList ++ g.stack } := by
      refine e3.trans ?_
      rw [hf₂, State.calling_eq h.top, State.setFrames_setFrames, State.setTop_of_frames _ hr', hr]
      rfl
    have hsame : U.sameButNew ({ U with heap := s₂.heap, slotsUsed := s₂.slotsUsed } : State) L mc ms := by
      refine ⟨?_, q2, q3, q4, q5, q6⟩
      obtain ⟨t, ht, -⟩ := State.frames_cons hr
      show ({ U with heap := s₂.heap, slotsUsed := s₂.slotsUsed } : State) = { U.setFrames U.frames with heap := s₂.heap, slotsUsed := s₂.slotsUsed }
      rw [State.setFrames_self ht]
    subst hg
    refine Or.inl ⟨v, ⟨(({ U with heap := s₂.heap, slotsUsed := s₂.slotsUsed } : State).setVm s₂.vm), Ls ++ L, c0 + mc, s0 + ms⟩,
      ⟨X.admits, X.cas, X.clock, X.frames, X.room, X.hears, X.method, X.code, (X.here.setHeapUsed s₂.heap s₂.slotsUsed).setVm hW'.alike, X.tail, State.WarmedH.trans X.warmed hW', X.limits, X.bytes, X.same.trans (hsame.setVm s.vm)⟩,
      ⟨g, mk, s₂, L, rfl, rfl, hqc, rfl, hL, rfl, rfl⟩, ?_⟩
    show Steps p.tables e below _ ((({ U with heap := s₂.heap, slotsUsed := s₂.slotsUsed } : State).setVm s₂.vm).setTop { g with pc := g.pc + len₂, stack := v.toList ++ g.stack })
    rw [← hs₂]
    exact hsteps
  · obtain ⟨e2, q2, q3, q4, q5, q6⟩ := id hsm
    have e3 : s₂ = ({ (U.calling g mk a).setFrames s₂.frames with heap := s₂.heap, slotsUsed := s₂.slotsUsed } : State).setVm s₂.vm := by
      have : s₂ = ({ s₂ with vm := (U.calling g mk a).vm } : State).setVm s₂.vm := rfl
      rw [e2] at this
      exact this
    have hf₂ : s₂.frames = .throwing q :: .java g :: U.frames.tail := hend
    have hW' : U.WarmedH s₂.vm := hW₂
    have hs₂ : s₂ = ((({ U with heap := s₂.heap, slotsUsed := s₂.slotsUsed } : State).setVm s₂.vm).setTop g).pushFrame (.throwing q) := by
      refine e3.trans ?_
      rw [hf₂, State.calling_eq h.top, State.setFrames_setFrames, State.pushFrame, State.frames_setTop _ hr', State.setTop_of_frames _ hr', State.setFrames_setFrames, hr]
      rfl
    have hsame : U.sameButNew ({ U with heap := s₂.heap, slotsUsed := s₂.slotsUsed } : State) L mc ms := by
      refine ⟨?_, q2, q3, q4, q5, q6⟩
      obtain ⟨t, ht, -⟩ := State.frames_cons hr
      show ({ U with heap := s₂.heap, slotsUsed := s₂.slotsUsed } : State) = { U.setFrames U.frames with heap := s₂.heap, slotsUsed := s₂.slotsUsed }
      rw [State.setFrames_self ht]
    subst hg
    refine Or.inr ⟨q, ⟨(({ U with heap := s₂.heap, slotsUsed := s₂.slotsUsed } : State).setVm s₂.vm), Ls ++ L, c0 + mc, s0 + ms⟩,
      ⟨X.admits, X.cas, X.clock, X.frames, X.room, X.hears, X.method, X.code, (X.here.setHeapUsed s₂.heap s₂.slotsUsed).setVm hW'.alike, X.tail, State.WarmedH.trans X.warmed hW', X.limits, X.bytes, X.same.trans (hsame.setVm s.vm)⟩,
      ⟨g, mk, s₂, L, E, ce, rfl, rfl, hx, hce, hcv, hcl, rfl, hL, rfl, rfl⟩, ?_⟩
    show Steps p.tables e below _ (((({ U with heap := s₂.heap, slotsUsed := s₂.slotsUsed } : State).setVm s₂.vm).setTop g).pushFrame (.throwing q))
    rw [← hs₂]
    exact hsteps
end
variable {p : Program} {l : Launch} {e : Env} {R : Room} {s : State} {m : MethodId} {args : Array Value} {below : List Frame} {meth : Method} {c : Code} {T : State} {H : Heap} {locs : List Loc} {cells slots : Nat}
theorem vx_callVX (X : Stand p l e R s m args below meth c T locs cells slots) (hexec : p.tables.exec = Jvm.exec) {own C : String} {index : Nat} {y : MethodName} {bytes : ByteArray} {maxL : Nat} {ret : Option FieldType} {hh : List (Nat × Nat × Nat × Nat)}
    (hown : s.vm.findClass own = some m.cls) (hlink : (Cond.methodLink own index y).before args s = true) (hinst : (Cond.instanceMethod y).before args s = true) (hsel : (Cond.selects C y y).before args s = true)
    (hcode : (Cond.codeWith y bytes maxL ret hh).before args s = true) (hy : y.cls ≠ "java/lang/invoke/MethodHandle" ∧ y.cls ≠ "java/lang/invoke/VarHandle")
    {W9 : Nat} {Pre : Pt → Array Value → Prop} {Post : Pt → Array Value → Option Value → Pt → Prop} {PostX : Pt → Array Value → Addr → Pt → Prop} (hK : vx_Back l R p e below s args y 3 W9 Pre Post PostX)
    {b : Addr} {cellB : Cell} (hcell : T.heap[b]? = some cellB) (hobj : cellB.vm.isStatics = false) (hcls : s.vm.findClass C = some cellB.cls)
    {g : JFrame} (hg : g.method = m) (hsize : g.locals.size = c.maxLocals) {argsL rest : List Value} (hlen : ∀ sig, parseMethodDescriptor y.desc = some sig → argsL.length = sig.parameters.length)
    (hstack : g.stack = argsL.reverse ++ .ref b :: rest) (hW : 2 * g.monitorRoom + (rest.map fun v => v.category).sum ≤ W9) (hdg : decode c.code g.pc = .ok (.invokevirtual index, 3))
    (hpre : ∀ vm₁, s.WarmedH vm₁ → Pre ⟨T.setVm vm₁, locs, cells, slots⟩ (Value.ref b :: argsL).toArray) :
    (∃ (v : Option Value) (vm₁ : Vm) (B : Pt), s.WarmedH vm₁ ∧ Stand p l e R s m args below meth c B.U B.locs B.cells B.slots ∧ Post ⟨T.setVm vm₁, locs, cells, slots⟩ (Value.ref b :: argsL).toArray v B ∧
      ∀ target, Steps p.tables e below (B.U.setTop { g with pc := g.pc + 3, stack := v.toList ++ rest }) target → Steps p.tables e below (T.setTop g) target) ∨
    (∃ (q : Addr) (vm₁ : Vm) (B : Pt), s.WarmedH vm₁ ∧ Stand p l e R s m args below meth c B.U B.locs B.cells B.slots ∧ PostX ⟨T.setVm vm₁, locs, cells, slots⟩ (Value.ref b :: argsL).toArray q B ∧
      Steps p.tables e below (T.setTop g) ((B.U.setTop { g with stack := rest }).pushFrame (.throwing q))) := by
  obtain ⟨mk, methM, hnamed, hmethM, hstM, habM⟩ := Cond.instanceMethod_spec hinst
  obtain ⟨m8, methM', cM, hn8, hmethM', -, -, -, -, -, -, hsigM⟩ := Cond.codeWith_spec hcode
  cases Option.some.inj (hn8.symm.trans hnamed)
  cases hmethM.symm.trans hmethM'
  obtain ⟨c2, r2, m2, q1, q2, q3, q4, kP, hkP, hkPi⟩ := Cond.selects_spec hsel
  cases hcls.symm.trans q1
  cases (State.methodFound?_of_named hnamed hy).symm.trans q2
  cases hnamed.symm.trans q3
  have hselP : selectMethod e.platform s.vm cellB.cls mk = .method mk := by rw [Launch.admits_selectMethod X.admits]; exact q4
  obtain ⟨vm₁, X₁, hstep₁⟩ := X.invokevirtual hexec hown hlink hnamed hmethM hstM hkP hkPi hy (a := b) (cell := cellB) hcell
    (fun z h => by rw [h] at hobj; cases hobj) hselP hmethM habM hkP hkPi (g := g) hg (argsL := argsL) (rest := rest) (hlen _ hsigM) hstack hdg
  rcases hK m meth c ⟨T.setVm vm₁, locs, cells, slots⟩ { g with stack := rest } (.invokevirtual index) mk (Value.ref b :: argsL).toArray X₁ hg hsize hdg hW (X₁.named hnamed) (hpre vm₁ X₁.warmed) with ⟨v, B, X', hpost, hsteps⟩ | ⟨q, B, X', hpost, hsteps⟩
  · exact Or.inl ⟨v, vm₁, B, X₁.warmed, X', hpost, fun target h => hstep₁ _ fun acts => by rw [doInvoke_state]; exact hsteps.trans h⟩
  · exact Or.inr ⟨q, vm₁, B, X₁.warmed, X', hpost, hstep₁ _ fun acts => by rw [doInvoke_state]; exact hsteps⟩
theorem vx_callSX (X : Stand p l e R s m args below meth c T locs cells slots) (hexec : p.tables.exec = Jvm.exec) {own : String} {index : Nat} {y : MethodName} {bytes : ByteArray} {maxL : Nat} {ret : Option FieldType} {hh : List (Nat × Nat × Nat × Nat)}
    (hown : s.vm.findClass own = some m.cls) (hlink : (Cond.methodLink own index y).before args s = true) (hstat : (Cond.static y).before args s = true) (hinit : (Cond.initialized y.cls).before args s = true)
    (hcode : (Cond.codeWith y bytes maxL ret hh).before args s = true) (hy : y.cls ≠ "java/lang/invoke/MethodHandle" ∧ y.cls ≠ "java/lang/invoke/VarHandle")
    {W9 : Nat} {Pre : Pt → Array Value → Prop} {Post : Pt → Array Value → Option Value → Pt → Prop} {PostX : Pt → Array Value → Addr → Pt → Prop} (hK : vx_Back l R p e below s args y 3 W9 Pre Post PostX)
    {g : JFrame} (hg : g.method = m) (hsize : g.locals.size = c.maxLocals) {argsL rest : List Value} (hlen : ∀ sig, parseMethodDescriptor y.desc = some sig → argsL.length = sig.parameters.length)
    (hstack : g.stack = argsL.reverse ++ rest) (hW : 2 * g.monitorRoom + (rest.map fun v => v.category).sum ≤ W9) (hdg : decode c.code g.pc = .ok (.invokestatic index, 3))
    (hpre : ∀ vm₁, s.WarmedH vm₁ → Pre ⟨T.setVm vm₁, locs, cells, slots⟩ argsL.toArray) :
    (∃ (v : Option Value) (vm₁ : Vm) (B : Pt), s.WarmedH vm₁ ∧ Stand p l e R s m args below meth c B.U B.locs B.cells B.slots ∧ Post ⟨T.setVm vm₁, locs, cells, slots⟩ argsL.toArray v B ∧
      ∀ target, Steps p.tables e below (B.U.setTop { g with pc := g.pc + 3, stack := v.toList ++ rest }) target → Steps p.tables e below (T.setTop g) target) ∨
    (∃ (q : Addr) (vm₁ : Vm) (B : Pt), s.WarmedH vm₁ ∧ Stand p l e R s m args below meth c B.U B.locs B.cells B.slots ∧ PostX ⟨T.setVm vm₁, locs, cells, slots⟩ argsL.toArray q B ∧
      Steps p.tables e below (T.setTop g) ((B.U.setTop { g with stack := rest }).pushFrame (.throwing q))) := by
  obtain ⟨mk, methM, cM, hnamed, hmethM, -, -, -, -, -, -, hsigM⟩ := Cond.codeWith_spec hcode
  have hstatic : methM.isStatic = true := Cond.static_spec hnamed hmethM hstat
  obtain ⟨kP, hkP, -⟩ := className_of_methodNamed hnamed
  have hinitP : kP.init = .initialized := Cond.initialized_spec (findClass_of_methodNamed hnamed) hkP hinit
  obtain ⟨vm₁, X₁, hstep₁⟩ := X.invokestatic hexec hown hlink hnamed hmethM hstatic hkP hinitP hy (g := g) hg (argsL := argsL) (rest := rest) (hlen _ hsigM) hstack hdg
  rcases hK m meth c ⟨T.setVm vm₁, locs, cells, slots⟩ { g with stack := rest } (.invokestatic index) mk argsL.toArray X₁ hg hsize hdg hW (X₁.named hnamed) (hpre vm₁ X₁.warmed) with ⟨v, B, X', hpost, hsteps⟩ | ⟨q, B, X', hpost, hsteps⟩
  · exact Or.inl ⟨v, vm₁, B, X₁.warmed, X', hpost, fun target h => hstep₁ _ fun acts => by rw [doInvoke_state]; exact hsteps.trans h⟩
  · exact Or.inr ⟨q, vm₁, B, X₁.warmed, X', hpost, hstep₁ _ fun acts => by rw [doInvoke_state]; exact hsteps⟩
theorem vx_callVW (X : Stand p l e R s m args below meth c T locs cells slots) (hexec : p.tables.exec = Jvm.exec) {own C : String} {index : Nat} {y : MethodName} {bytes : ByteArray} {maxL : Nat} {ret : Option FieldType} {hh : List (Nat × Nat × Nat × Nat)}
    (hown : s.vm.findClass own = some m.cls) (hlink : (Cond.methodLink own index y).before args s = true) (hinst : (Cond.instanceMethod y).before args s = true) (hsel : (Cond.selects C y y).before args s = true)
    (hcode : (Cond.codeWith y bytes maxL ret hh).before args s = true) (hy : y.cls ≠ "java/lang/invoke/MethodHandle" ∧ y.cls ≠ "java/lang/invoke/VarHandle")
    {W9 : Nat} {Pre : Pt → Array Value → Prop} {Post : Pt → Array Value → Option Value → Pt → Prop} (hK : Back l R p e below s args y 3 W9 Pre Post)
    {b : Addr} {cellB : Cell} (hcell : T.heap[b]? = some cellB) (hobj : cellB.vm.isStatics = false) (hcls : s.vm.findClass C = some cellB.cls)
    {g : JFrame} (hg : g.method = m) (hsize : g.locals.size = c.maxLocals) {argsL rest : List Value} (hlen : ∀ sig, parseMethodDescriptor y.desc = some sig → argsL.length = sig.parameters.length)
    (hstack : g.stack = argsL.reverse ++ .ref b :: rest) (hW : 2 * g.monitorRoom + (rest.map fun v => v.category).sum ≤ W9) (hdg : decode c.code g.pc = .ok (.invokevirtual index, 3))
    (hpre : ∀ vm₁, s.WarmedH vm₁ → Pre ⟨T.setVm vm₁, locs, cells, slots⟩ (Value.ref b :: argsL).toArray) :
    ∃ (v : Option Value) (vm₁ : Vm) (B : Pt), s.WarmedH vm₁ ∧ Stand p l e R s m args below meth c B.U B.locs B.cells B.slots ∧ Post ⟨T.setVm vm₁, locs, cells, slots⟩ (Value.ref b :: argsL).toArray v B ∧
      ∀ target, Steps p.tables e below (B.U.setTop { g with pc := g.pc + 3, stack := v.toList ++ rest }) target → Steps p.tables e below (T.setTop g) target := by
  obtain ⟨mk, methM, hnamed, hmethM, hstM, habM⟩ := Cond.instanceMethod_spec hinst
  obtain ⟨m8, methM', cM, hn8, hmethM', -, -, -, -, -, -, hsigM⟩ := Cond.codeWith_spec hcode
  cases Option.some.inj (hn8.symm.trans hnamed)
  cases hmethM.symm.trans hmethM'
  obtain ⟨c2, r2, m2, q1, q2, q3, q4, kP, hkP, hkPi⟩ := Cond.selects_spec hsel
  cases hcls.symm.trans q1
  cases (State.methodFound?_of_named hnamed hy).symm.trans q2
  cases hnamed.symm.trans q3
  have hselP : selectMethod e.platform s.vm cellB.cls mk = .method mk := by rw [Launch.admits_selectMethod X.admits]; exact q4
  obtain ⟨vm₁, X₁, hstep₁⟩ := X.invokevirtual hexec hown hlink hnamed hmethM hstM hkP hkPi hy (a := b) (cell := cellB) hcell
    (fun z h => by rw [h] at hobj; cases hobj) hselP hmethM habM hkP hkPi (g := g) hg (argsL := argsL) (rest := rest) (hlen _ hsigM) hstack hdg
  obtain ⟨v, B, X', hpost, hsteps⟩ := hK m meth c ⟨T.setVm vm₁, locs, cells, slots⟩ { g with stack := rest } (.invokevirtual index) mk (Value.ref b :: argsL).toArray X₁ hg hsize hdg hW (X₁.named hnamed) (hpre vm₁ X₁.warmed)
  exact ⟨v, vm₁, B, X₁.warmed, X', hpost, fun target h => hstep₁ _ fun acts => by rw [doInvoke_state]; exact hsteps.trans h⟩
abbrev vx_CVW (R : Room) (s : State) (args : Array Value) (own C : String) (index : Nat) (y : MethodName) (bytes : ByteArray) (maxL : Nat) (ret : Option FieldType) (hh : List (Nat × Nat × Nat × Nat)) (ws : List Cond) (rm : Room) (mc ms n : Nat) : Prop :=
  (rm.cells = mc ∧ rm.slots = ms ∧ rm.frames + 1 ≤ R.frames ∧ 8 + (maxL + 11) + rm.locals ≤ R.locals ∧ (∀ w ∈ ws, ∀ (a' : Array Value) (U : State), s.WarmedH U.vm → w.before a' U = true) ∧ Cond.codeWith y bytes maxL ret hh ∈ ws) ∧
  (Cond.codeWith y bytes maxL ret hh).before args s = true ∧ (Cond.initialized y.cls).before args s = true ∧ (y.cls ≠ "java/lang/invoke/MethodHandle" ∧ y.cls ≠ "java/lang/invoke/VarHandle") ∧
  (∀ sig, parseMethodDescriptor y.desc = some sig → n = sig.parameters.length) ∧ (Cond.methodLink own index y).before args s = true ∧ (Cond.instanceMethod y).before args s = true ∧ (Cond.selects C y y).before args s = true
theorem vx_cwVW {own C : String} {index maxL mc ms : Nat} {y : MethodName} {bytes : ByteArray} {ret : Option FieldType} {hh : List (Nat × Nat × Nat × Nat)} {Ts ws ws' : List Cond} {rm : Room} (n : Nat) (ht : ∀ w ∈ Ts, w.before args s = true) (hT : GoodIn Ts (wsV own index C y ws)) (hw : ws = Cond.codeWith y bytes maxL ret hh :: ws') (hrc : rm.cells = mc) (hrs : rm.slots = ms)
    (hd : y.cls = C ∧ y.cls ≠ "java/lang/invoke/MethodHandle" ∧ y.cls ≠ "java/lang/invoke/VarHandle" ∧ (parseMethodDescriptor y.desc).map (fun d => d.parameters.length) = some n) (hR : rm.frames + 1 ≤ R.frames ∧ 8 + (maxL + 11) + rm.locals ≤ R.locals) :
    vx_CVW R s args own C index y bytes maxL ret hh ws rm mc ms n := by
  obtain ⟨hC, hd⟩ := hd
  subst hC
  have ok : ∀ w ∈ wsV own index y.cls y ws, w.before args s = true := fun w h => ht w (hT w h).1
  have hG : GoodIn Ts ws := fun w h => hT w (by unfold wsV; exact List.mem_append_right _ h)
  have hc : Cond.codeWith y bytes maxL ret hh ∈ ws := by rw [hw]; exact List.mem_cons_self
  refine ⟨⟨hrc, hrs, hR.1, hR.2, pay_in ht hG, hc⟩, ht _ (hG _ hc).1, ok _ (by simp [wsV]), ⟨hd.1, hd.2.1⟩, fun sig h => ?_, ok _ (by simp [wsV]), ok _ (by simp [wsV]), ok _ (by simp [wsV])⟩
  have h2 := hd.2.2
  rw [h] at h2
  exact (Option.some.inj h2).symm
theorem vx_runVW {y : MethodName} {bytes cc : ByteArray} {maxL nL mc ms n index : Nat} {ret : Option FieldType} {hh : List (Nat × Nat × Nat × Nat)} {ws : List Cond} {rm : Room} {Pc : Array Value → State → Prop} {Qc : Array Value → State → Outcome → State → Prop} {free : Addr → Prop} {Ts : List Cond} {own C : String} {b : Addr} {As rest : List Value} {g : JFrame}
    (S : CallFix p m c cc nL s args Ts own) (hM : Met l y ws rm Pc Qc mc ms free) (cw : vx_CVW R s args own C index y bytes maxL ret hh ws rm mc ms n) (hp : PreV s H C b Pc As)
    (hg : g.method = m) (hn : As.length = n) (hsize : g.locals.size = nL) (hstack : g.stack = As.reverse ++ .ref b :: rest) (hW : 2 * g.monitorRoom + (rest.map fun v => v.category).sum ≤ 8) (hdg : decode cc g.pc = .ok (.invokevirtual index, 3)) (hf : cells + mc ≤ R.cells ∧ slots + ms ≤ R.slots) :
    va_Run p l e R s m args below meth c H locs cells slots mc ms g rest (Qc (Value.ref b :: As).toArray) free := by
  obtain ⟨⟨hrc, hrs, hfr, hlo, hws, hcw⟩, hcode, hini, hy, hlen, hl, hin, hse⟩ := cw
  have hK : Back l R p e below s args y 3 8 (PreOf R mc ms Pc) (PostOf Qc mc ms free) := va_backW (hh := hh) (bytes := bytes) (maxL := maxL) (ret := ret) hM hp.1 hrc hrs hfr hlo hws hcw (fun a' U hW => word_at hW (Or.inl (by first | rfl | simp [Cond.onTables, Cond.keeps, Cond.steady])) hini)
  obtain ⟨hx, hb, hml, ho, -⟩ := S
  obtain ⟨-, ⟨cellB, hcB, hoB, hclB⟩, hPc⟩ := hp
  intro T hT X
  obtain ⟨v, vm₁, ⟨U', l2, c2, s2⟩, hW₁, X', ⟨g', mk, t, L, e1, e2, hq, h1, hL, h2, h3⟩, st⟩ := vx_callVW X hx (C := C) (hh := hh) (bytes := bytes) (maxL := maxL) (ret := ret) ho hl hin hse hcode hy hK (by rw [hT]; exact hcB) hoB hclB hg (hsize.trans hml.symm) (argsL := As) (rest := rest) (fun sig h => hn.trans (hlen sig h)) hstack hW (by rw [hb]; exact hdg)
    (fun vm₁ hW₁ => ⟨hf.1, hf.2, hPc (T.setVm vm₁) hT hW₁⟩)
  dsimp only [Pt.U, Pt.locs, Pt.cells, Pt.slots] at X' e1 e2 h1 h2 h3 st
  subst h1; subst h2; subst h3
  exact ⟨v, (T.setVm vm₁).calling g' mk (Value.ref b :: As).toArray, t, U', L, hT, X', hL, e1, e2, hq, st⟩
section
variable {y : MethodName} {bytes cc : ByteArray} {maxL nL mc ms n index : Nat} {ret : Option FieldType} {ws : List Cond} {rm : Room} {Pc : Array Value → State → Prop} {Qc : Array Value → State → Outcome → State → Prop} {XC : String → State → State → Prop} {free : Addr → Prop} {Ts : List Cond} {own C : String} {b : Addr} {As rest : List Value} {g : JFrame}
theorem vx_runVX {hh : List (Nat × Nat × Nat × Nat)} (S : CallFix p m c cc nL s args Ts own) (hM : vx_Met l y ws rm Pc Qc XC mc ms free) (cw : vx_CVW R s args own C index y bytes maxL ret hh ws rm mc ms n) (hp : PreV s H C b Pc As)
    (hg : g.method = m) (hn : As.length = n) (hsize : g.locals.size = nL) (hstack : g.stack = As.reverse ++ .ref b :: rest) (hW : 2 * g.monitorRoom + (rest.map fun v => v.category).sum ≤ 8) (hdg : decode cc g.pc = .ok (.invokevirtual index, 3)) (hf : cells + mc ≤ R.cells ∧ slots + ms ≤ R.slots) :
    vx_Run p l e R s m args below meth c H locs cells slots mc ms g rest (Qc (Value.ref b :: As).toArray) XC free := by
  obtain ⟨⟨hrc, hrs, hfr, hlo, hws, hcw⟩, hcode, hini, hy, hlen, hl, hin, hse⟩ := cw
  have hK : vx_Back l R p e below s args y 3 8 (PreOf R mc ms Pc) (PostOf Qc mc ms free) (vx_Post XC mc ms free) := vx_backW (hh := hh) (bytes := bytes) (maxL := maxL) (ret := ret) hM hp.1 hrc hrs hfr hlo hws hcw (fun a' U hW => word_at hW (Or.inl (by first | rfl | simp [Cond.onTables, Cond.keeps, Cond.steady])) hini)
  obtain ⟨hx, hb, hml, ho, -⟩ := S
  obtain ⟨-, ⟨cellB, hcB, hoB, hclB⟩, hPc⟩ := hp
  intro T hT X
  rcases vx_callVX X hx (C := C) (hh := hh) (bytes := bytes) (maxL := maxL) (ret := ret) ho hl hin hse hcode hy hK (by rw [hT]; exact hcB) hoB hclB hg (hsize.trans hml.symm) (argsL := As) (rest := rest) (fun sig h => hn.trans (hlen sig h)) hstack hW (by rw [hb]; exact hdg)
    (fun vm₁ hW₁ => ⟨hf.1, hf.2, hPc (T.setVm vm₁) hT hW₁⟩) with ⟨v, vm₁, ⟨U', l2, c2, s2⟩, hW₁, X', ⟨g', mk, t, L, e1, e2, hq, h1, hL, h2, h3⟩, st⟩ | ⟨q, vm₁, ⟨U', l2, c2, s2⟩, hW₁, X', ⟨g', mk, t, L, E, ce, e1, e2, hq, hce, hcv, hcl, h1, hL, h2, h3⟩, st⟩
  · dsimp only [Pt.U, Pt.locs, Pt.cells, Pt.slots] at X' e1 e2 h1 h2 h3 st
    subst h1; subst h2; subst h3
    exact Or.inl ⟨v, (T.setVm vm₁).calling g' mk (Value.ref b :: As).toArray, t, U', L, hT, X', hL, e1, e2, hq, st⟩
  · dsimp only [Pt.U, Pt.locs, Pt.cells, Pt.slots] at X' e1 e2 h1 h2 h3 st hcl
    subst h1; subst h2; subst h3
    exact Or.inr ⟨q, (T.setVm vm₁).calling g' mk (Value.ref b :: As).toArray, t, U', L, E, ce, hT, X', hL, e1, e2, hq, hce, hcv, vx_cls hW₁ hcl, st⟩
theorem vx_runSX {hh : List (Nat × Nat × Nat × Nat)} (S : CallFix p m c cc nL s args Ts own) (hM : vx_Met l y ws rm Pc Qc XC mc ms free) (cw : vx_CSW R s args own index y bytes maxL ret hh ws rm mc ms n) (hp : PreS s H Pc As)
    (hg : g.method = m) (hn : As.length = n) (hsize : g.locals.size = nL) (hstack : g.stack = As.reverse ++ rest) (hW : 2 * g.monitorRoom + (rest.map fun v => v.category).sum ≤ 8) (hdg : decode cc g.pc = .ok (.invokestatic index, 3)) (hf : cells + mc ≤ R.cells ∧ slots + ms ≤ R.slots) :
    vx_Run p l e R s m args below meth c H locs cells slots mc ms g rest (Qc As.toArray) XC free := by
  obtain ⟨⟨hrc, hrs, hfr, hlo, hws, hcw⟩, hcode, hini, hy, hlen, hl, hstt⟩ := cw
  have hK : vx_Back l R p e below s args y 3 8 (PreOf R mc ms Pc) (PostOf Qc mc ms free) (vx_Post XC mc ms free) := vx_backW (hh := hh) (bytes := bytes) (maxL := maxL) (ret := ret) hM hp.1 hrc hrs hfr hlo hws hcw (fun a' U hW => word_at hW (Or.inl (by first | rfl | simp [Cond.onTables, Cond.keeps, Cond.steady])) hini)
  obtain ⟨hx, hb, hml, ho, -⟩ := S
  intro T hT X
  rcases vx_callSX X hx (hh := hh) (bytes := bytes) (maxL := maxL) (ret := ret) ho hl hstt hini hcode hy hK hg (hsize.trans hml.symm) (argsL := As) (rest := rest) (fun sig h => hn.trans (hlen sig h)) hstack hW (by rw [hb]; exact hdg)
    (fun vm₁ hW₁ => ⟨hf.1, hf.2, hp.2 (T.setVm vm₁) hT hW₁⟩) with ⟨v, vm₁, ⟨U', l2, c2, s2⟩, hW₁, X', ⟨g', mk, t, L, e1, e2, hq, h1, hL, h2, h3⟩, st⟩ | ⟨q, vm₁, ⟨U', l2, c2, s2⟩, hW₁, X', ⟨g', mk, t, L, E, ce, e1, e2, hq, hce, hcv, hcl, h1, hL, h2, h3⟩, st⟩
  · dsimp only [Pt.U, Pt.locs, Pt.cells, Pt.slots] at X' e1 e2 h1 h2 h3 st
    subst h1; subst h2; subst h3
    exact Or.inl ⟨v, (T.setVm vm₁).calling g' mk As.toArray, t, U', L, hT, X', hL, e1, e2, hq, st⟩
  · dsimp only [Pt.U, Pt.locs, Pt.cells, Pt.slots] at X' e1 e2 h1 h2 h3 st hcl
    subst h1; subst h2; subst h3
    exact Or.inr ⟨q, (T.setVm vm₁).calling g' mk As.toArray, t, U', L, E, ce, hT, X', hL, e1, e2, hq, hce, hcv, vx_cls hW₁ hcl, st⟩
end
end VXH
theorem vx_ofWH {l : Launch} {y : MethodName} {ws ws' : List Cond} {rm : Room} {Pc : Array Value → State → Prop} {Qc : Array Value → State → Outcome → State → Prop} {XC : String → State → State → Prop} {mc ms : Nat} {free : Addr → Prop} {cc : ByteArray} {maxL : Nat} {ret : Option FieldType} {hh : List (Nat × Nat × Nat × Nat)}
    (hy : plainName y.cls = true) (hw : ws = Cond.codeWith y cc maxL ret hh :: ws')
    (body : ∀ p e s m args below meth c s₁, BodyLoose p l y (headSpec ws rm) cc maxL ret e s m args below meth c s₁ → c.maxLocals = maxL → Pc args s →
      W p l e (headSpec ws rm).room s m args below meth c s.heap [] 0 0 (vx_MQ below Qc XC args s mc ms free) (entryFrame m args maxL)) : vx_Met l y ws rm Pc Qc XC mc ms free := by
  refine MetFree.of_bodyS (code := cc) (maxLocals := maxL) (ret := ret) hy ?_ ?_
  · intro args s m h hn
    obtain ⟨m9, meth, c, hn9, h1, h2, h3, h4, -, h5, h6, -⟩ := Cond.codeWith_spec (atoms_spec (ws := ws) h _ (by rw [hw]; exact List.mem_cons_self))
    cases hn.symm.trans hn9
    exact ⟨meth, c, h1, h2, h3, h4, h5, h6⟩
  · intro p e s m args below meth c s₁ B hml hP _
    have hh0 : s₁.heap = s.heap := by rw [B.state]; rfl
    obtain ⟨t, a1, o, b1, b2, b3⟩ := body p e s m args below meth c s₁ B hml hP s₁ hh0 (Stand.of_body B)
    exact ⟨t, o, a1, b1, b2, b3⟩
/-! ===== END ===== -/

/-! ===== BEGIN printed: names, fields, word lists, decode rows ===== -/
def RX0 : String := "PegBox$ClaimBook"
def TX0 : u_T := fun k => match k with
  | 0 => ("PegBox$ClaimBook", "kinds", "[I", true)
  | 1 => ("PegBox$ClaimBook", "amounts", "[I", true)
  | 2 => ("PegBox$ClaimBook", "offers", "[I", true)
  | 3 => ("PegBox$ClaimBook", "settled", "[I", true)
  | _ => ("PegBox$ClaimBook", "count", "I", false)
def tyX0 : Nat → FieldType := fun k => match k with
  | 0 => .array .int
  | 1 => .array .int
  | 2 => .array .int
  | 3 => .array .int
  | _ => .int
abbrev wsX00 : List Cond := u_ws RX0 TX0 5
theorem nmX0 : ∀ a, a < 5 → ∀ b, b < 5 → a ≠ b → (TX0 a).2.1 ≠ (TX0 b).2.1 := by decide +kernel
theorem tyX0_ok : ∀ k, k < 5 → parseFieldDescriptor (TX0 k).2.2.1 = some (tyX0 k) := by decide +kernel
abbrev cX0_init : ByteArray := prog_2_method_1_code
def yX0_init : MethodName := ⟨RX0, "<init>", "()V"⟩
abbrev cX0_settledSum : ByteArray := prog_2_method_2_code
def yX0_settledSum : MethodName := ⟨RX0, "settledSum", "(II)I"⟩
abbrev cX0_openSum : ByteArray := prog_2_method_3_code
def yX0_openSum : MethodName := ⟨RX0, "openSum", "()I"⟩
def RX1 : String := "PegBox$EarnOut"
def TX1 : u_T := fun k => match k with
  | 0 => ("PegBox$EarnOut", "targets", "[I", true)
  | 1 => ("PegBox$EarnOut", "amounts", "[I", true)
  | 2 => ("PegBox$EarnOut", "met", "[Z", true)
  | 3 => ("PegBox$EarnOut", "isCarried", "Z", false)
  | 4 => ("PegBox$EarnOut", "isSpedUp", "Z", false)
  | 5 => ("PegBox$EarnOut", "told", "I", false)
  | 6 => ("PegBox$EarnOut", "resultSum", "I", false)
  | _ => ("PegBox$EarnOut", "targetSum", "I", false)
def tyX1 : Nat → FieldType := fun k => match k with
  | 0 => .array .int
  | 1 => .array .int
  | 2 => .array .boolean
  | 3 => .boolean
  | 4 => .boolean
  | 5 => .int
  | 6 => .int
  | _ => .int
abbrev wsX10 : List Cond := u_ws RX1 TX1 8
theorem nmX1 : ∀ a, a < 8 → ∀ b, b < 8 → a ≠ b → (TX1 a).2.1 ≠ (TX1 b).2.1 := by decide +kernel
theorem tyX1_ok : ∀ k, k < 8 → parseFieldDescriptor (TX1 k).2.2.1 = some (tyX1 k) := by decide +kernel
abbrev cX1_init : ByteArray := prog_3_method_1_code
def yX1_init : MethodName := ⟨RX1, "<init>", "()V"⟩
abbrev cX1_tell : ByteArray := prog_3_method_2_code
def yX1_tell : MethodName := ⟨RX1, "tell", "(I)I"⟩
abbrev cX1_hasten : ByteArray := prog_3_method_3_code
def yX1_hasten : MethodName := ⟨RX1, "hasten", "()I"⟩
abbrev cX1_meet : ByteArray := prog_3_method_4_code
def yX1_meet : MethodName := ⟨RX1, "meet", "(II)I"⟩
def RX2 : String := "PegBox$Escrow"
def TX2 : u_T := fun k => match k with
  | 0 => ("PegBox$Escrow", "amounts", "[I", true)
  | _ => ("PegBox$Escrow", "days", "[I", true)
def tyX2 : Nat → FieldType := fun k => match k with
  | 0 => .array .int
  | _ => .array .int
abbrev wsX20 : List Cond := u_ws RX2 TX2 2
theorem nmX2 : ∀ a, a < 2 → ∀ b, b < 2 → a ≠ b → (TX2 a).2.1 ≠ (TX2 b).2.1 := by decide +kernel
theorem tyX2_ok : ∀ k, k < 2 → parseFieldDescriptor (TX2 k).2.2.1 = some (tyX2 k) := by decide +kernel
abbrev cX2_init : ByteArray := prog_4_method_1_code
def yX2_init : MethodName := ⟨RX2, "<init>", "()V"⟩
abbrev cX2_total : ByteArray := prog_4_method_2_code
def yX2_total : MethodName := ⟨RX2, "total", "()I"⟩
abbrev cX2_totalAfter : ByteArray := prog_4_method_3_code
def yX2_totalAfter : MethodName := ⟨RX2, "totalAfter", "(I)I"⟩
def RX3 : String := "PegBox$Kinds"
def TX3 : u_T := fun k => match k with
  | 0 => ("PegBox$Kinds", "leasts", "[I", true)
  | 1 => ("PegBox$Kinds", "baskets", "[I", true)
  | 2 => ("PegBox$Kinds", "wholes", "[Z", true)
  | 3 => ("PegBox$Kinds", "caps", "[I", true)
  | _ => ("PegBox$Kinds", "lastDays", "[I", true)
def tyX3 : Nat → FieldType := fun k => match k with
  | 0 => .array .int
  | 1 => .array .int
  | 2 => .array .boolean
  | 3 => .array .int
  | _ => .array .int
abbrev wsX30 : List Cond := u_ws RX3 TX3 5
theorem nmX3 : ∀ a, a < 5 → ∀ b, b < 5 → a ≠ b → (TX3 a).2.1 ≠ (TX3 b).2.1 := by decide +kernel
theorem tyX3_ok : ∀ k, k < 5 → parseFieldDescriptor (TX3 k).2.2.1 = some (tyX3 k) := by decide +kernel
abbrev cX3_init : ByteArray := prog_5_method_1_code
def yX3_init : MethodName := ⟨RX3, "<init>", "()V"⟩
abbrev cX3_limit : ByteArray := prog_5_method_2_code
def yX3_limit : MethodName := ⟨RX3, "limit", "(II)I"⟩
abbrev cX3_pastBasket : ByteArray := prog_5_method_3_code
def yX3_pastBasket : MethodName := ⟨RX3, "pastBasket", "(II)I"⟩
def RX4 : String := "PegBox"
def TX4 : u_T := fun k => match k with
  | 0 => ("PegBox", "escrow", "LPegBox$Escrow;", true)
  | 1 => ("PegBox", "kinds", "LPegBox$Kinds;", true)
  | 2 => ("PegBox", "book", "LPegBox$ClaimBook;", true)
  | 3 => ("PegBox", "earnOut", "LPegBox$EarnOut;", true)
  | 4 => ("PegBox", "price", "I", false)
  | 5 => ("PegBox", "peg", "I", false)
  | 6 => ("PegBox", "collar", "I", false)
  | 7 => ("PegBox", "day", "I", false)
  | 8 => ("PegBox", "finalPrice", "I", false)
  | 9 => ("PegBox", "held", "I", false)
  | 10 => ("PegBox", "paid", "I", false)
  | 11 => ("PegBox", "returned", "I", false)
  | 12 => ("PegBox", "setOff", "I", false)
  | _ => ("PegBox", "owed", "I", false)
def tyX4 : Nat → FieldType := fun k => match k with
  | 0 => .object "PegBox$Escrow"
  | 1 => .object "PegBox$Kinds"
  | 2 => .object "PegBox$ClaimBook"
  | 3 => .object "PegBox$EarnOut"
  | 4 => .int
  | 5 => .int
  | 6 => .int
  | 7 => .int
  | 8 => .int
  | 9 => .int
  | 10 => .int
  | 11 => .int
  | 12 => .int
  | _ => .int
abbrev wsX40 : List Cond := u_ws RX4 TX4 14
theorem nmX4 : ∀ a, a < 14 → ∀ b, b < 14 → a ≠ b → (TX4 a).2.1 ≠ (TX4 b).2.1 := by decide +kernel
theorem tyX4_ok : ∀ k, k < 14 → parseFieldDescriptor (TX4 k).2.2.1 = some (tyX4 k) := by decide +kernel
abbrev cX4_init : ByteArray := prog_1_method_1_code
def yX4_init : MethodName := ⟨RX4, "<init>", "()V"⟩
abbrev cX4_setPrice : ByteArray := prog_1_method_2_code
def yX4_setPrice : MethodName := ⟨RX4, "setPrice", "(III)V"⟩
abbrev cX4_setPart : ByteArray := prog_1_method_3_code
def yX4_setPart : MethodName := ⟨RX4, "setPart", "(III)V"⟩
abbrev cX4_setKind : ByteArray := prog_1_method_4_code
def yX4_setKind : MethodName := ⟨RX4, "setKind", "(IIIZII)V"⟩
abbrev cX4_setYear : ByteArray := prog_1_method_5_code
def yX4_setYear : MethodName := ⟨RX4, "setYear", "(III)V"⟩
abbrev cX4_setCarry : ByteArray := prog_1_method_6_code
def yX4_setCarry : MethodName := ⟨RX4, "setCarry", "(Z)V"⟩
abbrev cX4_close : ByteArray := prog_1_method_7_code
def yX4_close : MethodName := ⟨RX4, "close", "(III)I"⟩
abbrev cX4_advance : ByteArray := prog_1_method_8_code
def yX4_advance : MethodName := ⟨RX4, "advance", "(I)I"⟩
abbrev cX4_claim : ByteArray := prog_1_method_9_code
def yX4_claim : MethodName := ⟨RX4, "claim", "(II)I"⟩
abbrev cX4_offer : ByteArray := prog_1_method_10_code
def yX4_offer : MethodName := ⟨RX4, "offer", "(II)I"⟩
abbrev cX4_agree : ByteArray := prog_1_method_11_code
def yX4_agree : MethodName := ⟨RX4, "agree", "(I)I"⟩
abbrev cX4_decide : ByteArray := prog_1_method_12_code
def yX4_decide : MethodName := ⟨RX4, "decide", "(II)I"⟩
abbrev cX4_report : ByteArray := prog_1_method_13_code
def yX4_report : MethodName := ⟨RX4, "report", "(I)I"⟩
abbrev cX4_speedUp : ByteArray := prog_1_method_14_code
def yX4_speedUp : MethodName := ⟨RX4, "speedUp", "()I"⟩
abbrev cX4_day : ByteArray := prog_1_method_15_code
def yX4_day : MethodName := ⟨RX4, "day", "()I"⟩
abbrev cX4_finalPrice : ByteArray := prog_1_method_16_code
def yX4_finalPrice : MethodName := ⟨RX4, "finalPrice", "()I"⟩
abbrev cX4_held : ByteArray := prog_1_method_17_code
def yX4_held : MethodName := ⟨RX4, "held", "()I"⟩
abbrev cX4_paid : ByteArray := prog_1_method_18_code
def yX4_paid : MethodName := ⟨RX4, "paid", "()I"⟩
abbrev cX4_returned : ByteArray := prog_1_method_19_code
def yX4_returned : MethodName := ⟨RX4, "returned", "()I"⟩
abbrev cX4_setOff : ByteArray := prog_1_method_20_code
def yX4_setOff : MethodName := ⟨RX4, "setOff", "()I"⟩
abbrev cX4_owed : ByteArray := prog_1_method_21_code
def yX4_owed : MethodName := ⟨RX4, "owed", "()I"⟩
abbrev cX4_due : ByteArray := prog_1_method_22_code
def yX4_due : MethodName := ⟨RX4, "due", "()I"⟩
abbrev cX4_outstanding : ByteArray := prog_1_method_23_code
def yX4_outstanding : MethodName := ⟨RX4, "outstanding", "()I"⟩
abbrev cX4_dueOf : ByteArray := prog_1_method_24_code
def yX4_dueOf : MethodName := ⟨RX4, "dueOf", "(I)I"⟩
abbrev cX4_claims : ByteArray := prog_1_method_25_code
def yX4_claims : MethodName := ⟨RX4, "claims", "()I"⟩
abbrev cX4_settledAt : ByteArray := prog_1_method_26_code
def yX4_settledAt : MethodName := ⟨RX4, "settledAt", "(I)I"⟩
abbrev cX4_isMet : ByteArray := prog_1_method_27_code
def yX4_isMet : MethodName := ⟨RX4, "isMet", "(I)Z"⟩
abbrev cX4_checkNumber : ByteArray := prog_1_method_28_code
def yX4_checkNumber : MethodName := ⟨RX4, "checkNumber", "(II)V"⟩
abbrev cX4_checkRange : ByteArray := prog_1_method_29_code
def yX4_checkRange : MethodName := ⟨RX4, "checkRange", "(III)V"⟩
abbrev cX4_checkOpen : ByteArray := prog_1_method_30_code
def yX4_checkOpen : MethodName := ⟨RX4, "checkOpen", "(I)V"⟩
abbrev cX4_checkNotClosed : ByteArray := prog_1_method_31_code
def yX4_checkNotClosed : MethodName := ⟨RX4, "checkNotClosed", "()V"⟩
abbrev cX4_checkClosed : ByteArray := prog_1_method_32_code
def yX4_checkClosed : MethodName := ⟨RX4, "checkClosed", "()V"⟩
abbrev cX4_beyondCollar : ByteArray := prog_1_method_33_code
def yX4_beyondCollar : MethodName := ⟨RX4, "beyondCollar", "(I)I"⟩
abbrev cX4_dueOfKind : ByteArray := prog_1_method_34_code
def yX4_dueOfKind : MethodName := ⟨RX4, "dueOfKind", "(I)I"⟩
abbrev cX4_dueInAll : ByteArray := prog_1_method_35_code
def yX4_dueInAll : MethodName := ⟨RX4, "dueInAll", "()I"⟩
abbrev cX4_leftOutstanding : ByteArray := prog_1_method_36_code
def yX4_leftOutstanding : MethodName := ⟨RX4, "leftOutstanding", "()I"⟩
abbrev cX4_payOut : ByteArray := prog_1_method_37_code
def yX4_payOut : MethodName := ⟨RX4, "payOut", "()I"⟩
abbrev cX4_free : ByteArray := prog_1_method_38_code
def yX4_free : MethodName := ⟨RX4, "free", "()V"⟩
abbrev cX4_owe : ByteArray := prog_1_method_39_code
def yX4_owe : MethodName := ⟨RX4, "owe", "(I)I"⟩
def RX5 : String := "PegBoxModel"
def TX5 : u_T := fun k => match k with
  | 0 => ("PegBoxModel", "price", "I", false)
  | 1 => ("PegBoxModel", "peg", "I", false)
  | 2 => ("PegBoxModel", "collar", "I", false)
  | 3 => ("PegBoxModel", "partAmount", "[I", true)
  | 4 => ("PegBoxModel", "partDay", "[I", true)
  | 5 => ("PegBoxModel", "least", "[I", true)
  | 6 => ("PegBoxModel", "basket", "[I", true)
  | 7 => ("PegBoxModel", "whole", "[Z", true)
  | 8 => ("PegBoxModel", "cap", "[I", true)
  | 9 => ("PegBoxModel", "lastDay", "[I", true)
  | 10 => ("PegBoxModel", "target", "[I", true)
  | 11 => ("PegBoxModel", "yearAmount", "[I", true)
  | 12 => ("PegBoxModel", "carried", "Z", false)
  | 13 => ("PegBoxModel", "closed", "Z", false)
  | 14 => ("PegBoxModel", "day", "I", false)
  | 15 => ("PegBoxModel", "finals", "I", false)
  | 16 => ("PegBoxModel", "held", "I", false)
  | 17 => ("PegBoxModel", "paid", "I", false)
  | 18 => ("PegBoxModel", "returned", "I", false)
  | 19 => ("PegBoxModel", "setOff", "I", false)
  | 20 => ("PegBoxModel", "owed", "I", false)
  | 21 => ("PegBoxModel", "kind", "[I", true)
  | 22 => ("PegBoxModel", "amount", "[I", true)
  | 23 => ("PegBoxModel", "offered", "[I", true)
  | 24 => ("PegBoxModel", "settled", "[I", true)
  | 25 => ("PegBoxModel", "claims", "I", false)
  | 26 => ("PegBoxModel", "results", "[I", true)
  | 27 => ("PegBoxModel", "met", "[Z", true)
  | 28 => ("PegBoxModel", "told", "I", false)
  | 29 => ("PegBoxModel", "sped", "Z", false)
  | _ => ("PegBoxModel", "thrown", "I", false)
def tyX5 : Nat → FieldType := fun k => match k with
  | 0 => .int
  | 1 => .int
  | 2 => .int
  | 3 => .array .int
  | 4 => .array .int
  | 5 => .array .int
  | 6 => .array .int
  | 7 => .array .boolean
  | 8 => .array .int
  | 9 => .array .int
  | 10 => .array .int
  | 11 => .array .int
  | 12 => .boolean
  | 13 => .boolean
  | 14 => .int
  | 15 => .int
  | 16 => .int
  | 17 => .int
  | 18 => .int
  | 19 => .int
  | 20 => .int
  | 21 => .array .int
  | 22 => .array .int
  | 23 => .array .int
  | 24 => .array .int
  | 25 => .int
  | 26 => .array .int
  | 27 => .array .boolean
  | 28 => .int
  | 29 => .boolean
  | _ => .int
abbrev wsX50 : List Cond := u_ws RX5 TX5 31
theorem nmX5 : ∀ a, a < 31 → ∀ b, b < 31 → a ≠ b → (TX5 a).2.1 ≠ (TX5 b).2.1 := by decide +kernel
theorem tyX5_ok : ∀ k, k < 31 → parseFieldDescriptor (TX5 k).2.2.1 = some (tyX5 k) := by decide +kernel
abbrev cX5_init : ByteArray := prog_7_method_1_code
def yX5_init : MethodName := ⟨RX5, "<init>", "()V"⟩
abbrev cX5_thrown : ByteArray := prog_7_method_2_code
def yX5_thrown : MethodName := ⟨RX5, "thrown", "()I"⟩
abbrev cX5_in : ByteArray := prog_7_method_3_code
def yX5_in : MethodName := ⟨RX5, "in", "(III)Z"⟩
abbrev cX5_isFine : ByteArray := prog_7_method_4_code
def yX5_isFine : MethodName := ⟨RX5, "isFine", "(I)Z"⟩
abbrev cX5_setPrice : ByteArray := prog_7_method_5_code
def yX5_setPrice : MethodName := ⟨RX5, "setPrice", "(III)V"⟩
abbrev cX5_setPart : ByteArray := prog_7_method_6_code
def yX5_setPart : MethodName := ⟨RX5, "setPart", "(III)V"⟩
abbrev cX5_setKind : ByteArray := prog_7_method_7_code
def yX5_setKind : MethodName := ⟨RX5, "setKind", "(IIIZII)V"⟩
abbrev cX5_setYear : ByteArray := prog_7_method_8_code
def yX5_setYear : MethodName := ⟨RX5, "setYear", "(III)V"⟩
abbrev cX5_setCarry : ByteArray := prog_7_method_9_code
def yX5_setCarry : MethodName := ⟨RX5, "setCarry", "(Z)V"⟩
abbrev cX5_close : ByteArray := prog_7_method_10_code
def yX5_close : MethodName := ⟨RX5, "close", "(III)I"⟩
abbrev cX5_frees : ByteArray := prog_7_method_11_code
def yX5_frees : MethodName := ⟨RX5, "frees", "()V"⟩
abbrev cX5_advance : ByteArray := prog_7_method_12_code
def yX5_advance : MethodName := ⟨RX5, "advance", "(I)I"⟩
abbrev cX5_claim : ByteArray := prog_7_method_13_code
def yX5_claim : MethodName := ⟨RX5, "claim", "(II)I"⟩
abbrev cX5_isClaim : ByteArray := prog_7_method_14_code
def yX5_isClaim : MethodName := ⟨RX5, "isClaim", "(I)Z"⟩
abbrev cX5_offer : ByteArray := prog_7_method_15_code
def yX5_offer : MethodName := ⟨RX5, "offer", "(II)I"⟩
abbrev cX5_dueFor : ByteArray := prog_7_method_16_code
def yX5_dueFor : MethodName := ⟨RX5, "dueFor", "(I)I"⟩
abbrev cX5_dueAll : ByteArray := prog_7_method_17_code
def yX5_dueAll : MethodName := ⟨RX5, "dueAll", "()I"⟩
abbrev cX5_open : ByteArray := prog_7_method_18_code
def yX5_open : MethodName := ⟨RX5, "open", "()I"⟩
abbrev cX5_settles : ByteArray := prog_7_method_19_code
def yX5_settles : MethodName := ⟨RX5, "settles", "(II)I"⟩
abbrev cX5_agree : ByteArray := prog_7_method_20_code
def yX5_agree : MethodName := ⟨RX5, "agree", "(I)I"⟩
abbrev cX5_decide : ByteArray := prog_7_method_21_code
def yX5_decide : MethodName := ⟨RX5, "decide", "(II)I"⟩
abbrev cX5_owes : ByteArray := prog_7_method_22_code
def yX5_owes : MethodName := ⟨RX5, "owes", "(I)I"⟩
abbrev cX5_report : ByteArray := prog_7_method_23_code
def yX5_report : MethodName := ⟨RX5, "report", "(I)I"⟩
abbrev cX5_speedUp : ByteArray := prog_7_method_24_code
def yX5_speedUp : MethodName := ⟨RX5, "speedUp", "()I"⟩
abbrev cX5_day : ByteArray := prog_7_method_25_code
def yX5_day : MethodName := ⟨RX5, "day", "()I"⟩
abbrev cX5_finalPrice : ByteArray := prog_7_method_26_code
def yX5_finalPrice : MethodName := ⟨RX5, "finalPrice", "()I"⟩
abbrev cX5_held : ByteArray := prog_7_method_27_code
def yX5_held : MethodName := ⟨RX5, "held", "()I"⟩
abbrev cX5_paid : ByteArray := prog_7_method_28_code
def yX5_paid : MethodName := ⟨RX5, "paid", "()I"⟩
abbrev cX5_returned : ByteArray := prog_7_method_29_code
def yX5_returned : MethodName := ⟨RX5, "returned", "()I"⟩
abbrev cX5_setOff : ByteArray := prog_7_method_30_code
def yX5_setOff : MethodName := ⟨RX5, "setOff", "()I"⟩
abbrev cX5_owed : ByteArray := prog_7_method_31_code
def yX5_owed : MethodName := ⟨RX5, "owed", "()I"⟩
abbrev cX5_due : ByteArray := prog_7_method_32_code
def yX5_due : MethodName := ⟨RX5, "due", "()I"⟩
abbrev cX5_outstanding : ByteArray := prog_7_method_33_code
def yX5_outstanding : MethodName := ⟨RX5, "outstanding", "()I"⟩
abbrev cX5_dueOf : ByteArray := prog_7_method_34_code
def yX5_dueOf : MethodName := ⟨RX5, "dueOf", "(I)I"⟩
abbrev cX5_claims : ByteArray := prog_7_method_35_code
def yX5_claims : MethodName := ⟨RX5, "claims", "()I"⟩
abbrev cX5_settledAt : ByteArray := prog_7_method_36_code
def yX5_settledAt : MethodName := ⟨RX5, "settledAt", "(I)I"⟩
abbrev cX5_isMet : ByteArray := prog_7_method_37_code
def yX5_isMet : MethodName := ⟨RX5, "isMet", "(I)Z"⟩
def RJ9 : String := "java/lang/Math"
def TJ9 : u_T := fun k => match k with
  | _ => ("", "", "", false)
def tyJ9 : Nat → FieldType := fun k => match k with
  | _ => .int
abbrev wsJ90 : List Cond := u_ws RJ9 TJ9 0
theorem nmJ9 : ∀ a, a < 0 → ∀ b, b < 0 → a ≠ b → (TJ9 a).2.1 ≠ (TJ9 b).2.1 := by decide +kernel
theorem tyJ9_ok : ∀ k, k < 0 → parseFieldDescriptor (TJ9 k).2.2.1 = some (tyJ9 k) := by decide +kernel
abbrev cJ9_max_7cf53 : ByteArray := prog_12_method_65_code
def yJ9_max_7cf53 : MethodName := ⟨RJ9, "max", "(II)I"⟩
abbrev cJ9_min_7cf53 : ByteArray := prog_12_method_69_code
def yJ9_min_7cf53 : MethodName := ⟨RJ9, "min", "(II)I"⟩
def RJ0 : String := "java/lang/String"
def TJ0 : u_T := fun k => match k with
  | _ => ("", "", "", false)
def tyJ0 : Nat → FieldType := fun k => match k with
  | _ => .int
abbrev wsJ00 : List Cond := u_ws RJ0 TJ0 0
theorem nmJ0 : ∀ a, a < 0 → ∀ b, b < 0 → a ≠ b → (TJ0 a).2.1 ≠ (TJ0 b).2.1 := by decide +kernel
theorem tyJ0_ok : ∀ k, k < 0 → parseFieldDescriptor (TJ0 k).2.2.1 = some (tyJ0 k) := by decide +kernel
def RL : String := "PegBoxLaw"
abbrev cL_setPrice : ByteArray := method_3_code
def yL_setPrice : MethodName := ⟨RL, "setPrice", "(LPegBox;III)I"⟩
abbrev cL_setPart : ByteArray := method_4_code
def yL_setPart : MethodName := ⟨RL, "setPart", "(LPegBox;III)I"⟩
abbrev cL_setKind : ByteArray := method_5_code
def yL_setKind : MethodName := ⟨RL, "setKind", "(LPegBox;IIIZII)I"⟩
abbrev cL_setYear : ByteArray := method_6_code
def yL_setYear : MethodName := ⟨RL, "setYear", "(LPegBox;III)I"⟩
abbrev cL_setCarry : ByteArray := method_7_code
def yL_setCarry : MethodName := ⟨RL, "setCarry", "(LPegBox;Z)I"⟩
abbrev cL_close : ByteArray := method_8_code
def yL_close : MethodName := ⟨RL, "close", "(LPegBox;III[J)I"⟩
abbrev cL_advance : ByteArray := method_9_code
def yL_advance : MethodName := ⟨RL, "advance", "(LPegBox;I[J)I"⟩
abbrev cL_claim : ByteArray := method_10_code
def yL_claim : MethodName := ⟨RL, "claim", "(LPegBox;II[J)I"⟩
abbrev cL_offer : ByteArray := method_11_code
def yL_offer : MethodName := ⟨RL, "offer", "(LPegBox;II[J)I"⟩
abbrev cL_agree : ByteArray := method_12_code
def yL_agree : MethodName := ⟨RL, "agree", "(LPegBox;I[J)I"⟩
abbrev cL_decide : ByteArray := method_13_code
def yL_decide : MethodName := ⟨RL, "decide", "(LPegBox;II[J)I"⟩
abbrev cL_report : ByteArray := method_14_code
def yL_report : MethodName := ⟨RL, "report", "(LPegBox;I[J)I"⟩
abbrev cL_speedUp : ByteArray := method_15_code
def yL_speedUp : MethodName := ⟨RL, "speedUp", "(LPegBox;[J)I"⟩
abbrev cL_dueOf : ByteArray := method_16_code
def yL_dueOf : MethodName := ⟨RL, "dueOf", "(LPegBox;I[J)I"⟩
abbrev cL_settledAt : ByteArray := method_17_code
def yL_settledAt : MethodName := ⟨RL, "settledAt", "(LPegBox;I[J)I"⟩
abbrev cL_isMet : ByteArray := method_18_code
def yL_isMet : MethodName := ⟨RL, "isMet", "(LPegBox;I[J)I"⟩
abbrev cL_law : ByteArray := code
def yL_law : MethodName := ⟨RL, "law", "([I)Z"⟩
def wsX0_init : List Cond := .code yX0_init cX0_init 1 none :: ([.methodLink RX0 3 objectInit, .instanceMethod objectInit, .code objectInit ⟨#[0xb1]⟩ 1 none, .arrayClass .int, .fieldLink RX0 9 "PegBox$ClaimBook" "kinds" "[I", .fieldLink RX0 15 "PegBox$ClaimBook" "amounts" "[I", .fieldLink RX0 18 "PegBox$ClaimBook" "offers" "[I", .fieldLink RX0 21 "PegBox$ClaimBook" "settled" "[I"] ++ wsX00)
def wsX0_settledSum : List Cond := .code yX0_settledSum cX0_settledSum 5 (some .int) :: ([.fieldLink RX0 24 "PegBox$ClaimBook" "count" "I", .fieldLink RX0 9 "PegBox$ClaimBook" "kinds" "[I", .fieldLink RX0 21 "PegBox$ClaimBook" "settled" "[I"] ++ wsX00)
def wsX0_openSum : List Cond := .code yX0_openSum cX0_openSum 3 (some .int) :: ([.fieldLink RX0 24 "PegBox$ClaimBook" "count" "I", .fieldLink RX0 21 "PegBox$ClaimBook" "settled" "[I", .fieldLink RX0 15 "PegBox$ClaimBook" "amounts" "[I"] ++ wsX00)
def wsX1_init : List Cond := .code yX1_init cX1_init 1 none :: ([.methodLink RX1 3 objectInit, .instanceMethod objectInit, .code objectInit ⟨#[0xb1]⟩ 1 none, .arrayClass .int, .fieldLink RX1 9 "PegBox$EarnOut" "targets" "[I", .fieldLink RX1 15 "PegBox$EarnOut" "amounts" "[I", .arrayClass .boolean, .fieldLink RX1 18 "PegBox$EarnOut" "met" "[Z"] ++ wsX10)
def wsX1_meet : List Cond := .code yX1_meet cX1_meet 5 (some .int) :: ([.fieldLink RX1 18 "PegBox$EarnOut" "met" "[Z", .fieldLink RX1 15 "PegBox$EarnOut" "amounts" "[I"] ++ wsX10)
def wsX1_tell : List Cond := .code yX1_tell cX1_tell 3 (some .int) :: ([.fieldLink RX1 22 "PegBox$EarnOut" "told" "I", .fieldLink RX1 26 "PegBox$EarnOut" "resultSum" "I", .fieldLink RX1 29 "PegBox$EarnOut" "targetSum" "I", .fieldLink RX1 9 "PegBox$EarnOut" "targets" "[I", .fieldLink RX1 32 "PegBox$EarnOut" "isCarried" "Z", .methodLink RX1 36 yX1_meet, .instanceMethod yX1_meet, .selects RX1 yX1_meet yX1_meet, .initialized RX1, .code yX1_meet cX1_meet 5 (some .int), .fieldLink RX1 18 "PegBox$EarnOut" "met" "[Z", .fieldLink RX1 15 "PegBox$EarnOut" "amounts" "[I"] ++ wsX10)
def wsX1_hasten : List Cond := .code yX1_hasten cX1_hasten 1 (some .int) :: ([.fieldLink RX1 40 "PegBox$EarnOut" "isSpedUp" "Z", .fieldLink RX1 22 "PegBox$EarnOut" "told" "I", .methodLink RX1 36 yX1_meet, .instanceMethod yX1_meet, .selects RX1 yX1_meet yX1_meet, .initialized RX1, .code yX1_meet cX1_meet 5 (some .int), .fieldLink RX1 18 "PegBox$EarnOut" "met" "[Z", .fieldLink RX1 15 "PegBox$EarnOut" "amounts" "[I"] ++ wsX10)
def wsX2_init : List Cond := .code yX2_init cX2_init 1 none :: ([.methodLink RX2 3 objectInit, .instanceMethod objectInit, .code objectInit ⟨#[0xb1]⟩ 1 none, .arrayClass .int, .fieldLink RX2 9 "PegBox$Escrow" "amounts" "[I", .fieldLink RX2 15 "PegBox$Escrow" "days" "[I"] ++ wsX20)
def wsX2_total : List Cond := .code yX2_total cX2_total 3 (some .int) :: ([.fieldLink RX2 9 "PegBox$Escrow" "amounts" "[I"] ++ wsX20)
def wsX2_totalAfter : List Cond := .code yX2_totalAfter cX2_totalAfter 4 (some .int) :: ([.fieldLink RX2 15 "PegBox$Escrow" "days" "[I", .fieldLink RX2 9 "PegBox$Escrow" "amounts" "[I"] ++ wsX20)
def wsX3_init : List Cond := .code yX3_init cX3_init 1 none :: ([.methodLink RX3 3 objectInit, .instanceMethod objectInit, .code objectInit ⟨#[0xb1]⟩ 1 none, .arrayClass .int, .fieldLink RX3 9 "PegBox$Kinds" "leasts" "[I", .fieldLink RX3 15 "PegBox$Kinds" "baskets" "[I", .arrayClass .boolean, .fieldLink RX3 18 "PegBox$Kinds" "wholes" "[Z", .fieldLink RX3 22 "PegBox$Kinds" "caps" "[I", .fieldLink RX3 25 "PegBox$Kinds" "lastDays" "[I"] ++ wsX30)
def wsX3_pastBasket : List Cond := .code yX3_pastBasket cX3_pastBasket 4 (some .int) :: ([.fieldLink RX3 15 "PegBox$Kinds" "baskets" "[I", .fieldLink RX3 18 "PegBox$Kinds" "wholes" "[Z"] ++ wsX30)
def wsX3_limit : List Cond := .code yX3_limit cX3_limit 3 (some .int) :: ([.fieldLink RX3 22 "PegBox$Kinds" "caps" "[I", .methodLink RX3 32 Lib.Math.min.name, .static Lib.Math.min.name, .initialized "java/lang/Math", .code Lib.Math.min.name Lib.Math.min.code 2 (some .int), .methodLink RX3 28 yX3_pastBasket, .instanceMethod yX3_pastBasket, .selects RX3 yX3_pastBasket yX3_pastBasket, .initialized RX3, .code yX3_pastBasket cX3_pastBasket 4 (some .int), .fieldLink RX3 15 "PegBox$Kinds" "baskets" "[I", .fieldLink RX3 18 "PegBox$Kinds" "wholes" "[Z"] ++ wsX30)
def wsX4_init_r1 : List Cond := [Cond.methodLink RX4 1 objectInit, Cond.instanceMethod objectInit, Cond.code objectInit ⟨#[0xb1]⟩ 1 none, Cond.classLink RX4 7 RX2, Cond.instantiable RX2 2, Cond.initialized RX2, Cond.fieldLink RX4 10 "PegBox" "escrow" "LPegBox$Escrow;", Cond.classLink RX4 16 RX3, Cond.instantiable RX3 5, Cond.initialized RX3, Cond.fieldLink RX4 19 "PegBox" "kinds" "LPegBox$Kinds;", Cond.classLink RX4 23 RX0, Cond.instantiable RX0 5, Cond.initialized RX0, Cond.fieldLink RX4 26 "PegBox" "book" "LPegBox$ClaimBook;", Cond.classLink RX4 30 RX1, Cond.instantiable RX1 8, Cond.initialized RX1, Cond.fieldLink RX4 33 "PegBox" "earnOut" "LPegBox$EarnOut;", Cond.fieldLink RX4 37 "PegBox" "day" "I", Cond.fieldLink RX4 41 "PegBox" "finalPrice" "I", Cond.methodLink RX4 9 yX2_init, Cond.instanceMethod yX2_init, Cond.code yX2_init cX2_init 1 none]
def wsX4_init_r2 : List Cond := [Cond.methodLink RX2 3 objectInit, Cond.arrayClass .int, Cond.fieldLink RX2 9 "PegBox$Escrow" "amounts" "[I", Cond.fieldLink RX2 15 "PegBox$Escrow" "days" "[I", Cond.methodLink RX4 18 yX3_init, Cond.instanceMethod yX3_init, Cond.code yX3_init cX3_init 1 none, Cond.methodLink RX3 3 objectInit, Cond.fieldLink RX3 9 "PegBox$Kinds" "leasts" "[I", Cond.fieldLink RX3 15 "PegBox$Kinds" "baskets" "[I", Cond.arrayClass .boolean, Cond.fieldLink RX3 18 "PegBox$Kinds" "wholes" "[Z", Cond.fieldLink RX3 22 "PegBox$Kinds" "caps" "[I", Cond.fieldLink RX3 25 "PegBox$Kinds" "lastDays" "[I", Cond.methodLink RX4 25 yX0_init, Cond.instanceMethod yX0_init, Cond.code yX0_init cX0_init 1 none, Cond.methodLink RX0 3 objectInit, Cond.fieldLink RX0 9 "PegBox$ClaimBook" "kinds" "[I", Cond.fieldLink RX0 15 "PegBox$ClaimBook" "amounts" "[I", Cond.fieldLink RX0 18 "PegBox$ClaimBook" "offers" "[I", Cond.fieldLink RX0 21 "PegBox$ClaimBook" "settled" "[I", Cond.methodLink RX4 32 yX1_init, Cond.instanceMethod yX1_init]
def wsX4_init_r3 : List Cond := [Cond.code yX1_init cX1_init 1 none, Cond.methodLink RX1 3 objectInit, Cond.fieldLink RX1 9 "PegBox$EarnOut" "targets" "[I", Cond.fieldLink RX1 15 "PegBox$EarnOut" "amounts" "[I", Cond.fieldLink RX1 18 "PegBox$EarnOut" "met" "[Z"]
def wsX4_init : List Cond := .code yX4_init cX4_init 1 none :: ((wsX4_init_r1 ++ (wsX4_init_r2 ++ wsX4_init_r3)) ++ wsX20 ++ wsX40 ++ wsX30 ++ wsX00 ++ wsX10)
def wsX4_checkRange : List Cond := .code yX4_checkRange cX4_checkRange 3 none :: ([.classLink RX4 204 "java/lang/IllegalArgumentException", .initialized "java/lang/IllegalArgumentException"] ++ (vx_atS RX4 208 "java/lang/IllegalArgumentException" ["java/lang/RuntimeException", "java/lang/Exception"]).filter goodWord)
def wsX4_checkNotClosed : List Cond := .code yX4_checkNotClosed cX4_checkNotClosed 1 none :: ([.classLink RX4 124 "java/lang/IllegalStateException", .initialized "java/lang/IllegalStateException", .fieldLink RX4 37 "PegBox" "day" "I"] ++ wsX40 ++ (vx_atS RX4 128 "java/lang/IllegalStateException" ["java/lang/RuntimeException", "java/lang/Exception"]).filter goodWord)
def wsX4_setPrice : List Cond := .code yX4_setPrice cX4_setPrice 4 none :: ([.constant RX4 44 (10000000), .constant RX4 49 (-10000000), .fieldLink RX4 53 "PegBox" "price" "I", .fieldLink RX4 56 "PegBox" "peg" "I", .fieldLink RX4 59 "PegBox" "collar" "I", .methodLink RX4 45 yX4_checkRange, .static yX4_checkRange, .initialized RX4, .code yX4_checkRange cX4_checkRange 3 none, .classLink RX4 204 "java/lang/IllegalArgumentException", .initialized "java/lang/IllegalArgumentException", .methodLink RX4 50 yX4_checkNotClosed, .instanceMethod yX4_checkNotClosed, .selects RX4 yX4_checkNotClosed yX4_checkNotClosed, .code yX4_checkNotClosed cX4_checkNotClosed 1 none, .classLink RX4 124 "java/lang/IllegalStateException", .initialized "java/lang/IllegalStateException", .fieldLink RX4 37 "PegBox" "day" "I"] ++ wsX40 ++ (vx_atS RX4 208 "java/lang/IllegalArgumentException" ["java/lang/RuntimeException", "java/lang/Exception"]).filter goodWord ++ (vx_atS RX4 128 "java/lang/IllegalStateException" ["java/lang/RuntimeException", "java/lang/Exception"]).filter goodWord)
def wsX4_checkNumber : List Cond := .code yX4_checkNumber cX4_checkNumber 2 none :: ([.classLink RX4 199 "java/lang/IndexOutOfBoundsException", .initialized "java/lang/IndexOutOfBoundsException"] ++ (vx_atS RX4 203 "java/lang/IndexOutOfBoundsException" ["java/lang/RuntimeException", "java/lang/Exception"]).filter goodWord)
def wsX4_setPart : List Cond := .code yX4_setPart cX4_setPart 4 none :: ([.constant RX4 44 (10000000), .fieldLink RX4 10 "PegBox" "escrow" "LPegBox$Escrow;", .fieldLink RX4 66 "PegBox$Escrow" "amounts" "[I", .fieldLink RX4 70 "PegBox$Escrow" "days" "[I", .methodLink RX4 62 yX4_checkNumber, .static yX4_checkNumber, .initialized RX4, .code yX4_checkNumber cX4_checkNumber 2 none, .classLink RX4 199 "java/lang/IndexOutOfBoundsException", .initialized "java/lang/IndexOutOfBoundsException", .methodLink RX4 45 yX4_checkRange, .static yX4_checkRange, .code yX4_checkRange cX4_checkRange 3 none, .classLink RX4 204 "java/lang/IllegalArgumentException", .initialized "java/lang/IllegalArgumentException", .methodLink RX4 50 yX4_checkNotClosed, .instanceMethod yX4_checkNotClosed, .selects RX4 yX4_checkNotClosed yX4_checkNotClosed, .code yX4_checkNotClosed cX4_checkNotClosed 1 none, .classLink RX4 124 "java/lang/IllegalStateException", .initialized "java/lang/IllegalStateException", .fieldLink RX4 37 "PegBox" "day" "I"] ++ wsX40 ++ wsX20 ++ (vx_atS RX4 203 "java/lang/IndexOutOfBoundsException" ["java/lang/RuntimeException", "java/lang/Exception"]).filter goodWord ++ (vx_atS RX4 208 "java/lang/IllegalArgumentException" ["java/lang/RuntimeException", "java/lang/Exception"]).filter goodWord ++ (vx_atS RX4 128 "java/lang/IllegalStateException" ["java/lang/RuntimeException", "java/lang/Exception"]).filter goodWord)
def wsX4_setKind_r1 : List Cond := [Cond.constant RX4 44 (10000000), Cond.constant RX4 73 (100000000), Cond.fieldLink RX4 19 "PegBox" "kinds" "LPegBox$Kinds;", Cond.fieldLink RX4 74 "PegBox$Kinds" "leasts" "[I", Cond.fieldLink RX4 77 "PegBox$Kinds" "baskets" "[I", Cond.fieldLink RX4 80 "PegBox$Kinds" "wholes" "[Z", Cond.fieldLink RX4 84 "PegBox$Kinds" "caps" "[I", Cond.fieldLink RX4 87 "PegBox$Kinds" "lastDays" "[I", Cond.methodLink RX4 62 yX4_checkNumber, Cond.static yX4_checkNumber, Cond.initialized RX4, Cond.code yX4_checkNumber cX4_checkNumber 2 none, Cond.classLink RX4 199 "java/lang/IndexOutOfBoundsException", Cond.initialized "java/lang/IndexOutOfBoundsException", Cond.methodLink RX4 45 yX4_checkRange, Cond.static yX4_checkRange, Cond.code yX4_checkRange cX4_checkRange 3 none, Cond.classLink RX4 204 "java/lang/IllegalArgumentException", Cond.initialized "java/lang/IllegalArgumentException", Cond.methodLink RX4 50 yX4_checkNotClosed, Cond.instanceMethod yX4_checkNotClosed, Cond.selects RX4 yX4_checkNotClosed yX4_checkNotClosed, Cond.code yX4_checkNotClosed cX4_checkNotClosed 1 none, Cond.classLink RX4 124 "java/lang/IllegalStateException"]
def wsX4_setKind_r2 : List Cond := [Cond.initialized "java/lang/IllegalStateException", Cond.fieldLink RX4 37 "PegBox" "day" "I"]
def wsX4_setKind : List Cond := .code yX4_setKind cX4_setKind 7 none :: ((wsX4_setKind_r1 ++ wsX4_setKind_r2) ++ wsX40 ++ wsX30 ++ (vx_atS RX4 203 "java/lang/IndexOutOfBoundsException" ["java/lang/RuntimeException", "java/lang/Exception"]).filter goodWord ++ (vx_atS RX4 208 "java/lang/IllegalArgumentException" ["java/lang/RuntimeException", "java/lang/Exception"]).filter goodWord ++ (vx_atS RX4 128 "java/lang/IllegalStateException" ["java/lang/RuntimeException", "java/lang/Exception"]).filter goodWord)
def wsX4_setYear : List Cond := .code yX4_setYear cX4_setYear 4 none :: ([.constant RX4 44 (10000000), .fieldLink RX4 33 "PegBox" "earnOut" "LPegBox$EarnOut;", .fieldLink RX4 90 "PegBox$EarnOut" "targets" "[I", .fieldLink RX4 93 "PegBox$EarnOut" "amounts" "[I", .methodLink RX4 62 yX4_checkNumber, .static yX4_checkNumber, .initialized RX4, .code yX4_checkNumber cX4_checkNumber 2 none, .classLink RX4 199 "java/lang/IndexOutOfBoundsException", .initialized "java/lang/IndexOutOfBoundsException", .methodLink RX4 45 yX4_checkRange, .static yX4_checkRange, .code yX4_checkRange cX4_checkRange 3 none, .classLink RX4 204 "java/lang/IllegalArgumentException", .initialized "java/lang/IllegalArgumentException", .methodLink RX4 50 yX4_checkNotClosed, .instanceMethod yX4_checkNotClosed, .selects RX4 yX4_checkNotClosed yX4_checkNotClosed, .code yX4_checkNotClosed cX4_checkNotClosed 1 none, .classLink RX4 124 "java/lang/IllegalStateException", .initialized "java/lang/IllegalStateException", .fieldLink RX4 37 "PegBox" "day" "I"] ++ wsX40 ++ wsX10 ++ (vx_atS RX4 203 "java/lang/IndexOutOfBoundsException" ["java/lang/RuntimeException", "java/lang/Exception"]).filter goodWord ++ (vx_atS RX4 208 "java/lang/IllegalArgumentException" ["java/lang/RuntimeException", "java/lang/Exception"]).filter goodWord ++ (vx_atS RX4 128 "java/lang/IllegalStateException" ["java/lang/RuntimeException", "java/lang/Exception"]).filter goodWord)
def wsX4_setCarry : List Cond := .code yX4_setCarry cX4_setCarry 2 none :: ([.fieldLink RX4 33 "PegBox" "earnOut" "LPegBox$EarnOut;", .fieldLink RX4 94 "PegBox$EarnOut" "isCarried" "Z", .methodLink RX4 50 yX4_checkNotClosed, .instanceMethod yX4_checkNotClosed, .selects RX4 yX4_checkNotClosed yX4_checkNotClosed, .initialized RX4, .code yX4_checkNotClosed cX4_checkNotClosed 1 none, .classLink RX4 124 "java/lang/IllegalStateException", .initialized "java/lang/IllegalStateException", .fieldLink RX4 37 "PegBox" "day" "I"] ++ wsX40 ++ wsX10 ++ (vx_atS RX4 128 "java/lang/IllegalStateException" ["java/lang/RuntimeException", "java/lang/Exception"]).filter goodWord)
def wsX4_beyondCollar : List Cond := .code yX4_beyondCollar cX4_beyondCollar 2 (some .int) :: ([.fieldLink RX4 59 "PegBox" "collar" "I"] ++ wsX40)
def wsX4_close_r1 : List Cond := [Cond.constant RX4 44 (10000000), Cond.constant RX4 49 (-10000000), Cond.fieldLink RX4 37 "PegBox" "day" "I", Cond.fieldLink RX4 53 "PegBox" "price" "I", Cond.fieldLink RX4 56 "PegBox" "peg" "I", Cond.methodLink RX4 102 Lib.Math.max.name, Cond.static Lib.Math.max.name, Cond.initialized "java/lang/Math", Cond.code Lib.Math.max.name Lib.Math.max.code 2 (some .int), Cond.fieldLink RX4 41 "PegBox" "finalPrice" "I", Cond.fieldLink RX4 10 "PegBox" "escrow" "LPegBox$Escrow;", Cond.methodLink RX4 112 Lib.Math.min.name, Cond.static Lib.Math.min.name, Cond.code Lib.Math.min.name Lib.Math.min.code 2 (some .int), Cond.fieldLink RX4 115 "PegBox" "held" "I", Cond.fieldLink RX4 118 "PegBox" "paid" "I", Cond.methodLink RX4 45 yX4_checkRange, Cond.static yX4_checkRange, Cond.initialized RX4, Cond.code yX4_checkRange cX4_checkRange 3 none, Cond.classLink RX4 204 "java/lang/IllegalArgumentException", Cond.initialized "java/lang/IllegalArgumentException", Cond.methodLink RX4 50 yX4_checkNotClosed, Cond.instanceMethod yX4_checkNotClosed]
def wsX4_close_r2 : List Cond := [Cond.selects RX4 yX4_checkNotClosed yX4_checkNotClosed, Cond.code yX4_checkNotClosed cX4_checkNotClosed 1 none, Cond.classLink RX4 124 "java/lang/IllegalStateException", Cond.initialized "java/lang/IllegalStateException", Cond.methodLink RX4 98 yX4_beyondCollar, Cond.instanceMethod yX4_beyondCollar, Cond.selects RX4 yX4_beyondCollar yX4_beyondCollar, Cond.code yX4_beyondCollar cX4_beyondCollar 2 (some .int), Cond.fieldLink RX4 59 "PegBox" "collar" "I", Cond.methodLink RX4 108 yX2_total, Cond.instanceMethod yX2_total, Cond.selects RX2 yX2_total yX2_total, Cond.initialized RX2, Cond.code yX2_total cX2_total 3 (some .int), Cond.fieldLink RX2 9 "PegBox$Escrow" "amounts" "[I"]
def wsX4_close : List Cond := .code yX4_close cX4_close 4 (some .int) :: ((wsX4_close_r1 ++ wsX4_close_r2) ++ wsX40 ++ wsX20 ++ (vx_atS RX4 208 "java/lang/IllegalArgumentException" ["java/lang/RuntimeException", "java/lang/Exception"]).filter goodWord ++ (vx_atS RX4 128 "java/lang/IllegalStateException" ["java/lang/RuntimeException", "java/lang/Exception"]).filter goodWord)
def wsX4_checkClosed : List Cond := .code yX4_checkClosed cX4_checkClosed 1 none :: ([.classLink RX4 124 "java/lang/IllegalStateException", .initialized "java/lang/IllegalStateException", .fieldLink RX4 37 "PegBox" "day" "I"] ++ wsX40 ++ (vx_atS RX4 128 "java/lang/IllegalStateException" ["java/lang/RuntimeException", "java/lang/Exception"]).filter goodWord)
def wsX4_free : List Cond := .code yX4_free cX4_free 2 none :: ([.fieldLink RX4 10 "PegBox" "escrow" "LPegBox$Escrow;", .fieldLink RX4 37 "PegBox" "day" "I", .fieldLink RX4 26 "PegBox" "book" "LPegBox$ClaimBook;", .fieldLink RX4 115 "PegBox" "held" "I", .fieldLink RX4 118 "PegBox" "paid" "I", .methodLink RX4 221 yX2_totalAfter, .instanceMethod yX2_totalAfter, .selects RX2 yX2_totalAfter yX2_totalAfter, .initialized RX2, .code yX2_totalAfter cX2_totalAfter 4 (some .int), .fieldLink RX2 15 "PegBox$Escrow" "days" "[I", .fieldLink RX2 9 "PegBox$Escrow" "amounts" "[I", .methodLink RX4 224 yX0_openSum, .instanceMethod yX0_openSum, .selects RX0 yX0_openSum yX0_openSum, .initialized RX0, .code yX0_openSum cX0_openSum 3 (some .int), .fieldLink RX0 24 "PegBox$ClaimBook" "count" "I", .fieldLink RX0 21 "PegBox$ClaimBook" "settled" "[I", .fieldLink RX0 15 "PegBox$ClaimBook" "amounts" "[I"] ++ wsX40 ++ wsX20 ++ wsX00)
def wsX4_advance_r1 : List Cond := [Cond.classLink RX4 124 "java/lang/IllegalStateException", Cond.initialized "java/lang/IllegalStateException", Cond.fieldLink RX4 37 "PegBox" "day" "I", Cond.methodLink RX4 45 yX4_checkRange, Cond.static yX4_checkRange, Cond.initialized RX4, Cond.code yX4_checkRange cX4_checkRange 3 none, Cond.classLink RX4 204 "java/lang/IllegalArgumentException", Cond.initialized "java/lang/IllegalArgumentException", Cond.methodLink RX4 121 yX4_checkClosed, Cond.instanceMethod yX4_checkClosed, Cond.selects RX4 yX4_checkClosed yX4_checkClosed, Cond.code yX4_checkClosed cX4_checkClosed 1 none, Cond.methodLink RX4 131 yX4_free, Cond.instanceMethod yX4_free, Cond.selects RX4 yX4_free yX4_free, Cond.code yX4_free cX4_free 2 none, Cond.fieldLink RX4 10 "PegBox" "escrow" "LPegBox$Escrow;", Cond.fieldLink RX4 26 "PegBox" "book" "LPegBox$ClaimBook;", Cond.fieldLink RX4 115 "PegBox" "held" "I", Cond.fieldLink RX4 118 "PegBox" "paid" "I", Cond.methodLink RX4 221 yX2_totalAfter, Cond.instanceMethod yX2_totalAfter, Cond.selects RX2 yX2_totalAfter yX2_totalAfter]
def wsX4_advance_r2 : List Cond := [Cond.initialized RX2, Cond.code yX2_totalAfter cX2_totalAfter 4 (some .int), Cond.fieldLink RX2 15 "PegBox$Escrow" "days" "[I", Cond.fieldLink RX2 9 "PegBox$Escrow" "amounts" "[I", Cond.methodLink RX4 224 yX0_openSum, Cond.instanceMethod yX0_openSum, Cond.selects RX0 yX0_openSum yX0_openSum, Cond.initialized RX0, Cond.code yX0_openSum cX0_openSum 3 (some .int), Cond.fieldLink RX0 24 "PegBox$ClaimBook" "count" "I", Cond.fieldLink RX0 21 "PegBox$ClaimBook" "settled" "[I", Cond.fieldLink RX0 15 "PegBox$ClaimBook" "amounts" "[I"]
def wsX4_advance : List Cond := .code yX4_advance cX4_advance 2 (some .int) :: ((wsX4_advance_r1 ++ wsX4_advance_r2) ++ wsX40 ++ wsX20 ++ wsX00 ++ (vx_atS RX4 128 "java/lang/IllegalStateException" ["java/lang/RuntimeException", "java/lang/Exception"]).filter goodWord ++ (vx_atS RX4 208 "java/lang/IllegalArgumentException" ["java/lang/RuntimeException", "java/lang/Exception"]).filter goodWord)
def wsX4_claim_r1 : List Cond := [Cond.classLink RX4 124 "java/lang/IllegalStateException", Cond.initialized "java/lang/IllegalStateException", Cond.constant RX4 44 (10000000), Cond.fieldLink RX4 37 "PegBox" "day" "I", Cond.fieldLink RX4 19 "PegBox" "kinds" "LPegBox$Kinds;", Cond.fieldLink RX4 87 "PegBox$Kinds" "lastDays" "[I", Cond.fieldLink RX4 26 "PegBox" "book" "LPegBox$ClaimBook;", Cond.fieldLink RX4 136 "PegBox$ClaimBook" "count" "I", Cond.fieldLink RX4 141 "PegBox$ClaimBook" "kinds" "[I", Cond.fieldLink RX4 143 "PegBox$ClaimBook" "amounts" "[I", Cond.fieldLink RX4 144 "PegBox$ClaimBook" "offers" "[I", Cond.fieldLink RX4 147 "PegBox$ClaimBook" "settled" "[I", Cond.methodLink RX4 62 yX4_checkNumber, Cond.static yX4_checkNumber, Cond.initialized RX4, Cond.code yX4_checkNumber cX4_checkNumber 2 none, Cond.classLink RX4 199 "java/lang/IndexOutOfBoundsException", Cond.initialized "java/lang/IndexOutOfBoundsException", Cond.methodLink RX4 45 yX4_checkRange, Cond.static yX4_checkRange, Cond.code yX4_checkRange cX4_checkRange 3 none, Cond.classLink RX4 204 "java/lang/IllegalArgumentException", Cond.initialized "java/lang/IllegalArgumentException", Cond.methodLink RX4 121 yX4_checkClosed]
def wsX4_claim_r2 : List Cond := [Cond.instanceMethod yX4_checkClosed, Cond.selects RX4 yX4_checkClosed yX4_checkClosed, Cond.code yX4_checkClosed cX4_checkClosed 1 none]
def wsX4_claim : List Cond := .code yX4_claim cX4_claim 4 (some .int) :: ((wsX4_claim_r1 ++ wsX4_claim_r2) ++ wsX40 ++ wsX30 ++ wsX00 ++ (vx_atS RX4 128 "java/lang/IllegalStateException" ["java/lang/RuntimeException", "java/lang/Exception"]).filter goodWord ++ (vx_atS RX4 203 "java/lang/IndexOutOfBoundsException" ["java/lang/RuntimeException", "java/lang/Exception"]).filter goodWord ++ (vx_atS RX4 208 "java/lang/IllegalArgumentException" ["java/lang/RuntimeException", "java/lang/Exception"]).filter goodWord)
def wsX4_checkOpen : List Cond := .code yX4_checkOpen cX4_checkOpen 1 none :: ([.classLink RX4 124 "java/lang/IllegalStateException", .initialized "java/lang/IllegalStateException"] ++ (vx_atS RX4 128 "java/lang/IllegalStateException" ["java/lang/RuntimeException", "java/lang/Exception"]).filter goodWord)
def wsX4_offer : List Cond := .code yX4_offer cX4_offer 4 (some .int) :: ([.fieldLink RX4 26 "PegBox" "book" "LPegBox$ClaimBook;", .fieldLink RX4 136 "PegBox$ClaimBook" "count" "I", .fieldLink RX4 147 "PegBox$ClaimBook" "settled" "[I", .fieldLink RX4 143 "PegBox$ClaimBook" "amounts" "[I", .fieldLink RX4 144 "PegBox$ClaimBook" "offers" "[I", .methodLink RX4 62 yX4_checkNumber, .static yX4_checkNumber, .initialized RX4, .code yX4_checkNumber cX4_checkNumber 2 none, .classLink RX4 199 "java/lang/IndexOutOfBoundsException", .initialized "java/lang/IndexOutOfBoundsException", .methodLink RX4 150 yX4_checkOpen, .static yX4_checkOpen, .code yX4_checkOpen cX4_checkOpen 1 none, .classLink RX4 124 "java/lang/IllegalStateException", .initialized "java/lang/IllegalStateException", .methodLink RX4 45 yX4_checkRange, .static yX4_checkRange, .code yX4_checkRange cX4_checkRange 3 none, .classLink RX4 204 "java/lang/IllegalArgumentException", .initialized "java/lang/IllegalArgumentException"] ++ wsX40 ++ wsX00 ++ (vx_atS RX4 203 "java/lang/IndexOutOfBoundsException" ["java/lang/RuntimeException", "java/lang/Exception"]).filter goodWord ++ (vx_atS RX4 128 "java/lang/IllegalStateException" ["java/lang/RuntimeException", "java/lang/Exception"]).filter goodWord ++ (vx_atS RX4 208 "java/lang/IllegalArgumentException" ["java/lang/RuntimeException", "java/lang/Exception"]).filter goodWord)
def wsX4_dueOfKind_r1 : List Cond := [Cond.fieldLink RX4 19 "PegBox" "kinds" "LPegBox$Kinds;", Cond.fieldLink RX4 26 "PegBox" "book" "LPegBox$ClaimBook;", Cond.fieldLink RX4 74 "PegBox$Kinds" "leasts" "[I", Cond.methodLink RX4 215 yX0_settledSum, Cond.instanceMethod yX0_settledSum, Cond.selects RX0 yX0_settledSum yX0_settledSum, Cond.initialized RX0, Cond.code yX0_settledSum cX0_settledSum 5 (some .int), Cond.fieldLink RX0 24 "PegBox$ClaimBook" "count" "I", Cond.fieldLink RX0 9 "PegBox$ClaimBook" "kinds" "[I", Cond.fieldLink RX0 21 "PegBox$ClaimBook" "settled" "[I", Cond.methodLink RX4 218 yX3_limit, Cond.instanceMethod yX3_limit, Cond.selects RX3 yX3_limit yX3_limit, Cond.initialized RX3, Cond.code yX3_limit cX3_limit 3 (some .int), Cond.fieldLink RX3 22 "PegBox$Kinds" "caps" "[I", Cond.methodLink RX3 32 Lib.Math.min.name, Cond.static Lib.Math.min.name, Cond.initialized "java/lang/Math", Cond.code Lib.Math.min.name Lib.Math.min.code 2 (some .int), Cond.methodLink RX3 28 yX3_pastBasket, Cond.instanceMethod yX3_pastBasket, Cond.selects RX3 yX3_pastBasket yX3_pastBasket]
def wsX4_dueOfKind_r2 : List Cond := [Cond.code yX3_pastBasket cX3_pastBasket 4 (some .int), Cond.fieldLink RX3 15 "PegBox$Kinds" "baskets" "[I", Cond.fieldLink RX3 18 "PegBox$Kinds" "wholes" "[Z"]
def wsX4_dueOfKind : List Cond := .code yX4_dueOfKind cX4_dueOfKind 2 (some .int) :: ((wsX4_dueOfKind_r1 ++ wsX4_dueOfKind_r2) ++ wsX40 ++ wsX30 ++ wsX00)
def wsX4_dueInAll_r1 : List Cond := [Cond.methodLink RX4 193 yX4_dueOfKind, Cond.instanceMethod yX4_dueOfKind, Cond.selects RX4 yX4_dueOfKind yX4_dueOfKind, Cond.initialized RX4, Cond.code yX4_dueOfKind cX4_dueOfKind 2 (some .int), Cond.fieldLink RX4 19 "PegBox" "kinds" "LPegBox$Kinds;", Cond.fieldLink RX4 26 "PegBox" "book" "LPegBox$ClaimBook;", Cond.fieldLink RX4 74 "PegBox$Kinds" "leasts" "[I", Cond.methodLink RX4 215 yX0_settledSum, Cond.instanceMethod yX0_settledSum, Cond.selects RX0 yX0_settledSum yX0_settledSum, Cond.initialized RX0, Cond.code yX0_settledSum cX0_settledSum 5 (some .int), Cond.fieldLink RX0 24 "PegBox$ClaimBook" "count" "I", Cond.fieldLink RX0 9 "PegBox$ClaimBook" "kinds" "[I", Cond.fieldLink RX0 21 "PegBox$ClaimBook" "settled" "[I", Cond.methodLink RX4 218 yX3_limit, Cond.instanceMethod yX3_limit, Cond.selects RX3 yX3_limit yX3_limit, Cond.initialized RX3, Cond.code yX3_limit cX3_limit 3 (some .int), Cond.fieldLink RX3 22 "PegBox$Kinds" "caps" "[I", Cond.methodLink RX3 32 Lib.Math.min.name, Cond.static Lib.Math.min.name]
def wsX4_dueInAll_r2 : List Cond := [Cond.initialized "java/lang/Math", Cond.code Lib.Math.min.name Lib.Math.min.code 2 (some .int), Cond.methodLink RX3 28 yX3_pastBasket, Cond.instanceMethod yX3_pastBasket, Cond.selects RX3 yX3_pastBasket yX3_pastBasket, Cond.code yX3_pastBasket cX3_pastBasket 4 (some .int), Cond.fieldLink RX3 15 "PegBox$Kinds" "baskets" "[I", Cond.fieldLink RX3 18 "PegBox$Kinds" "wholes" "[Z"]
def wsX4_dueInAll : List Cond := .code yX4_dueInAll cX4_dueInAll 3 (some .int) :: ((wsX4_dueInAll_r1 ++ wsX4_dueInAll_r2) ++ wsX40 ++ wsX30 ++ wsX00)
def wsX4_leftOutstanding_r1 : List Cond := [Cond.fieldLink RX4 178 "PegBox" "returned" "I", Cond.fieldLink RX4 181 "PegBox" "setOff" "I", Cond.methodLink RX4 187 yX4_dueInAll, Cond.instanceMethod yX4_dueInAll, Cond.selects RX4 yX4_dueInAll yX4_dueInAll, Cond.initialized RX4, Cond.code yX4_dueInAll cX4_dueInAll 3 (some .int), Cond.methodLink RX4 193 yX4_dueOfKind, Cond.instanceMethod yX4_dueOfKind, Cond.selects RX4 yX4_dueOfKind yX4_dueOfKind, Cond.code yX4_dueOfKind cX4_dueOfKind 2 (some .int), Cond.fieldLink RX4 19 "PegBox" "kinds" "LPegBox$Kinds;", Cond.fieldLink RX4 26 "PegBox" "book" "LPegBox$ClaimBook;", Cond.fieldLink RX4 74 "PegBox$Kinds" "leasts" "[I", Cond.methodLink RX4 215 yX0_settledSum, Cond.instanceMethod yX0_settledSum, Cond.selects RX0 yX0_settledSum yX0_settledSum, Cond.initialized RX0, Cond.code yX0_settledSum cX0_settledSum 5 (some .int), Cond.fieldLink RX0 24 "PegBox$ClaimBook" "count" "I", Cond.fieldLink RX0 9 "PegBox$ClaimBook" "kinds" "[I", Cond.fieldLink RX0 21 "PegBox$ClaimBook" "settled" "[I", Cond.methodLink RX4 218 yX3_limit, Cond.instanceMethod yX3_limit]
def wsX4_leftOutstanding_r2 : List Cond := [Cond.selects RX3 yX3_limit yX3_limit, Cond.initialized RX3, Cond.code yX3_limit cX3_limit 3 (some .int), Cond.fieldLink RX3 22 "PegBox$Kinds" "caps" "[I", Cond.methodLink RX3 32 Lib.Math.min.name, Cond.static Lib.Math.min.name, Cond.initialized "java/lang/Math", Cond.code Lib.Math.min.name Lib.Math.min.code 2 (some .int), Cond.methodLink RX3 28 yX3_pastBasket, Cond.instanceMethod yX3_pastBasket, Cond.selects RX3 yX3_pastBasket yX3_pastBasket, Cond.code yX3_pastBasket cX3_pastBasket 4 (some .int), Cond.fieldLink RX3 15 "PegBox$Kinds" "baskets" "[I", Cond.fieldLink RX3 18 "PegBox$Kinds" "wholes" "[Z"]
def wsX4_leftOutstanding : List Cond := .code yX4_leftOutstanding cX4_leftOutstanding 1 (some .int) :: ((wsX4_leftOutstanding_r1 ++ wsX4_leftOutstanding_r2) ++ wsX40 ++ wsX30 ++ wsX00)
def wsX4_payOut_r1 : List Cond := [Cond.fieldLink RX4 115 "PegBox" "held" "I", Cond.methodLink RX4 112 Lib.Math.min.name, Cond.static Lib.Math.min.name, Cond.initialized "java/lang/Math", Cond.code Lib.Math.min.name Lib.Math.min.code 2 (some .int), Cond.fieldLink RX4 178 "PegBox" "returned" "I", Cond.methodLink RX4 190 yX4_leftOutstanding, Cond.instanceMethod yX4_leftOutstanding, Cond.selects RX4 yX4_leftOutstanding yX4_leftOutstanding, Cond.initialized RX4, Cond.code yX4_leftOutstanding cX4_leftOutstanding 1 (some .int), Cond.fieldLink RX4 181 "PegBox" "setOff" "I", Cond.methodLink RX4 187 yX4_dueInAll, Cond.instanceMethod yX4_dueInAll, Cond.selects RX4 yX4_dueInAll yX4_dueInAll, Cond.code yX4_dueInAll cX4_dueInAll 3 (some .int), Cond.methodLink RX4 193 yX4_dueOfKind, Cond.instanceMethod yX4_dueOfKind, Cond.selects RX4 yX4_dueOfKind yX4_dueOfKind, Cond.code yX4_dueOfKind cX4_dueOfKind 2 (some .int), Cond.fieldLink RX4 19 "PegBox" "kinds" "LPegBox$Kinds;", Cond.fieldLink RX4 26 "PegBox" "book" "LPegBox$ClaimBook;", Cond.fieldLink RX4 74 "PegBox$Kinds" "leasts" "[I", Cond.methodLink RX4 215 yX0_settledSum]
def wsX4_payOut_r2 : List Cond := [Cond.instanceMethod yX0_settledSum, Cond.selects RX0 yX0_settledSum yX0_settledSum, Cond.initialized RX0, Cond.code yX0_settledSum cX0_settledSum 5 (some .int), Cond.fieldLink RX0 24 "PegBox$ClaimBook" "count" "I", Cond.fieldLink RX0 9 "PegBox$ClaimBook" "kinds" "[I", Cond.fieldLink RX0 21 "PegBox$ClaimBook" "settled" "[I", Cond.methodLink RX4 218 yX3_limit, Cond.instanceMethod yX3_limit, Cond.selects RX3 yX3_limit yX3_limit, Cond.initialized RX3, Cond.code yX3_limit cX3_limit 3 (some .int), Cond.fieldLink RX3 22 "PegBox$Kinds" "caps" "[I", Cond.methodLink RX3 32 Lib.Math.min.name, Cond.methodLink RX3 28 yX3_pastBasket, Cond.instanceMethod yX3_pastBasket, Cond.selects RX3 yX3_pastBasket yX3_pastBasket, Cond.code yX3_pastBasket cX3_pastBasket 4 (some .int), Cond.fieldLink RX3 15 "PegBox$Kinds" "baskets" "[I", Cond.fieldLink RX3 18 "PegBox$Kinds" "wholes" "[Z", Cond.methodLink RX4 131 yX4_free, Cond.instanceMethod yX4_free, Cond.selects RX4 yX4_free yX4_free, Cond.code yX4_free cX4_free 2 none]
def wsX4_payOut_r3 : List Cond := [Cond.fieldLink RX4 10 "PegBox" "escrow" "LPegBox$Escrow;", Cond.fieldLink RX4 37 "PegBox" "day" "I", Cond.fieldLink RX4 118 "PegBox" "paid" "I", Cond.methodLink RX4 221 yX2_totalAfter, Cond.instanceMethod yX2_totalAfter, Cond.selects RX2 yX2_totalAfter yX2_totalAfter, Cond.initialized RX2, Cond.code yX2_totalAfter cX2_totalAfter 4 (some .int), Cond.fieldLink RX2 15 "PegBox$Escrow" "days" "[I", Cond.fieldLink RX2 9 "PegBox$Escrow" "amounts" "[I", Cond.methodLink RX4 224 yX0_openSum, Cond.instanceMethod yX0_openSum, Cond.selects RX0 yX0_openSum yX0_openSum, Cond.code yX0_openSum cX0_openSum 3 (some .int), Cond.fieldLink RX0 15 "PegBox$ClaimBook" "amounts" "[I"]
def wsX4_payOut : List Cond := .code yX4_payOut cX4_payOut 2 (some .int) :: ((wsX4_payOut_r1 ++ (wsX4_payOut_r2 ++ wsX4_payOut_r3)) ++ wsX40 ++ wsX30 ++ wsX00 ++ wsX20)
def wsX4_agree_r1 : List Cond := [Cond.classLink RX4 124 "java/lang/IllegalStateException", Cond.initialized "java/lang/IllegalStateException", Cond.fieldLink RX4 26 "PegBox" "book" "LPegBox$ClaimBook;", Cond.fieldLink RX4 136 "PegBox$ClaimBook" "count" "I", Cond.fieldLink RX4 147 "PegBox$ClaimBook" "settled" "[I", Cond.fieldLink RX4 144 "PegBox$ClaimBook" "offers" "[I", Cond.methodLink RX4 62 yX4_checkNumber, Cond.static yX4_checkNumber, Cond.initialized RX4, Cond.code yX4_checkNumber cX4_checkNumber 2 none, Cond.classLink RX4 199 "java/lang/IndexOutOfBoundsException", Cond.initialized "java/lang/IndexOutOfBoundsException", Cond.methodLink RX4 150 yX4_checkOpen, Cond.static yX4_checkOpen, Cond.code yX4_checkOpen cX4_checkOpen 1 none, Cond.methodLink RX4 156 yX4_payOut, Cond.instanceMethod yX4_payOut, Cond.selects RX4 yX4_payOut yX4_payOut, Cond.code yX4_payOut cX4_payOut 2 (some .int), Cond.fieldLink RX4 115 "PegBox" "held" "I", Cond.methodLink RX4 112 Lib.Math.min.name, Cond.static Lib.Math.min.name, Cond.initialized "java/lang/Math", Cond.code Lib.Math.min.name Lib.Math.min.code 2 (some .int)]
def wsX4_agree_r2 : List Cond := [Cond.fieldLink RX4 178 "PegBox" "returned" "I", Cond.methodLink RX4 190 yX4_leftOutstanding, Cond.instanceMethod yX4_leftOutstanding, Cond.selects RX4 yX4_leftOutstanding yX4_leftOutstanding, Cond.code yX4_leftOutstanding cX4_leftOutstanding 1 (some .int), Cond.fieldLink RX4 181 "PegBox" "setOff" "I", Cond.methodLink RX4 187 yX4_dueInAll, Cond.instanceMethod yX4_dueInAll, Cond.selects RX4 yX4_dueInAll yX4_dueInAll, Cond.code yX4_dueInAll cX4_dueInAll 3 (some .int), Cond.methodLink RX4 193 yX4_dueOfKind, Cond.instanceMethod yX4_dueOfKind, Cond.selects RX4 yX4_dueOfKind yX4_dueOfKind, Cond.code yX4_dueOfKind cX4_dueOfKind 2 (some .int), Cond.fieldLink RX4 19 "PegBox" "kinds" "LPegBox$Kinds;", Cond.fieldLink RX4 74 "PegBox$Kinds" "leasts" "[I", Cond.methodLink RX4 215 yX0_settledSum, Cond.instanceMethod yX0_settledSum, Cond.selects RX0 yX0_settledSum yX0_settledSum, Cond.initialized RX0, Cond.code yX0_settledSum cX0_settledSum 5 (some .int), Cond.fieldLink RX0 24 "PegBox$ClaimBook" "count" "I", Cond.fieldLink RX0 9 "PegBox$ClaimBook" "kinds" "[I", Cond.fieldLink RX0 21 "PegBox$ClaimBook" "settled" "[I"]
def wsX4_agree_r3 : List Cond := [Cond.methodLink RX4 218 yX3_limit, Cond.instanceMethod yX3_limit, Cond.selects RX3 yX3_limit yX3_limit, Cond.initialized RX3, Cond.code yX3_limit cX3_limit 3 (some .int), Cond.fieldLink RX3 22 "PegBox$Kinds" "caps" "[I", Cond.methodLink RX3 32 Lib.Math.min.name, Cond.methodLink RX3 28 yX3_pastBasket, Cond.instanceMethod yX3_pastBasket, Cond.selects RX3 yX3_pastBasket yX3_pastBasket, Cond.code yX3_pastBasket cX3_pastBasket 4 (some .int), Cond.fieldLink RX3 15 "PegBox$Kinds" "baskets" "[I", Cond.fieldLink RX3 18 "PegBox$Kinds" "wholes" "[Z", Cond.methodLink RX4 131 yX4_free, Cond.instanceMethod yX4_free, Cond.selects RX4 yX4_free yX4_free, Cond.code yX4_free cX4_free 2 none, Cond.fieldLink RX4 10 "PegBox" "escrow" "LPegBox$Escrow;", Cond.fieldLink RX4 37 "PegBox" "day" "I", Cond.fieldLink RX4 118 "PegBox" "paid" "I", Cond.methodLink RX4 221 yX2_totalAfter, Cond.instanceMethod yX2_totalAfter, Cond.selects RX2 yX2_totalAfter yX2_totalAfter, Cond.initialized RX2]
def wsX4_agree_r4 : List Cond := [Cond.code yX2_totalAfter cX2_totalAfter 4 (some .int), Cond.fieldLink RX2 15 "PegBox$Escrow" "days" "[I", Cond.fieldLink RX2 9 "PegBox$Escrow" "amounts" "[I", Cond.methodLink RX4 224 yX0_openSum, Cond.instanceMethod yX0_openSum, Cond.selects RX0 yX0_openSum yX0_openSum, Cond.code yX0_openSum cX0_openSum 3 (some .int), Cond.fieldLink RX0 15 "PegBox$ClaimBook" "amounts" "[I"]
def wsX4_agree : List Cond := .code yX4_agree cX4_agree 3 (some .int) :: ((wsX4_agree_r1 ++ (wsX4_agree_r2 ++ (wsX4_agree_r3 ++ wsX4_agree_r4))) ++ wsX40 ++ wsX00 ++ wsX30 ++ wsX20 ++ (vx_atS RX4 128 "java/lang/IllegalStateException" ["java/lang/RuntimeException", "java/lang/Exception"]).filter goodWord ++ (vx_atS RX4 203 "java/lang/IndexOutOfBoundsException" ["java/lang/RuntimeException", "java/lang/Exception"]).filter goodWord)
def wsX4_decide_r1 : List Cond := [Cond.fieldLink RX4 26 "PegBox" "book" "LPegBox$ClaimBook;", Cond.fieldLink RX4 136 "PegBox$ClaimBook" "count" "I", Cond.fieldLink RX4 147 "PegBox$ClaimBook" "settled" "[I", Cond.fieldLink RX4 144 "PegBox$ClaimBook" "offers" "[I", Cond.fieldLink RX4 143 "PegBox$ClaimBook" "amounts" "[I", Cond.methodLink RX4 62 yX4_checkNumber, Cond.static yX4_checkNumber, Cond.initialized RX4, Cond.code yX4_checkNumber cX4_checkNumber 2 none, Cond.classLink RX4 199 "java/lang/IndexOutOfBoundsException", Cond.initialized "java/lang/IndexOutOfBoundsException", Cond.methodLink RX4 150 yX4_checkOpen, Cond.static yX4_checkOpen, Cond.code yX4_checkOpen cX4_checkOpen 1 none, Cond.classLink RX4 124 "java/lang/IllegalStateException", Cond.initialized "java/lang/IllegalStateException", Cond.methodLink RX4 45 yX4_checkRange, Cond.static yX4_checkRange, Cond.code yX4_checkRange cX4_checkRange 3 none, Cond.classLink RX4 204 "java/lang/IllegalArgumentException", Cond.initialized "java/lang/IllegalArgumentException", Cond.methodLink RX4 156 yX4_payOut, Cond.instanceMethod yX4_payOut, Cond.selects RX4 yX4_payOut yX4_payOut]
def wsX4_decide_r2 : List Cond := [Cond.code yX4_payOut cX4_payOut 2 (some .int), Cond.fieldLink RX4 115 "PegBox" "held" "I", Cond.methodLink RX4 112 Lib.Math.min.name, Cond.static Lib.Math.min.name, Cond.initialized "java/lang/Math", Cond.code Lib.Math.min.name Lib.Math.min.code 2 (some .int), Cond.fieldLink RX4 178 "PegBox" "returned" "I", Cond.methodLink RX4 190 yX4_leftOutstanding, Cond.instanceMethod yX4_leftOutstanding, Cond.selects RX4 yX4_leftOutstanding yX4_leftOutstanding, Cond.code yX4_leftOutstanding cX4_leftOutstanding 1 (some .int), Cond.fieldLink RX4 181 "PegBox" "setOff" "I", Cond.methodLink RX4 187 yX4_dueInAll, Cond.instanceMethod yX4_dueInAll, Cond.selects RX4 yX4_dueInAll yX4_dueInAll, Cond.code yX4_dueInAll cX4_dueInAll 3 (some .int), Cond.methodLink RX4 193 yX4_dueOfKind, Cond.instanceMethod yX4_dueOfKind, Cond.selects RX4 yX4_dueOfKind yX4_dueOfKind, Cond.code yX4_dueOfKind cX4_dueOfKind 2 (some .int), Cond.fieldLink RX4 19 "PegBox" "kinds" "LPegBox$Kinds;", Cond.fieldLink RX4 74 "PegBox$Kinds" "leasts" "[I", Cond.methodLink RX4 215 yX0_settledSum, Cond.instanceMethod yX0_settledSum]
def wsX4_decide_r3 : List Cond := [Cond.selects RX0 yX0_settledSum yX0_settledSum, Cond.initialized RX0, Cond.code yX0_settledSum cX0_settledSum 5 (some .int), Cond.fieldLink RX0 24 "PegBox$ClaimBook" "count" "I", Cond.fieldLink RX0 9 "PegBox$ClaimBook" "kinds" "[I", Cond.fieldLink RX0 21 "PegBox$ClaimBook" "settled" "[I", Cond.methodLink RX4 218 yX3_limit, Cond.instanceMethod yX3_limit, Cond.selects RX3 yX3_limit yX3_limit, Cond.initialized RX3, Cond.code yX3_limit cX3_limit 3 (some .int), Cond.fieldLink RX3 22 "PegBox$Kinds" "caps" "[I", Cond.methodLink RX3 32 Lib.Math.min.name, Cond.methodLink RX3 28 yX3_pastBasket, Cond.instanceMethod yX3_pastBasket, Cond.selects RX3 yX3_pastBasket yX3_pastBasket, Cond.code yX3_pastBasket cX3_pastBasket 4 (some .int), Cond.fieldLink RX3 15 "PegBox$Kinds" "baskets" "[I", Cond.fieldLink RX3 18 "PegBox$Kinds" "wholes" "[Z", Cond.methodLink RX4 131 yX4_free, Cond.instanceMethod yX4_free, Cond.selects RX4 yX4_free yX4_free, Cond.code yX4_free cX4_free 2 none, Cond.fieldLink RX4 10 "PegBox" "escrow" "LPegBox$Escrow;"]
def wsX4_decide_r4 : List Cond := [Cond.fieldLink RX4 37 "PegBox" "day" "I", Cond.fieldLink RX4 118 "PegBox" "paid" "I", Cond.methodLink RX4 221 yX2_totalAfter, Cond.instanceMethod yX2_totalAfter, Cond.selects RX2 yX2_totalAfter yX2_totalAfter, Cond.initialized RX2, Cond.code yX2_totalAfter cX2_totalAfter 4 (some .int), Cond.fieldLink RX2 15 "PegBox$Escrow" "days" "[I", Cond.fieldLink RX2 9 "PegBox$Escrow" "amounts" "[I", Cond.methodLink RX4 224 yX0_openSum, Cond.instanceMethod yX0_openSum, Cond.selects RX0 yX0_openSum yX0_openSum, Cond.code yX0_openSum cX0_openSum 3 (some .int), Cond.fieldLink RX0 15 "PegBox$ClaimBook" "amounts" "[I"]
def wsX4_decide : List Cond := .code yX4_decide cX4_decide 4 (some .int) :: ((wsX4_decide_r1 ++ (wsX4_decide_r2 ++ (wsX4_decide_r3 ++ wsX4_decide_r4))) ++ wsX40 ++ wsX00 ++ wsX30 ++ wsX20 ++ (vx_atS RX4 203 "java/lang/IndexOutOfBoundsException" ["java/lang/RuntimeException", "java/lang/Exception"]).filter goodWord ++ (vx_atS RX4 128 "java/lang/IllegalStateException" ["java/lang/RuntimeException", "java/lang/Exception"]).filter goodWord ++ (vx_atS RX4 208 "java/lang/IllegalArgumentException" ["java/lang/RuntimeException", "java/lang/Exception"]).filter goodWord)
def wsX4_owe_r1 : List Cond := [Cond.methodLink RX4 112 Lib.Math.min.name, Cond.static Lib.Math.min.name, Cond.initialized "java/lang/Math", Cond.code Lib.Math.min.name Lib.Math.min.code 2 (some .int), Cond.fieldLink RX4 184 "PegBox" "owed" "I", Cond.fieldLink RX4 181 "PegBox" "setOff" "I", Cond.fieldLink RX4 118 "PegBox" "paid" "I", Cond.methodLink RX4 190 yX4_leftOutstanding, Cond.instanceMethod yX4_leftOutstanding, Cond.selects RX4 yX4_leftOutstanding yX4_leftOutstanding, Cond.initialized RX4, Cond.code yX4_leftOutstanding cX4_leftOutstanding 1 (some .int), Cond.fieldLink RX4 178 "PegBox" "returned" "I", Cond.methodLink RX4 187 yX4_dueInAll, Cond.instanceMethod yX4_dueInAll, Cond.selects RX4 yX4_dueInAll yX4_dueInAll, Cond.code yX4_dueInAll cX4_dueInAll 3 (some .int), Cond.methodLink RX4 193 yX4_dueOfKind, Cond.instanceMethod yX4_dueOfKind, Cond.selects RX4 yX4_dueOfKind yX4_dueOfKind, Cond.code yX4_dueOfKind cX4_dueOfKind 2 (some .int), Cond.fieldLink RX4 19 "PegBox" "kinds" "LPegBox$Kinds;", Cond.fieldLink RX4 26 "PegBox" "book" "LPegBox$ClaimBook;", Cond.fieldLink RX4 74 "PegBox$Kinds" "leasts" "[I"]
def wsX4_owe_r2 : List Cond := [Cond.methodLink RX4 215 yX0_settledSum, Cond.instanceMethod yX0_settledSum, Cond.selects RX0 yX0_settledSum yX0_settledSum, Cond.initialized RX0, Cond.code yX0_settledSum cX0_settledSum 5 (some .int), Cond.fieldLink RX0 24 "PegBox$ClaimBook" "count" "I", Cond.fieldLink RX0 9 "PegBox$ClaimBook" "kinds" "[I", Cond.fieldLink RX0 21 "PegBox$ClaimBook" "settled" "[I", Cond.methodLink RX4 218 yX3_limit, Cond.instanceMethod yX3_limit, Cond.selects RX3 yX3_limit yX3_limit, Cond.initialized RX3, Cond.code yX3_limit cX3_limit 3 (some .int), Cond.fieldLink RX3 22 "PegBox$Kinds" "caps" "[I", Cond.methodLink RX3 32 Lib.Math.min.name, Cond.methodLink RX3 28 yX3_pastBasket, Cond.instanceMethod yX3_pastBasket, Cond.selects RX3 yX3_pastBasket yX3_pastBasket, Cond.code yX3_pastBasket cX3_pastBasket 4 (some .int), Cond.fieldLink RX3 15 "PegBox$Kinds" "baskets" "[I", Cond.fieldLink RX3 18 "PegBox$Kinds" "wholes" "[Z"]
def wsX4_owe : List Cond := .code yX4_owe cX4_owe 3 (some .int) :: ((wsX4_owe_r1 ++ wsX4_owe_r2) ++ wsX40 ++ wsX30 ++ wsX00)
def wsX4_report_r1 : List Cond := [Cond.classLink RX4 124 "java/lang/IllegalStateException", Cond.initialized "java/lang/IllegalStateException", Cond.constant RX4 49 (-10000000), Cond.constant RX4 44 (10000000), Cond.fieldLink RX4 33 "PegBox" "earnOut" "LPegBox$EarnOut;", Cond.fieldLink RX4 159 "PegBox$EarnOut" "isSpedUp" "Z", Cond.fieldLink RX4 164 "PegBox$EarnOut" "told" "I", Cond.methodLink RX4 45 yX4_checkRange, Cond.static yX4_checkRange, Cond.initialized RX4, Cond.code yX4_checkRange cX4_checkRange 3 none, Cond.classLink RX4 204 "java/lang/IllegalArgumentException", Cond.initialized "java/lang/IllegalArgumentException", Cond.methodLink RX4 121 yX4_checkClosed, Cond.instanceMethod yX4_checkClosed, Cond.selects RX4 yX4_checkClosed yX4_checkClosed, Cond.code yX4_checkClosed cX4_checkClosed 1 none, Cond.fieldLink RX4 37 "PegBox" "day" "I", Cond.methodLink RX4 169 yX1_tell, Cond.instanceMethod yX1_tell, Cond.selects RX1 yX1_tell yX1_tell, Cond.initialized RX1, Cond.code yX1_tell cX1_tell 3 (some .int), Cond.fieldLink RX1 22 "PegBox$EarnOut" "told" "I"]
def wsX4_report_r2 : List Cond := [Cond.fieldLink RX1 26 "PegBox$EarnOut" "resultSum" "I", Cond.fieldLink RX1 29 "PegBox$EarnOut" "targetSum" "I", Cond.fieldLink RX1 9 "PegBox$EarnOut" "targets" "[I", Cond.fieldLink RX1 32 "PegBox$EarnOut" "isCarried" "Z", Cond.methodLink RX1 36 yX1_meet, Cond.instanceMethod yX1_meet, Cond.selects RX1 yX1_meet yX1_meet, Cond.code yX1_meet cX1_meet 5 (some .int), Cond.fieldLink RX1 18 "PegBox$EarnOut" "met" "[Z", Cond.fieldLink RX1 15 "PegBox$EarnOut" "amounts" "[I", Cond.methodLink RX4 172 yX4_owe, Cond.instanceMethod yX4_owe, Cond.selects RX4 yX4_owe yX4_owe, Cond.code yX4_owe cX4_owe 3 (some .int), Cond.methodLink RX4 112 Lib.Math.min.name, Cond.static Lib.Math.min.name, Cond.initialized "java/lang/Math", Cond.code Lib.Math.min.name Lib.Math.min.code 2 (some .int), Cond.fieldLink RX4 184 "PegBox" "owed" "I", Cond.fieldLink RX4 181 "PegBox" "setOff" "I", Cond.fieldLink RX4 118 "PegBox" "paid" "I", Cond.methodLink RX4 190 yX4_leftOutstanding, Cond.instanceMethod yX4_leftOutstanding, Cond.selects RX4 yX4_leftOutstanding yX4_leftOutstanding]
def wsX4_report_r3 : List Cond := [Cond.code yX4_leftOutstanding cX4_leftOutstanding 1 (some .int), Cond.fieldLink RX4 178 "PegBox" "returned" "I", Cond.methodLink RX4 187 yX4_dueInAll, Cond.instanceMethod yX4_dueInAll, Cond.selects RX4 yX4_dueInAll yX4_dueInAll, Cond.code yX4_dueInAll cX4_dueInAll 3 (some .int), Cond.methodLink RX4 193 yX4_dueOfKind, Cond.instanceMethod yX4_dueOfKind, Cond.selects RX4 yX4_dueOfKind yX4_dueOfKind, Cond.code yX4_dueOfKind cX4_dueOfKind 2 (some .int), Cond.fieldLink RX4 19 "PegBox" "kinds" "LPegBox$Kinds;", Cond.fieldLink RX4 26 "PegBox" "book" "LPegBox$ClaimBook;", Cond.fieldLink RX4 74 "PegBox$Kinds" "leasts" "[I", Cond.methodLink RX4 215 yX0_settledSum, Cond.instanceMethod yX0_settledSum, Cond.selects RX0 yX0_settledSum yX0_settledSum, Cond.initialized RX0, Cond.code yX0_settledSum cX0_settledSum 5 (some .int), Cond.fieldLink RX0 24 "PegBox$ClaimBook" "count" "I", Cond.fieldLink RX0 9 "PegBox$ClaimBook" "kinds" "[I", Cond.fieldLink RX0 21 "PegBox$ClaimBook" "settled" "[I", Cond.methodLink RX4 218 yX3_limit, Cond.instanceMethod yX3_limit, Cond.selects RX3 yX3_limit yX3_limit]
def wsX4_report_r4 : List Cond := [Cond.initialized RX3, Cond.code yX3_limit cX3_limit 3 (some .int), Cond.fieldLink RX3 22 "PegBox$Kinds" "caps" "[I", Cond.methodLink RX3 32 Lib.Math.min.name, Cond.methodLink RX3 28 yX3_pastBasket, Cond.instanceMethod yX3_pastBasket, Cond.selects RX3 yX3_pastBasket yX3_pastBasket, Cond.code yX3_pastBasket cX3_pastBasket 4 (some .int), Cond.fieldLink RX3 15 "PegBox$Kinds" "baskets" "[I", Cond.fieldLink RX3 18 "PegBox$Kinds" "wholes" "[Z"]
def wsX4_report : List Cond := .code yX4_report cX4_report 2 (some .int) :: ((wsX4_report_r1 ++ (wsX4_report_r2 ++ (wsX4_report_r3 ++ wsX4_report_r4))) ++ wsX40 ++ wsX10 ++ wsX30 ++ wsX00 ++ (vx_atS RX4 128 "java/lang/IllegalStateException" ["java/lang/RuntimeException", "java/lang/Exception"]).filter goodWord ++ (vx_atS RX4 208 "java/lang/IllegalArgumentException" ["java/lang/RuntimeException", "java/lang/Exception"]).filter goodWord)
def wsX4_speedUp_r1 : List Cond := [Cond.classLink RX4 124 "java/lang/IllegalStateException", Cond.initialized "java/lang/IllegalStateException", Cond.fieldLink RX4 33 "PegBox" "earnOut" "LPegBox$EarnOut;", Cond.fieldLink RX4 159 "PegBox$EarnOut" "isSpedUp" "Z", Cond.methodLink RX4 121 yX4_checkClosed, Cond.instanceMethod yX4_checkClosed, Cond.selects RX4 yX4_checkClosed yX4_checkClosed, Cond.initialized RX4, Cond.code yX4_checkClosed cX4_checkClosed 1 none, Cond.fieldLink RX4 37 "PegBox" "day" "I", Cond.methodLink RX4 175 yX1_hasten, Cond.instanceMethod yX1_hasten, Cond.selects RX1 yX1_hasten yX1_hasten, Cond.initialized RX1, Cond.code yX1_hasten cX1_hasten 1 (some .int), Cond.fieldLink RX1 40 "PegBox$EarnOut" "isSpedUp" "Z", Cond.fieldLink RX1 22 "PegBox$EarnOut" "told" "I", Cond.methodLink RX1 36 yX1_meet, Cond.instanceMethod yX1_meet, Cond.selects RX1 yX1_meet yX1_meet, Cond.code yX1_meet cX1_meet 5 (some .int), Cond.fieldLink RX1 18 "PegBox$EarnOut" "met" "[Z", Cond.fieldLink RX1 15 "PegBox$EarnOut" "amounts" "[I", Cond.methodLink RX4 172 yX4_owe]
def wsX4_speedUp_r2 : List Cond := [Cond.instanceMethod yX4_owe, Cond.selects RX4 yX4_owe yX4_owe, Cond.code yX4_owe cX4_owe 3 (some .int), Cond.methodLink RX4 112 Lib.Math.min.name, Cond.static Lib.Math.min.name, Cond.initialized "java/lang/Math", Cond.code Lib.Math.min.name Lib.Math.min.code 2 (some .int), Cond.fieldLink RX4 184 "PegBox" "owed" "I", Cond.fieldLink RX4 181 "PegBox" "setOff" "I", Cond.fieldLink RX4 118 "PegBox" "paid" "I", Cond.methodLink RX4 190 yX4_leftOutstanding, Cond.instanceMethod yX4_leftOutstanding, Cond.selects RX4 yX4_leftOutstanding yX4_leftOutstanding, Cond.code yX4_leftOutstanding cX4_leftOutstanding 1 (some .int), Cond.fieldLink RX4 178 "PegBox" "returned" "I", Cond.methodLink RX4 187 yX4_dueInAll, Cond.instanceMethod yX4_dueInAll, Cond.selects RX4 yX4_dueInAll yX4_dueInAll, Cond.code yX4_dueInAll cX4_dueInAll 3 (some .int), Cond.methodLink RX4 193 yX4_dueOfKind, Cond.instanceMethod yX4_dueOfKind, Cond.selects RX4 yX4_dueOfKind yX4_dueOfKind, Cond.code yX4_dueOfKind cX4_dueOfKind 2 (some .int), Cond.fieldLink RX4 19 "PegBox" "kinds" "LPegBox$Kinds;"]
def wsX4_speedUp_r3 : List Cond := [Cond.fieldLink RX4 26 "PegBox" "book" "LPegBox$ClaimBook;", Cond.fieldLink RX4 74 "PegBox$Kinds" "leasts" "[I", Cond.methodLink RX4 215 yX0_settledSum, Cond.instanceMethod yX0_settledSum, Cond.selects RX0 yX0_settledSum yX0_settledSum, Cond.initialized RX0, Cond.code yX0_settledSum cX0_settledSum 5 (some .int), Cond.fieldLink RX0 24 "PegBox$ClaimBook" "count" "I", Cond.fieldLink RX0 9 "PegBox$ClaimBook" "kinds" "[I", Cond.fieldLink RX0 21 "PegBox$ClaimBook" "settled" "[I", Cond.methodLink RX4 218 yX3_limit, Cond.instanceMethod yX3_limit, Cond.selects RX3 yX3_limit yX3_limit, Cond.initialized RX3, Cond.code yX3_limit cX3_limit 3 (some .int), Cond.fieldLink RX3 22 "PegBox$Kinds" "caps" "[I", Cond.methodLink RX3 32 Lib.Math.min.name, Cond.methodLink RX3 28 yX3_pastBasket, Cond.instanceMethod yX3_pastBasket, Cond.selects RX3 yX3_pastBasket yX3_pastBasket, Cond.code yX3_pastBasket cX3_pastBasket 4 (some .int), Cond.fieldLink RX3 15 "PegBox$Kinds" "baskets" "[I", Cond.fieldLink RX3 18 "PegBox$Kinds" "wholes" "[Z"]
def wsX4_speedUp : List Cond := .code yX4_speedUp cX4_speedUp 1 (some .int) :: ((wsX4_speedUp_r1 ++ (wsX4_speedUp_r2 ++ wsX4_speedUp_r3)) ++ wsX40 ++ wsX10 ++ wsX30 ++ wsX00 ++ (vx_atS RX4 128 "java/lang/IllegalStateException" ["java/lang/RuntimeException", "java/lang/Exception"]).filter goodWord)
def wsX4_day : List Cond := .code yX4_day cX4_day 1 (some .int) :: ([.fieldLink RX4 37 "PegBox" "day" "I"] ++ wsX40)
def wsX4_finalPrice : List Cond := .code yX4_finalPrice cX4_finalPrice 1 (some .int) :: ([.fieldLink RX4 41 "PegBox" "finalPrice" "I"] ++ wsX40)
def wsX4_held : List Cond := .code yX4_held cX4_held 1 (some .int) :: ([.fieldLink RX4 115 "PegBox" "held" "I"] ++ wsX40)
def wsX4_paid : List Cond := .code yX4_paid cX4_paid 1 (some .int) :: ([.fieldLink RX4 118 "PegBox" "paid" "I"] ++ wsX40)
def wsX4_returned : List Cond := .code yX4_returned cX4_returned 1 (some .int) :: ([.fieldLink RX4 178 "PegBox" "returned" "I"] ++ wsX40)
def wsX4_setOff : List Cond := .code yX4_setOff cX4_setOff 1 (some .int) :: ([.fieldLink RX4 181 "PegBox" "setOff" "I"] ++ wsX40)
def wsX4_owed : List Cond := .code yX4_owed cX4_owed 1 (some .int) :: ([.fieldLink RX4 184 "PegBox" "owed" "I"] ++ wsX40)
def wsX4_due_r1 : List Cond := [Cond.methodLink RX4 187 yX4_dueInAll, Cond.instanceMethod yX4_dueInAll, Cond.selects RX4 yX4_dueInAll yX4_dueInAll, Cond.initialized RX4, Cond.code yX4_dueInAll cX4_dueInAll 3 (some .int), Cond.methodLink RX4 193 yX4_dueOfKind, Cond.instanceMethod yX4_dueOfKind, Cond.selects RX4 yX4_dueOfKind yX4_dueOfKind, Cond.code yX4_dueOfKind cX4_dueOfKind 2 (some .int), Cond.fieldLink RX4 19 "PegBox" "kinds" "LPegBox$Kinds;", Cond.fieldLink RX4 26 "PegBox" "book" "LPegBox$ClaimBook;", Cond.fieldLink RX4 74 "PegBox$Kinds" "leasts" "[I", Cond.methodLink RX4 215 yX0_settledSum, Cond.instanceMethod yX0_settledSum, Cond.selects RX0 yX0_settledSum yX0_settledSum, Cond.initialized RX0, Cond.code yX0_settledSum cX0_settledSum 5 (some .int), Cond.fieldLink RX0 24 "PegBox$ClaimBook" "count" "I", Cond.fieldLink RX0 9 "PegBox$ClaimBook" "kinds" "[I", Cond.fieldLink RX0 21 "PegBox$ClaimBook" "settled" "[I", Cond.methodLink RX4 218 yX3_limit, Cond.instanceMethod yX3_limit, Cond.selects RX3 yX3_limit yX3_limit, Cond.initialized RX3]
def wsX4_due_r2 : List Cond := [Cond.code yX3_limit cX3_limit 3 (some .int), Cond.fieldLink RX3 22 "PegBox$Kinds" "caps" "[I", Cond.methodLink RX3 32 Lib.Math.min.name, Cond.static Lib.Math.min.name, Cond.initialized "java/lang/Math", Cond.code Lib.Math.min.name Lib.Math.min.code 2 (some .int), Cond.methodLink RX3 28 yX3_pastBasket, Cond.instanceMethod yX3_pastBasket, Cond.selects RX3 yX3_pastBasket yX3_pastBasket, Cond.code yX3_pastBasket cX3_pastBasket 4 (some .int), Cond.fieldLink RX3 15 "PegBox$Kinds" "baskets" "[I", Cond.fieldLink RX3 18 "PegBox$Kinds" "wholes" "[Z"]
def wsX4_due : List Cond := .code yX4_due cX4_due 1 (some .int) :: ((wsX4_due_r1 ++ wsX4_due_r2) ++ wsX40 ++ wsX30 ++ wsX00)
def wsX4_outstanding_r1 : List Cond := [Cond.methodLink RX4 190 yX4_leftOutstanding, Cond.instanceMethod yX4_leftOutstanding, Cond.selects RX4 yX4_leftOutstanding yX4_leftOutstanding, Cond.initialized RX4, Cond.code yX4_leftOutstanding cX4_leftOutstanding 1 (some .int), Cond.fieldLink RX4 178 "PegBox" "returned" "I", Cond.fieldLink RX4 181 "PegBox" "setOff" "I", Cond.methodLink RX4 187 yX4_dueInAll, Cond.instanceMethod yX4_dueInAll, Cond.selects RX4 yX4_dueInAll yX4_dueInAll, Cond.code yX4_dueInAll cX4_dueInAll 3 (some .int), Cond.methodLink RX4 193 yX4_dueOfKind, Cond.instanceMethod yX4_dueOfKind, Cond.selects RX4 yX4_dueOfKind yX4_dueOfKind, Cond.code yX4_dueOfKind cX4_dueOfKind 2 (some .int), Cond.fieldLink RX4 19 "PegBox" "kinds" "LPegBox$Kinds;", Cond.fieldLink RX4 26 "PegBox" "book" "LPegBox$ClaimBook;", Cond.fieldLink RX4 74 "PegBox$Kinds" "leasts" "[I", Cond.methodLink RX4 215 yX0_settledSum, Cond.instanceMethod yX0_settledSum, Cond.selects RX0 yX0_settledSum yX0_settledSum, Cond.initialized RX0, Cond.code yX0_settledSum cX0_settledSum 5 (some .int), Cond.fieldLink RX0 24 "PegBox$ClaimBook" "count" "I"]
def wsX4_outstanding_r2 : List Cond := [Cond.fieldLink RX0 9 "PegBox$ClaimBook" "kinds" "[I", Cond.fieldLink RX0 21 "PegBox$ClaimBook" "settled" "[I", Cond.methodLink RX4 218 yX3_limit, Cond.instanceMethod yX3_limit, Cond.selects RX3 yX3_limit yX3_limit, Cond.initialized RX3, Cond.code yX3_limit cX3_limit 3 (some .int), Cond.fieldLink RX3 22 "PegBox$Kinds" "caps" "[I", Cond.methodLink RX3 32 Lib.Math.min.name, Cond.static Lib.Math.min.name, Cond.initialized "java/lang/Math", Cond.code Lib.Math.min.name Lib.Math.min.code 2 (some .int), Cond.methodLink RX3 28 yX3_pastBasket, Cond.instanceMethod yX3_pastBasket, Cond.selects RX3 yX3_pastBasket yX3_pastBasket, Cond.code yX3_pastBasket cX3_pastBasket 4 (some .int), Cond.fieldLink RX3 15 "PegBox$Kinds" "baskets" "[I", Cond.fieldLink RX3 18 "PegBox$Kinds" "wholes" "[Z"]
def wsX4_outstanding : List Cond := .code yX4_outstanding cX4_outstanding 1 (some .int) :: ((wsX4_outstanding_r1 ++ wsX4_outstanding_r2) ++ wsX40 ++ wsX30 ++ wsX00)
def wsX4_dueOf_r1 : List Cond := [Cond.methodLink RX4 62 yX4_checkNumber, Cond.static yX4_checkNumber, Cond.initialized RX4, Cond.code yX4_checkNumber cX4_checkNumber 2 none, Cond.classLink RX4 199 "java/lang/IndexOutOfBoundsException", Cond.initialized "java/lang/IndexOutOfBoundsException", Cond.methodLink RX4 193 yX4_dueOfKind, Cond.instanceMethod yX4_dueOfKind, Cond.selects RX4 yX4_dueOfKind yX4_dueOfKind, Cond.code yX4_dueOfKind cX4_dueOfKind 2 (some .int), Cond.fieldLink RX4 19 "PegBox" "kinds" "LPegBox$Kinds;", Cond.fieldLink RX4 26 "PegBox" "book" "LPegBox$ClaimBook;", Cond.fieldLink RX4 74 "PegBox$Kinds" "leasts" "[I", Cond.methodLink RX4 215 yX0_settledSum, Cond.instanceMethod yX0_settledSum, Cond.selects RX0 yX0_settledSum yX0_settledSum, Cond.initialized RX0, Cond.code yX0_settledSum cX0_settledSum 5 (some .int), Cond.fieldLink RX0 24 "PegBox$ClaimBook" "count" "I", Cond.fieldLink RX0 9 "PegBox$ClaimBook" "kinds" "[I", Cond.fieldLink RX0 21 "PegBox$ClaimBook" "settled" "[I", Cond.methodLink RX4 218 yX3_limit, Cond.instanceMethod yX3_limit, Cond.selects RX3 yX3_limit yX3_limit]
def wsX4_dueOf_r2 : List Cond := [Cond.initialized RX3, Cond.code yX3_limit cX3_limit 3 (some .int), Cond.fieldLink RX3 22 "PegBox$Kinds" "caps" "[I", Cond.methodLink RX3 32 Lib.Math.min.name, Cond.static Lib.Math.min.name, Cond.initialized "java/lang/Math", Cond.code Lib.Math.min.name Lib.Math.min.code 2 (some .int), Cond.methodLink RX3 28 yX3_pastBasket, Cond.instanceMethod yX3_pastBasket, Cond.selects RX3 yX3_pastBasket yX3_pastBasket, Cond.code yX3_pastBasket cX3_pastBasket 4 (some .int), Cond.fieldLink RX3 15 "PegBox$Kinds" "baskets" "[I", Cond.fieldLink RX3 18 "PegBox$Kinds" "wholes" "[Z"]
def wsX4_dueOf : List Cond := .code yX4_dueOf cX4_dueOf 2 (some .int) :: ((wsX4_dueOf_r1 ++ wsX4_dueOf_r2) ++ wsX40 ++ wsX30 ++ wsX00 ++ (vx_atS RX4 203 "java/lang/IndexOutOfBoundsException" ["java/lang/RuntimeException", "java/lang/Exception"]).filter goodWord)
def wsX4_claims : List Cond := .code yX4_claims cX4_claims 1 (some .int) :: ([.fieldLink RX4 26 "PegBox" "book" "LPegBox$ClaimBook;", .fieldLink RX4 136 "PegBox$ClaimBook" "count" "I"] ++ wsX40 ++ wsX00)
def wsX4_settledAt : List Cond := .code yX4_settledAt cX4_settledAt 2 (some .int) :: ([.fieldLink RX4 26 "PegBox" "book" "LPegBox$ClaimBook;", .fieldLink RX4 136 "PegBox$ClaimBook" "count" "I", .fieldLink RX4 147 "PegBox$ClaimBook" "settled" "[I", .methodLink RX4 62 yX4_checkNumber, .static yX4_checkNumber, .initialized RX4, .code yX4_checkNumber cX4_checkNumber 2 none, .classLink RX4 199 "java/lang/IndexOutOfBoundsException", .initialized "java/lang/IndexOutOfBoundsException"] ++ wsX40 ++ wsX00 ++ (vx_atS RX4 203 "java/lang/IndexOutOfBoundsException" ["java/lang/RuntimeException", "java/lang/Exception"]).filter goodWord)
def wsX4_isMet : List Cond := .code yX4_isMet cX4_isMet 2 (some .boolean) :: ([.fieldLink RX4 33 "PegBox" "earnOut" "LPegBox$EarnOut;", .fieldLink RX4 196 "PegBox$EarnOut" "met" "[Z", .methodLink RX4 62 yX4_checkNumber, .static yX4_checkNumber, .initialized RX4, .code yX4_checkNumber cX4_checkNumber 2 none, .classLink RX4 199 "java/lang/IndexOutOfBoundsException", .initialized "java/lang/IndexOutOfBoundsException"] ++ wsX40 ++ wsX10 ++ (vx_atS RX4 203 "java/lang/IndexOutOfBoundsException" ["java/lang/RuntimeException", "java/lang/Exception"]).filter goodWord)
def wsX5_init : List Cond := .code yX5_init cX5_init 1 none :: ([.methodLink RX5 1 objectInit, .instanceMethod objectInit, .code objectInit ⟨#[0xb1]⟩ 1 none, .arrayClass .int, .fieldLink RX5 7 "PegBoxModel" "partAmount" "[I", .fieldLink RX5 13 "PegBoxModel" "partDay" "[I", .fieldLink RX5 16 "PegBoxModel" "least" "[I", .fieldLink RX5 19 "PegBoxModel" "basket" "[I", .arrayClass .boolean, .fieldLink RX5 22 "PegBoxModel" "whole" "[Z", .fieldLink RX5 26 "PegBoxModel" "cap" "[I", .fieldLink RX5 29 "PegBoxModel" "lastDay" "[I", .fieldLink RX5 32 "PegBoxModel" "target" "[I", .fieldLink RX5 35 "PegBoxModel" "yearAmount" "[I", .fieldLink RX5 38 "PegBoxModel" "kind" "[I", .fieldLink RX5 41 "PegBoxModel" "amount" "[I", .fieldLink RX5 44 "PegBoxModel" "offered" "[I", .fieldLink RX5 47 "PegBoxModel" "settled" "[I", .fieldLink RX5 50 "PegBoxModel" "results" "[I", .fieldLink RX5 53 "PegBoxModel" "met" "[Z"] ++ wsX50)
def wsX5_thrown : List Cond := .code yX5_thrown cX5_thrown 1 (some .int) :: ([.fieldLink RX5 56 "PegBoxModel" "thrown" "I"] ++ wsX50)
def wsX5_in : List Cond := .code yX5_in cX5_in 3 (some .boolean) :: ([])
def wsX5_isFine : List Cond := .code yX5_isFine cX5_isFine 2 (some .boolean) :: ([.fieldLink RX5 56 "PegBoxModel" "thrown" "I"] ++ wsX50)
def wsX5_setPrice : List Cond := .code yX5_setPrice cX5_setPrice 4 none :: ([.constant RX5 60 (10000000), .constant RX5 65 (-10000000), .fieldLink RX5 66 "PegBoxModel" "closed" "Z", .fieldLink RX5 74 "PegBoxModel" "price" "I", .fieldLink RX5 77 "PegBoxModel" "peg" "I", .fieldLink RX5 80 "PegBoxModel" "collar" "I", .methodLink RX5 61 yX5_in, .static yX5_in, .initialized RX5, .code yX5_in cX5_in 3 (some .boolean), .methodLink RX5 70 yX5_isFine, .instanceMethod yX5_isFine, .selects RX5 yX5_isFine yX5_isFine, .code yX5_isFine cX5_isFine 2 (some .boolean), .fieldLink RX5 56 "PegBoxModel" "thrown" "I"] ++ wsX50)
def wsX5_setPart : List Cond := .code yX5_setPart cX5_setPart 4 none :: ([.constant RX5 60 (10000000), .fieldLink RX5 66 "PegBoxModel" "closed" "Z", .fieldLink RX5 7 "PegBoxModel" "partAmount" "[I", .fieldLink RX5 13 "PegBoxModel" "partDay" "[I", .methodLink RX5 61 yX5_in, .static yX5_in, .initialized RX5, .code yX5_in cX5_in 3 (some .boolean), .methodLink RX5 70 yX5_isFine, .instanceMethod yX5_isFine, .selects RX5 yX5_isFine yX5_isFine, .code yX5_isFine cX5_isFine 2 (some .boolean), .fieldLink RX5 56 "PegBoxModel" "thrown" "I"] ++ wsX50)
def wsX5_setKind : List Cond := .code yX5_setKind cX5_setKind 8 none :: ([.constant RX5 60 (10000000), .constant RX5 83 (100000000), .fieldLink RX5 66 "PegBoxModel" "closed" "Z", .fieldLink RX5 16 "PegBoxModel" "least" "[I", .fieldLink RX5 19 "PegBoxModel" "basket" "[I", .fieldLink RX5 22 "PegBoxModel" "whole" "[Z", .fieldLink RX5 26 "PegBoxModel" "cap" "[I", .fieldLink RX5 29 "PegBoxModel" "lastDay" "[I", .methodLink RX5 61 yX5_in, .static yX5_in, .initialized RX5, .code yX5_in cX5_in 3 (some .boolean), .methodLink RX5 70 yX5_isFine, .instanceMethod yX5_isFine, .selects RX5 yX5_isFine yX5_isFine, .code yX5_isFine cX5_isFine 2 (some .boolean), .fieldLink RX5 56 "PegBoxModel" "thrown" "I"] ++ wsX50)
def wsX5_setYear : List Cond := .code yX5_setYear cX5_setYear 4 none :: ([.constant RX5 60 (10000000), .fieldLink RX5 66 "PegBoxModel" "closed" "Z", .fieldLink RX5 32 "PegBoxModel" "target" "[I", .fieldLink RX5 35 "PegBoxModel" "yearAmount" "[I", .methodLink RX5 61 yX5_in, .static yX5_in, .initialized RX5, .code yX5_in cX5_in 3 (some .boolean), .methodLink RX5 70 yX5_isFine, .instanceMethod yX5_isFine, .selects RX5 yX5_isFine yX5_isFine, .code yX5_isFine cX5_isFine 2 (some .boolean), .fieldLink RX5 56 "PegBoxModel" "thrown" "I"] ++ wsX50)
def wsX5_setCarry : List Cond := .code yX5_setCarry cX5_setCarry 2 none :: ([.fieldLink RX5 66 "PegBoxModel" "closed" "Z", .fieldLink RX5 84 "PegBoxModel" "carried" "Z", .methodLink RX5 70 yX5_isFine, .instanceMethod yX5_isFine, .selects RX5 yX5_isFine yX5_isFine, .initialized RX5, .code yX5_isFine cX5_isFine 2 (some .boolean), .fieldLink RX5 56 "PegBoxModel" "thrown" "I"] ++ wsX50)
def wsX5_close : List Cond := .code yX5_close cX5_close 9 (some .int) :: ([.constant RX5 60 (10000000), .constant RX5 65 (-10000000), .fieldLink RX5 66 "PegBoxModel" "closed" "Z", .fieldLink RX5 77 "PegBoxModel" "peg" "I", .fieldLink RX5 80 "PegBoxModel" "collar" "I", .fieldLink RX5 74 "PegBoxModel" "price" "I", .fieldLink RX5 87 "PegBoxModel" "finals" "I", .fieldLink RX5 7 "PegBoxModel" "partAmount" "[I", .fieldLink RX5 90 "PegBoxModel" "held" "I", .fieldLink RX5 93 "PegBoxModel" "paid" "I", .methodLink RX5 61 yX5_in, .static yX5_in, .initialized RX5, .code yX5_in cX5_in 3 (some .boolean), .methodLink RX5 70 yX5_isFine, .instanceMethod yX5_isFine, .selects RX5 yX5_isFine yX5_isFine, .code yX5_isFine cX5_isFine 2 (some .boolean), .fieldLink RX5 56 "PegBoxModel" "thrown" "I"] ++ wsX50)
def wsX5_frees : List Cond := .code yX5_frees cX5_frees 3 none :: ([.fieldLink RX5 13 "PegBoxModel" "partDay" "[I", .fieldLink RX5 96 "PegBoxModel" "day" "I", .fieldLink RX5 7 "PegBoxModel" "partAmount" "[I", .fieldLink RX5 99 "PegBoxModel" "claims" "I", .fieldLink RX5 47 "PegBoxModel" "settled" "[I", .fieldLink RX5 41 "PegBoxModel" "amount" "[I", .fieldLink RX5 90 "PegBoxModel" "held" "I", .fieldLink RX5 93 "PegBoxModel" "paid" "I"] ++ wsX50)
def wsX5_advance : List Cond := .code yX5_advance cX5_advance 3 (some .int) :: ([.fieldLink RX5 66 "PegBoxModel" "closed" "Z", .fieldLink RX5 96 "PegBoxModel" "day" "I", .methodLink RX5 61 yX5_in, .static yX5_in, .initialized RX5, .code yX5_in cX5_in 3 (some .boolean), .methodLink RX5 70 yX5_isFine, .instanceMethod yX5_isFine, .selects RX5 yX5_isFine yX5_isFine, .code yX5_isFine cX5_isFine 2 (some .boolean), .fieldLink RX5 56 "PegBoxModel" "thrown" "I", .methodLink RX5 102 yX5_frees, .instanceMethod yX5_frees, .selects RX5 yX5_frees yX5_frees, .code yX5_frees cX5_frees 3 none, .fieldLink RX5 13 "PegBoxModel" "partDay" "[I", .fieldLink RX5 7 "PegBoxModel" "partAmount" "[I", .fieldLink RX5 99 "PegBoxModel" "claims" "I", .fieldLink RX5 47 "PegBoxModel" "settled" "[I", .fieldLink RX5 41 "PegBoxModel" "amount" "[I", .fieldLink RX5 90 "PegBoxModel" "held" "I", .fieldLink RX5 93 "PegBoxModel" "paid" "I"] ++ wsX50)
def wsX5_claim : List Cond := .code yX5_claim cX5_claim 4 (some .int) :: ([.constant RX5 60 (10000000), .fieldLink RX5 66 "PegBoxModel" "closed" "Z", .fieldLink RX5 96 "PegBoxModel" "day" "I", .fieldLink RX5 29 "PegBoxModel" "lastDay" "[I", .fieldLink RX5 99 "PegBoxModel" "claims" "I", .fieldLink RX5 38 "PegBoxModel" "kind" "[I", .fieldLink RX5 41 "PegBoxModel" "amount" "[I", .fieldLink RX5 44 "PegBoxModel" "offered" "[I", .fieldLink RX5 47 "PegBoxModel" "settled" "[I", .methodLink RX5 61 yX5_in, .static yX5_in, .initialized RX5, .code yX5_in cX5_in 3 (some .boolean), .methodLink RX5 70 yX5_isFine, .instanceMethod yX5_isFine, .selects RX5 yX5_isFine yX5_isFine, .code yX5_isFine cX5_isFine 2 (some .boolean), .fieldLink RX5 56 "PegBoxModel" "thrown" "I"] ++ wsX50)
def wsX5_isClaim : List Cond := .code yX5_isClaim cX5_isClaim 2 (some .boolean) :: ([.fieldLink RX5 99 "PegBoxModel" "claims" "I", .methodLink RX5 61 yX5_in, .static yX5_in, .initialized RX5, .code yX5_in cX5_in 3 (some .boolean)] ++ wsX50)
def wsX5_offer : List Cond := .code yX5_offer cX5_offer 5 (some .int) :: ([.fieldLink RX5 47 "PegBoxModel" "settled" "[I", .fieldLink RX5 41 "PegBoxModel" "amount" "[I", .fieldLink RX5 44 "PegBoxModel" "offered" "[I", .methodLink RX5 105 yX5_isClaim, .instanceMethod yX5_isClaim, .selects RX5 yX5_isClaim yX5_isClaim, .initialized RX5, .code yX5_isClaim cX5_isClaim 2 (some .boolean), .fieldLink RX5 99 "PegBoxModel" "claims" "I", .methodLink RX5 61 yX5_in, .static yX5_in, .code yX5_in cX5_in 3 (some .boolean), .methodLink RX5 70 yX5_isFine, .instanceMethod yX5_isFine, .selects RX5 yX5_isFine yX5_isFine, .code yX5_isFine cX5_isFine 2 (some .boolean), .fieldLink RX5 56 "PegBoxModel" "thrown" "I"] ++ wsX50)
def wsX5_dueFor : List Cond := .code yX5_dueFor cX5_dueFor 4 (some .int) :: ([.fieldLink RX5 99 "PegBoxModel" "claims" "I", .fieldLink RX5 38 "PegBoxModel" "kind" "[I", .fieldLink RX5 47 "PegBoxModel" "settled" "[I", .fieldLink RX5 16 "PegBoxModel" "least" "[I", .fieldLink RX5 22 "PegBoxModel" "whole" "[Z", .fieldLink RX5 19 "PegBoxModel" "basket" "[I", .fieldLink RX5 26 "PegBoxModel" "cap" "[I"] ++ wsX50)
def wsX5_dueAll : List Cond := .code yX5_dueAll cX5_dueAll 1 (some .int) :: ([.methodLink RX5 108 yX5_dueFor, .instanceMethod yX5_dueFor, .selects RX5 yX5_dueFor yX5_dueFor, .initialized RX5, .code yX5_dueFor cX5_dueFor 4 (some .int), .fieldLink RX5 99 "PegBoxModel" "claims" "I", .fieldLink RX5 38 "PegBoxModel" "kind" "[I", .fieldLink RX5 47 "PegBoxModel" "settled" "[I", .fieldLink RX5 16 "PegBoxModel" "least" "[I", .fieldLink RX5 22 "PegBoxModel" "whole" "[Z", .fieldLink RX5 19 "PegBoxModel" "basket" "[I", .fieldLink RX5 26 "PegBoxModel" "cap" "[I"] ++ wsX50)
def wsX5_open : List Cond := .code yX5_open cX5_open 1 (some .int) :: ([.fieldLink RX5 116 "PegBoxModel" "returned" "I", .fieldLink RX5 119 "PegBoxModel" "setOff" "I", .methodLink RX5 112 yX5_dueAll, .instanceMethod yX5_dueAll, .selects RX5 yX5_dueAll yX5_dueAll, .initialized RX5, .code yX5_dueAll cX5_dueAll 1 (some .int), .methodLink RX5 108 yX5_dueFor, .instanceMethod yX5_dueFor, .selects RX5 yX5_dueFor yX5_dueFor, .code yX5_dueFor cX5_dueFor 4 (some .int), .fieldLink RX5 99 "PegBoxModel" "claims" "I", .fieldLink RX5 38 "PegBoxModel" "kind" "[I", .fieldLink RX5 47 "PegBoxModel" "settled" "[I", .fieldLink RX5 16 "PegBoxModel" "least" "[I", .fieldLink RX5 22 "PegBoxModel" "whole" "[Z", .fieldLink RX5 19 "PegBoxModel" "basket" "[I", .fieldLink RX5 26 "PegBoxModel" "cap" "[I"] ++ wsX50)
def wsX5_settles_r1 : List Cond := [Cond.fieldLink RX5 47 "PegBoxModel" "settled" "[I", Cond.fieldLink RX5 90 "PegBoxModel" "held" "I", Cond.fieldLink RX5 116 "PegBoxModel" "returned" "I", Cond.methodLink RX5 122 yX5_open, Cond.instanceMethod yX5_open, Cond.selects RX5 yX5_open yX5_open, Cond.initialized RX5, Cond.code yX5_open cX5_open 1 (some .int), Cond.fieldLink RX5 119 "PegBoxModel" "setOff" "I", Cond.methodLink RX5 112 yX5_dueAll, Cond.instanceMethod yX5_dueAll, Cond.selects RX5 yX5_dueAll yX5_dueAll, Cond.code yX5_dueAll cX5_dueAll 1 (some .int), Cond.methodLink RX5 108 yX5_dueFor, Cond.instanceMethod yX5_dueFor, Cond.selects RX5 yX5_dueFor yX5_dueFor, Cond.code yX5_dueFor cX5_dueFor 4 (some .int), Cond.fieldLink RX5 99 "PegBoxModel" "claims" "I", Cond.fieldLink RX5 38 "PegBoxModel" "kind" "[I", Cond.fieldLink RX5 16 "PegBoxModel" "least" "[I", Cond.fieldLink RX5 22 "PegBoxModel" "whole" "[Z", Cond.fieldLink RX5 19 "PegBoxModel" "basket" "[I", Cond.fieldLink RX5 26 "PegBoxModel" "cap" "[I", Cond.methodLink RX5 102 yX5_frees]
def wsX5_settles_r2 : List Cond := [Cond.instanceMethod yX5_frees, Cond.selects RX5 yX5_frees yX5_frees, Cond.code yX5_frees cX5_frees 3 none, Cond.fieldLink RX5 13 "PegBoxModel" "partDay" "[I", Cond.fieldLink RX5 96 "PegBoxModel" "day" "I", Cond.fieldLink RX5 7 "PegBoxModel" "partAmount" "[I", Cond.fieldLink RX5 41 "PegBoxModel" "amount" "[I", Cond.fieldLink RX5 93 "PegBoxModel" "paid" "I"]
def wsX5_settles : List Cond := .code yX5_settles cX5_settles 4 (some .int) :: ((wsX5_settles_r1 ++ wsX5_settles_r2) ++ wsX50)
def wsX5_agree_r1 : List Cond := [Cond.fieldLink RX5 47 "PegBoxModel" "settled" "[I", Cond.fieldLink RX5 44 "PegBoxModel" "offered" "[I", Cond.methodLink RX5 105 yX5_isClaim, Cond.instanceMethod yX5_isClaim, Cond.selects RX5 yX5_isClaim yX5_isClaim, Cond.initialized RX5, Cond.code yX5_isClaim cX5_isClaim 2 (some .boolean), Cond.fieldLink RX5 99 "PegBoxModel" "claims" "I", Cond.methodLink RX5 61 yX5_in, Cond.static yX5_in, Cond.code yX5_in cX5_in 3 (some .boolean), Cond.methodLink RX5 70 yX5_isFine, Cond.instanceMethod yX5_isFine, Cond.selects RX5 yX5_isFine yX5_isFine, Cond.code yX5_isFine cX5_isFine 2 (some .boolean), Cond.fieldLink RX5 56 "PegBoxModel" "thrown" "I", Cond.methodLink RX5 125 yX5_settles, Cond.instanceMethod yX5_settles, Cond.selects RX5 yX5_settles yX5_settles, Cond.code yX5_settles cX5_settles 4 (some .int), Cond.fieldLink RX5 90 "PegBoxModel" "held" "I", Cond.fieldLink RX5 116 "PegBoxModel" "returned" "I", Cond.methodLink RX5 122 yX5_open, Cond.instanceMethod yX5_open]
def wsX5_agree_r2 : List Cond := [Cond.selects RX5 yX5_open yX5_open, Cond.code yX5_open cX5_open 1 (some .int), Cond.fieldLink RX5 119 "PegBoxModel" "setOff" "I", Cond.methodLink RX5 112 yX5_dueAll, Cond.instanceMethod yX5_dueAll, Cond.selects RX5 yX5_dueAll yX5_dueAll, Cond.code yX5_dueAll cX5_dueAll 1 (some .int), Cond.methodLink RX5 108 yX5_dueFor, Cond.instanceMethod yX5_dueFor, Cond.selects RX5 yX5_dueFor yX5_dueFor, Cond.code yX5_dueFor cX5_dueFor 4 (some .int), Cond.fieldLink RX5 38 "PegBoxModel" "kind" "[I", Cond.fieldLink RX5 16 "PegBoxModel" "least" "[I", Cond.fieldLink RX5 22 "PegBoxModel" "whole" "[Z", Cond.fieldLink RX5 19 "PegBoxModel" "basket" "[I", Cond.fieldLink RX5 26 "PegBoxModel" "cap" "[I", Cond.methodLink RX5 102 yX5_frees, Cond.instanceMethod yX5_frees, Cond.selects RX5 yX5_frees yX5_frees, Cond.code yX5_frees cX5_frees 3 none, Cond.fieldLink RX5 13 "PegBoxModel" "partDay" "[I", Cond.fieldLink RX5 96 "PegBoxModel" "day" "I", Cond.fieldLink RX5 7 "PegBoxModel" "partAmount" "[I", Cond.fieldLink RX5 41 "PegBoxModel" "amount" "[I"]
def wsX5_agree_r3 : List Cond := [Cond.fieldLink RX5 93 "PegBoxModel" "paid" "I"]
def wsX5_agree : List Cond := .code yX5_agree cX5_agree 3 (some .int) :: ((wsX5_agree_r1 ++ (wsX5_agree_r2 ++ wsX5_agree_r3)) ++ wsX50)
def wsX5_decide_r1 : List Cond := [Cond.fieldLink RX5 47 "PegBoxModel" "settled" "[I", Cond.fieldLink RX5 44 "PegBoxModel" "offered" "[I", Cond.fieldLink RX5 41 "PegBoxModel" "amount" "[I", Cond.methodLink RX5 105 yX5_isClaim, Cond.instanceMethod yX5_isClaim, Cond.selects RX5 yX5_isClaim yX5_isClaim, Cond.initialized RX5, Cond.code yX5_isClaim cX5_isClaim 2 (some .boolean), Cond.fieldLink RX5 99 "PegBoxModel" "claims" "I", Cond.methodLink RX5 61 yX5_in, Cond.static yX5_in, Cond.code yX5_in cX5_in 3 (some .boolean), Cond.methodLink RX5 70 yX5_isFine, Cond.instanceMethod yX5_isFine, Cond.selects RX5 yX5_isFine yX5_isFine, Cond.code yX5_isFine cX5_isFine 2 (some .boolean), Cond.fieldLink RX5 56 "PegBoxModel" "thrown" "I", Cond.methodLink RX5 125 yX5_settles, Cond.instanceMethod yX5_settles, Cond.selects RX5 yX5_settles yX5_settles, Cond.code yX5_settles cX5_settles 4 (some .int), Cond.fieldLink RX5 90 "PegBoxModel" "held" "I", Cond.fieldLink RX5 116 "PegBoxModel" "returned" "I", Cond.methodLink RX5 122 yX5_open]
def wsX5_decide_r2 : List Cond := [Cond.instanceMethod yX5_open, Cond.selects RX5 yX5_open yX5_open, Cond.code yX5_open cX5_open 1 (some .int), Cond.fieldLink RX5 119 "PegBoxModel" "setOff" "I", Cond.methodLink RX5 112 yX5_dueAll, Cond.instanceMethod yX5_dueAll, Cond.selects RX5 yX5_dueAll yX5_dueAll, Cond.code yX5_dueAll cX5_dueAll 1 (some .int), Cond.methodLink RX5 108 yX5_dueFor, Cond.instanceMethod yX5_dueFor, Cond.selects RX5 yX5_dueFor yX5_dueFor, Cond.code yX5_dueFor cX5_dueFor 4 (some .int), Cond.fieldLink RX5 38 "PegBoxModel" "kind" "[I", Cond.fieldLink RX5 16 "PegBoxModel" "least" "[I", Cond.fieldLink RX5 22 "PegBoxModel" "whole" "[Z", Cond.fieldLink RX5 19 "PegBoxModel" "basket" "[I", Cond.fieldLink RX5 26 "PegBoxModel" "cap" "[I", Cond.methodLink RX5 102 yX5_frees, Cond.instanceMethod yX5_frees, Cond.selects RX5 yX5_frees yX5_frees, Cond.code yX5_frees cX5_frees 3 none, Cond.fieldLink RX5 13 "PegBoxModel" "partDay" "[I", Cond.fieldLink RX5 96 "PegBoxModel" "day" "I", Cond.fieldLink RX5 7 "PegBoxModel" "partAmount" "[I"]
def wsX5_decide_r3 : List Cond := [Cond.fieldLink RX5 93 "PegBoxModel" "paid" "I"]
def wsX5_decide : List Cond := .code yX5_decide cX5_decide 4 (some .int) :: ((wsX5_decide_r1 ++ (wsX5_decide_r2 ++ wsX5_decide_r3)) ++ wsX50)
def wsX5_owes : List Cond := .code yX5_owes cX5_owes 3 (some .int) :: ([.fieldLink RX5 119 "PegBoxModel" "setOff" "I", .fieldLink RX5 93 "PegBoxModel" "paid" "I", .fieldLink RX5 129 "PegBoxModel" "owed" "I", .methodLink RX5 122 yX5_open, .instanceMethod yX5_open, .selects RX5 yX5_open yX5_open, .initialized RX5, .code yX5_open cX5_open 1 (some .int), .fieldLink RX5 116 "PegBoxModel" "returned" "I", .methodLink RX5 112 yX5_dueAll, .instanceMethod yX5_dueAll, .selects RX5 yX5_dueAll yX5_dueAll, .code yX5_dueAll cX5_dueAll 1 (some .int), .methodLink RX5 108 yX5_dueFor, .instanceMethod yX5_dueFor, .selects RX5 yX5_dueFor yX5_dueFor, .code yX5_dueFor cX5_dueFor 4 (some .int), .fieldLink RX5 99 "PegBoxModel" "claims" "I", .fieldLink RX5 38 "PegBoxModel" "kind" "[I", .fieldLink RX5 47 "PegBoxModel" "settled" "[I", .fieldLink RX5 16 "PegBoxModel" "least" "[I", .fieldLink RX5 22 "PegBoxModel" "whole" "[Z", .fieldLink RX5 19 "PegBoxModel" "basket" "[I", .fieldLink RX5 26 "PegBoxModel" "cap" "[I"] ++ wsX50)
def wsX5_report_r1 : List Cond := [Cond.constant RX5 65 (-10000000), Cond.constant RX5 60 (10000000), Cond.fieldLink RX5 66 "PegBoxModel" "closed" "Z", Cond.fieldLink RX5 132 "PegBoxModel" "told" "I", Cond.fieldLink RX5 135 "PegBoxModel" "sped" "Z", Cond.fieldLink RX5 50 "PegBoxModel" "results" "[I", Cond.fieldLink RX5 32 "PegBoxModel" "target" "[I", Cond.fieldLink RX5 84 "PegBoxModel" "carried" "Z", Cond.fieldLink RX5 53 "PegBoxModel" "met" "[Z", Cond.fieldLink RX5 35 "PegBoxModel" "yearAmount" "[I", Cond.methodLink RX5 61 yX5_in, Cond.static yX5_in, Cond.initialized RX5, Cond.code yX5_in cX5_in 3 (some .boolean), Cond.methodLink RX5 70 yX5_isFine, Cond.instanceMethod yX5_isFine, Cond.selects RX5 yX5_isFine yX5_isFine, Cond.code yX5_isFine cX5_isFine 2 (some .boolean), Cond.fieldLink RX5 56 "PegBoxModel" "thrown" "I", Cond.methodLink RX5 138 yX5_owes, Cond.instanceMethod yX5_owes, Cond.selects RX5 yX5_owes yX5_owes, Cond.code yX5_owes cX5_owes 3 (some .int), Cond.fieldLink RX5 119 "PegBoxModel" "setOff" "I"]
def wsX5_report_r2 : List Cond := [Cond.fieldLink RX5 93 "PegBoxModel" "paid" "I", Cond.fieldLink RX5 129 "PegBoxModel" "owed" "I", Cond.methodLink RX5 122 yX5_open, Cond.instanceMethod yX5_open, Cond.selects RX5 yX5_open yX5_open, Cond.code yX5_open cX5_open 1 (some .int), Cond.fieldLink RX5 116 "PegBoxModel" "returned" "I", Cond.methodLink RX5 112 yX5_dueAll, Cond.instanceMethod yX5_dueAll, Cond.selects RX5 yX5_dueAll yX5_dueAll, Cond.code yX5_dueAll cX5_dueAll 1 (some .int), Cond.methodLink RX5 108 yX5_dueFor, Cond.instanceMethod yX5_dueFor, Cond.selects RX5 yX5_dueFor yX5_dueFor, Cond.code yX5_dueFor cX5_dueFor 4 (some .int), Cond.fieldLink RX5 99 "PegBoxModel" "claims" "I", Cond.fieldLink RX5 38 "PegBoxModel" "kind" "[I", Cond.fieldLink RX5 47 "PegBoxModel" "settled" "[I", Cond.fieldLink RX5 16 "PegBoxModel" "least" "[I", Cond.fieldLink RX5 22 "PegBoxModel" "whole" "[Z", Cond.fieldLink RX5 19 "PegBoxModel" "basket" "[I", Cond.fieldLink RX5 26 "PegBoxModel" "cap" "[I"]
def wsX5_report : List Cond := .code yX5_report cX5_report 8 (some .int) :: ((wsX5_report_r1 ++ wsX5_report_r2) ++ wsX50)
def wsX5_speedUp_r1 : List Cond := [Cond.fieldLink RX5 66 "PegBoxModel" "closed" "Z", Cond.fieldLink RX5 135 "PegBoxModel" "sped" "Z", Cond.fieldLink RX5 132 "PegBoxModel" "told" "I", Cond.fieldLink RX5 53 "PegBoxModel" "met" "[Z", Cond.fieldLink RX5 35 "PegBoxModel" "yearAmount" "[I", Cond.methodLink RX5 70 yX5_isFine, Cond.instanceMethod yX5_isFine, Cond.selects RX5 yX5_isFine yX5_isFine, Cond.initialized RX5, Cond.code yX5_isFine cX5_isFine 2 (some .boolean), Cond.fieldLink RX5 56 "PegBoxModel" "thrown" "I", Cond.methodLink RX5 138 yX5_owes, Cond.instanceMethod yX5_owes, Cond.selects RX5 yX5_owes yX5_owes, Cond.code yX5_owes cX5_owes 3 (some .int), Cond.fieldLink RX5 119 "PegBoxModel" "setOff" "I", Cond.fieldLink RX5 93 "PegBoxModel" "paid" "I", Cond.fieldLink RX5 129 "PegBoxModel" "owed" "I", Cond.methodLink RX5 122 yX5_open, Cond.instanceMethod yX5_open, Cond.selects RX5 yX5_open yX5_open, Cond.code yX5_open cX5_open 1 (some .int), Cond.fieldLink RX5 116 "PegBoxModel" "returned" "I", Cond.methodLink RX5 112 yX5_dueAll]
def wsX5_speedUp_r2 : List Cond := [Cond.instanceMethod yX5_dueAll, Cond.selects RX5 yX5_dueAll yX5_dueAll, Cond.code yX5_dueAll cX5_dueAll 1 (some .int), Cond.methodLink RX5 108 yX5_dueFor, Cond.instanceMethod yX5_dueFor, Cond.selects RX5 yX5_dueFor yX5_dueFor, Cond.code yX5_dueFor cX5_dueFor 4 (some .int), Cond.fieldLink RX5 99 "PegBoxModel" "claims" "I", Cond.fieldLink RX5 38 "PegBoxModel" "kind" "[I", Cond.fieldLink RX5 47 "PegBoxModel" "settled" "[I", Cond.fieldLink RX5 16 "PegBoxModel" "least" "[I", Cond.fieldLink RX5 22 "PegBoxModel" "whole" "[Z", Cond.fieldLink RX5 19 "PegBoxModel" "basket" "[I", Cond.fieldLink RX5 26 "PegBoxModel" "cap" "[I"]
def wsX5_speedUp : List Cond := .code yX5_speedUp cX5_speedUp 3 (some .int) :: ((wsX5_speedUp_r1 ++ wsX5_speedUp_r2) ++ wsX50)
def wsX5_day : List Cond := .code yX5_day cX5_day 1 (some .int) :: ([.fieldLink RX5 56 "PegBoxModel" "thrown" "I", .fieldLink RX5 66 "PegBoxModel" "closed" "Z", .fieldLink RX5 96 "PegBoxModel" "day" "I"] ++ wsX50)
def wsX5_finalPrice : List Cond := .code yX5_finalPrice cX5_finalPrice 1 (some .int) :: ([.fieldLink RX5 56 "PegBoxModel" "thrown" "I", .fieldLink RX5 66 "PegBoxModel" "closed" "Z", .fieldLink RX5 87 "PegBoxModel" "finals" "I"] ++ wsX50)
def wsX5_held : List Cond := .code yX5_held cX5_held 1 (some .int) :: ([.fieldLink RX5 56 "PegBoxModel" "thrown" "I", .fieldLink RX5 90 "PegBoxModel" "held" "I"] ++ wsX50)
def wsX5_paid : List Cond := .code yX5_paid cX5_paid 1 (some .int) :: ([.fieldLink RX5 56 "PegBoxModel" "thrown" "I", .fieldLink RX5 93 "PegBoxModel" "paid" "I"] ++ wsX50)
def wsX5_returned : List Cond := .code yX5_returned cX5_returned 1 (some .int) :: ([.fieldLink RX5 56 "PegBoxModel" "thrown" "I", .fieldLink RX5 116 "PegBoxModel" "returned" "I"] ++ wsX50)
def wsX5_setOff : List Cond := .code yX5_setOff cX5_setOff 1 (some .int) :: ([.fieldLink RX5 56 "PegBoxModel" "thrown" "I", .fieldLink RX5 119 "PegBoxModel" "setOff" "I"] ++ wsX50)
def wsX5_owed : List Cond := .code yX5_owed cX5_owed 1 (some .int) :: ([.fieldLink RX5 56 "PegBoxModel" "thrown" "I", .fieldLink RX5 129 "PegBoxModel" "owed" "I"] ++ wsX50)
def wsX5_due : List Cond := .code yX5_due cX5_due 1 (some .int) :: ([.fieldLink RX5 56 "PegBoxModel" "thrown" "I", .methodLink RX5 112 yX5_dueAll, .instanceMethod yX5_dueAll, .selects RX5 yX5_dueAll yX5_dueAll, .initialized RX5, .code yX5_dueAll cX5_dueAll 1 (some .int), .methodLink RX5 108 yX5_dueFor, .instanceMethod yX5_dueFor, .selects RX5 yX5_dueFor yX5_dueFor, .code yX5_dueFor cX5_dueFor 4 (some .int), .fieldLink RX5 99 "PegBoxModel" "claims" "I", .fieldLink RX5 38 "PegBoxModel" "kind" "[I", .fieldLink RX5 47 "PegBoxModel" "settled" "[I", .fieldLink RX5 16 "PegBoxModel" "least" "[I", .fieldLink RX5 22 "PegBoxModel" "whole" "[Z", .fieldLink RX5 19 "PegBoxModel" "basket" "[I", .fieldLink RX5 26 "PegBoxModel" "cap" "[I"] ++ wsX50)
def wsX5_outstanding : List Cond := .code yX5_outstanding cX5_outstanding 1 (some .int) :: ([.fieldLink RX5 56 "PegBoxModel" "thrown" "I", .methodLink RX5 122 yX5_open, .instanceMethod yX5_open, .selects RX5 yX5_open yX5_open, .initialized RX5, .code yX5_open cX5_open 1 (some .int), .fieldLink RX5 116 "PegBoxModel" "returned" "I", .fieldLink RX5 119 "PegBoxModel" "setOff" "I", .methodLink RX5 112 yX5_dueAll, .instanceMethod yX5_dueAll, .selects RX5 yX5_dueAll yX5_dueAll, .code yX5_dueAll cX5_dueAll 1 (some .int), .methodLink RX5 108 yX5_dueFor, .instanceMethod yX5_dueFor, .selects RX5 yX5_dueFor yX5_dueFor, .code yX5_dueFor cX5_dueFor 4 (some .int), .fieldLink RX5 99 "PegBoxModel" "claims" "I", .fieldLink RX5 38 "PegBoxModel" "kind" "[I", .fieldLink RX5 47 "PegBoxModel" "settled" "[I", .fieldLink RX5 16 "PegBoxModel" "least" "[I", .fieldLink RX5 22 "PegBoxModel" "whole" "[Z", .fieldLink RX5 19 "PegBoxModel" "basket" "[I", .fieldLink RX5 26 "PegBoxModel" "cap" "[I"] ++ wsX50)
def wsX5_dueOf : List Cond := .code yX5_dueOf cX5_dueOf 2 (some .int) :: ([.methodLink RX5 61 yX5_in, .static yX5_in, .initialized RX5, .code yX5_in cX5_in 3 (some .boolean), .methodLink RX5 70 yX5_isFine, .instanceMethod yX5_isFine, .selects RX5 yX5_isFine yX5_isFine, .code yX5_isFine cX5_isFine 2 (some .boolean), .fieldLink RX5 56 "PegBoxModel" "thrown" "I", .methodLink RX5 108 yX5_dueFor, .instanceMethod yX5_dueFor, .selects RX5 yX5_dueFor yX5_dueFor, .code yX5_dueFor cX5_dueFor 4 (some .int), .fieldLink RX5 99 "PegBoxModel" "claims" "I", .fieldLink RX5 38 "PegBoxModel" "kind" "[I", .fieldLink RX5 47 "PegBoxModel" "settled" "[I", .fieldLink RX5 16 "PegBoxModel" "least" "[I", .fieldLink RX5 22 "PegBoxModel" "whole" "[Z", .fieldLink RX5 19 "PegBoxModel" "basket" "[I", .fieldLink RX5 26 "PegBoxModel" "cap" "[I"] ++ wsX50)
def wsX5_claims : List Cond := .code yX5_claims cX5_claims 1 (some .int) :: ([.fieldLink RX5 56 "PegBoxModel" "thrown" "I", .fieldLink RX5 99 "PegBoxModel" "claims" "I"] ++ wsX50)
def wsX5_settledAt : List Cond := .code yX5_settledAt cX5_settledAt 2 (some .int) :: ([.fieldLink RX5 47 "PegBoxModel" "settled" "[I", .methodLink RX5 105 yX5_isClaim, .instanceMethod yX5_isClaim, .selects RX5 yX5_isClaim yX5_isClaim, .initialized RX5, .code yX5_isClaim cX5_isClaim 2 (some .boolean), .fieldLink RX5 99 "PegBoxModel" "claims" "I", .methodLink RX5 61 yX5_in, .static yX5_in, .code yX5_in cX5_in 3 (some .boolean), .methodLink RX5 70 yX5_isFine, .instanceMethod yX5_isFine, .selects RX5 yX5_isFine yX5_isFine, .code yX5_isFine cX5_isFine 2 (some .boolean), .fieldLink RX5 56 "PegBoxModel" "thrown" "I"] ++ wsX50)
def wsX5_isMet : List Cond := .code yX5_isMet cX5_isMet 2 (some .boolean) :: ([.fieldLink RX5 53 "PegBoxModel" "met" "[Z", .methodLink RX5 61 yX5_in, .static yX5_in, .initialized RX5, .code yX5_in cX5_in 3 (some .boolean), .methodLink RX5 70 yX5_isFine, .instanceMethod yX5_isFine, .selects RX5 yX5_isFine yX5_isFine, .code yX5_isFine cX5_isFine 2 (some .boolean), .fieldLink RX5 56 "PegBoxModel" "thrown" "I"] ++ wsX50)
def wsJ9_max_7cf53 : List Cond := .code yJ9_max_7cf53 cJ9_max_7cf53 2 (some .int) :: ([])
def wsJ9_min_7cf53 : List Cond := .code yJ9_min_7cf53 cJ9_min_7cf53 2 (some .int) :: ([])
def wsL_setPrice : List Cond := .codeWith yL_setPrice cL_setPrice 5 (some .int) [(0, 7, 10, 13), (0, 7, 14, 15)] :: ([.classLink RL 13 "java/lang/IllegalArgumentException", .classLink RL 15 "java/lang/IllegalStateException", .methodLink RL 7 yX4_setPrice, .instanceMethod yX4_setPrice, .selects RX4 yX4_setPrice yX4_setPrice, .initialized RX4, .code yX4_setPrice cX4_setPrice 4 none, .constant RX4 44 (10000000), .constant RX4 49 (-10000000), .fieldLink RX4 53 "PegBox" "price" "I", .fieldLink RX4 56 "PegBox" "peg" "I", .fieldLink RX4 59 "PegBox" "collar" "I", .methodLink RX4 45 yX4_checkRange, .static yX4_checkRange, .code yX4_checkRange cX4_checkRange 3 none, .classLink RX4 204 "java/lang/IllegalArgumentException", .initialized "java/lang/IllegalArgumentException", .methodLink RX4 50 yX4_checkNotClosed, .instanceMethod yX4_checkNotClosed, .selects RX4 yX4_checkNotClosed yX4_checkNotClosed, .code yX4_checkNotClosed cX4_checkNotClosed 1 none, .classLink RX4 124 "java/lang/IllegalStateException", .initialized "java/lang/IllegalStateException", .fieldLink RX4 37 "PegBox" "day" "I"] ++ wsX40 ++ (vx_atS RX4 208 "java/lang/IllegalArgumentException" ["java/lang/RuntimeException", "java/lang/Exception"]).filter goodWord ++ (vx_atS RX4 128 "java/lang/IllegalStateException" ["java/lang/RuntimeException", "java/lang/Exception"]).filter goodWord)
def wsL_setPart_r1 : List Cond := [Cond.classLink RL 20 "java/lang/IndexOutOfBoundsException", Cond.classLink RL 13 "java/lang/IllegalArgumentException", Cond.classLink RL 15 "java/lang/IllegalStateException", Cond.methodLink RL 17 yX4_setPart, Cond.instanceMethod yX4_setPart, Cond.selects RX4 yX4_setPart yX4_setPart, Cond.initialized RX4, Cond.code yX4_setPart cX4_setPart 4 none, Cond.constant RX4 44 (10000000), Cond.fieldLink RX4 10 "PegBox" "escrow" "LPegBox$Escrow;", Cond.fieldLink RX4 66 "PegBox$Escrow" "amounts" "[I", Cond.fieldLink RX4 70 "PegBox$Escrow" "days" "[I", Cond.methodLink RX4 62 yX4_checkNumber, Cond.static yX4_checkNumber, Cond.code yX4_checkNumber cX4_checkNumber 2 none, Cond.classLink RX4 199 "java/lang/IndexOutOfBoundsException", Cond.initialized "java/lang/IndexOutOfBoundsException", Cond.methodLink RX4 45 yX4_checkRange, Cond.static yX4_checkRange, Cond.code yX4_checkRange cX4_checkRange 3 none, Cond.classLink RX4 204 "java/lang/IllegalArgumentException", Cond.initialized "java/lang/IllegalArgumentException", Cond.methodLink RX4 50 yX4_checkNotClosed, Cond.instanceMethod yX4_checkNotClosed]
def wsL_setPart_r2 : List Cond := [Cond.selects RX4 yX4_checkNotClosed yX4_checkNotClosed, Cond.code yX4_checkNotClosed cX4_checkNotClosed 1 none, Cond.classLink RX4 124 "java/lang/IllegalStateException", Cond.initialized "java/lang/IllegalStateException", Cond.fieldLink RX4 37 "PegBox" "day" "I"]
def wsL_setPart : List Cond := .codeWith yL_setPart cL_setPart 5 (some .int) [(0, 7, 10, 20), (0, 7, 14, 13), (0, 7, 18, 15)] :: ((wsL_setPart_r1 ++ wsL_setPart_r2) ++ wsX40 ++ wsX20 ++ (vx_atS RX4 203 "java/lang/IndexOutOfBoundsException" ["java/lang/RuntimeException", "java/lang/Exception"]).filter goodWord ++ (vx_atS RX4 208 "java/lang/IllegalArgumentException" ["java/lang/RuntimeException", "java/lang/Exception"]).filter goodWord ++ (vx_atS RX4 128 "java/lang/IllegalStateException" ["java/lang/RuntimeException", "java/lang/Exception"]).filter goodWord)
def wsL_setKind_r1 : List Cond := [Cond.classLink RL 20 "java/lang/IndexOutOfBoundsException", Cond.classLink RL 13 "java/lang/IllegalArgumentException", Cond.classLink RL 15 "java/lang/IllegalStateException", Cond.methodLink RL 22 yX4_setKind, Cond.instanceMethod yX4_setKind, Cond.selects RX4 yX4_setKind yX4_setKind, Cond.initialized RX4, Cond.code yX4_setKind cX4_setKind 7 none, Cond.constant RX4 44 (10000000), Cond.constant RX4 73 (100000000), Cond.fieldLink RX4 19 "PegBox" "kinds" "LPegBox$Kinds;", Cond.fieldLink RX4 74 "PegBox$Kinds" "leasts" "[I", Cond.fieldLink RX4 77 "PegBox$Kinds" "baskets" "[I", Cond.fieldLink RX4 80 "PegBox$Kinds" "wholes" "[Z", Cond.fieldLink RX4 84 "PegBox$Kinds" "caps" "[I", Cond.fieldLink RX4 87 "PegBox$Kinds" "lastDays" "[I", Cond.methodLink RX4 62 yX4_checkNumber, Cond.static yX4_checkNumber, Cond.code yX4_checkNumber cX4_checkNumber 2 none, Cond.classLink RX4 199 "java/lang/IndexOutOfBoundsException", Cond.initialized "java/lang/IndexOutOfBoundsException", Cond.methodLink RX4 45 yX4_checkRange, Cond.static yX4_checkRange, Cond.code yX4_checkRange cX4_checkRange 3 none]
def wsL_setKind_r2 : List Cond := [Cond.classLink RX4 204 "java/lang/IllegalArgumentException", Cond.initialized "java/lang/IllegalArgumentException", Cond.methodLink RX4 50 yX4_checkNotClosed, Cond.instanceMethod yX4_checkNotClosed, Cond.selects RX4 yX4_checkNotClosed yX4_checkNotClosed, Cond.code yX4_checkNotClosed cX4_checkNotClosed 1 none, Cond.classLink RX4 124 "java/lang/IllegalStateException", Cond.initialized "java/lang/IllegalStateException", Cond.fieldLink RX4 37 "PegBox" "day" "I"]
def wsL_setKind : List Cond := .codeWith yL_setKind cL_setKind 8 (some .int) [(0, 13, 16, 20), (0, 13, 20, 13), (0, 13, 24, 15)] :: ((wsL_setKind_r1 ++ wsL_setKind_r2) ++ wsX40 ++ wsX30 ++ (vx_atS RX4 203 "java/lang/IndexOutOfBoundsException" ["java/lang/RuntimeException", "java/lang/Exception"]).filter goodWord ++ (vx_atS RX4 208 "java/lang/IllegalArgumentException" ["java/lang/RuntimeException", "java/lang/Exception"]).filter goodWord ++ (vx_atS RX4 128 "java/lang/IllegalStateException" ["java/lang/RuntimeException", "java/lang/Exception"]).filter goodWord)
def wsL_setYear_r1 : List Cond := [Cond.classLink RL 20 "java/lang/IndexOutOfBoundsException", Cond.classLink RL 13 "java/lang/IllegalArgumentException", Cond.classLink RL 15 "java/lang/IllegalStateException", Cond.methodLink RL 26 yX4_setYear, Cond.instanceMethod yX4_setYear, Cond.selects RX4 yX4_setYear yX4_setYear, Cond.initialized RX4, Cond.code yX4_setYear cX4_setYear 4 none, Cond.constant RX4 44 (10000000), Cond.fieldLink RX4 33 "PegBox" "earnOut" "LPegBox$EarnOut;", Cond.fieldLink RX4 90 "PegBox$EarnOut" "targets" "[I", Cond.fieldLink RX4 93 "PegBox$EarnOut" "amounts" "[I", Cond.methodLink RX4 62 yX4_checkNumber, Cond.static yX4_checkNumber, Cond.code yX4_checkNumber cX4_checkNumber 2 none, Cond.classLink RX4 199 "java/lang/IndexOutOfBoundsException", Cond.initialized "java/lang/IndexOutOfBoundsException", Cond.methodLink RX4 45 yX4_checkRange, Cond.static yX4_checkRange, Cond.code yX4_checkRange cX4_checkRange 3 none, Cond.classLink RX4 204 "java/lang/IllegalArgumentException", Cond.initialized "java/lang/IllegalArgumentException", Cond.methodLink RX4 50 yX4_checkNotClosed, Cond.instanceMethod yX4_checkNotClosed]
def wsL_setYear_r2 : List Cond := [Cond.selects RX4 yX4_checkNotClosed yX4_checkNotClosed, Cond.code yX4_checkNotClosed cX4_checkNotClosed 1 none, Cond.classLink RX4 124 "java/lang/IllegalStateException", Cond.initialized "java/lang/IllegalStateException", Cond.fieldLink RX4 37 "PegBox" "day" "I"]
def wsL_setYear : List Cond := .codeWith yL_setYear cL_setYear 5 (some .int) [(0, 7, 10, 20), (0, 7, 14, 13), (0, 7, 18, 15)] :: ((wsL_setYear_r1 ++ wsL_setYear_r2) ++ wsX40 ++ wsX10 ++ (vx_atS RX4 203 "java/lang/IndexOutOfBoundsException" ["java/lang/RuntimeException", "java/lang/Exception"]).filter goodWord ++ (vx_atS RX4 208 "java/lang/IllegalArgumentException" ["java/lang/RuntimeException", "java/lang/Exception"]).filter goodWord ++ (vx_atS RX4 128 "java/lang/IllegalStateException" ["java/lang/RuntimeException", "java/lang/Exception"]).filter goodWord)
def wsL_setCarry : List Cond := .codeWith yL_setCarry cL_setCarry 3 (some .int) [(0, 5, 8, 15)] :: ([.classLink RL 15 "java/lang/IllegalStateException", .methodLink RL 29 yX4_setCarry, .instanceMethod yX4_setCarry, .selects RX4 yX4_setCarry yX4_setCarry, .initialized RX4, .code yX4_setCarry cX4_setCarry 2 none, .fieldLink RX4 33 "PegBox" "earnOut" "LPegBox$EarnOut;", .fieldLink RX4 94 "PegBox$EarnOut" "isCarried" "Z", .methodLink RX4 50 yX4_checkNotClosed, .instanceMethod yX4_checkNotClosed, .selects RX4 yX4_checkNotClosed yX4_checkNotClosed, .code yX4_checkNotClosed cX4_checkNotClosed 1 none, .classLink RX4 124 "java/lang/IllegalStateException", .initialized "java/lang/IllegalStateException", .fieldLink RX4 37 "PegBox" "day" "I"] ++ wsX40 ++ wsX10 ++ (vx_atS RX4 128 "java/lang/IllegalStateException" ["java/lang/RuntimeException", "java/lang/Exception"]).filter goodWord)
def wsL_close_r1 : List Cond := [Cond.classLink RL 13 "java/lang/IllegalArgumentException", Cond.classLink RL 15 "java/lang/IllegalStateException", Cond.methodLink RL 33 yX4_close, Cond.instanceMethod yX4_close, Cond.selects RX4 yX4_close yX4_close, Cond.initialized RX4, Cond.code yX4_close cX4_close 4 (some .int), Cond.constant RX4 44 (10000000), Cond.constant RX4 49 (-10000000), Cond.fieldLink RX4 37 "PegBox" "day" "I", Cond.fieldLink RX4 53 "PegBox" "price" "I", Cond.fieldLink RX4 56 "PegBox" "peg" "I", Cond.methodLink RX4 102 Lib.Math.max.name, Cond.static Lib.Math.max.name, Cond.initialized "java/lang/Math", Cond.code Lib.Math.max.name Lib.Math.max.code 2 (some .int), Cond.fieldLink RX4 41 "PegBox" "finalPrice" "I", Cond.fieldLink RX4 10 "PegBox" "escrow" "LPegBox$Escrow;", Cond.methodLink RX4 112 Lib.Math.min.name, Cond.static Lib.Math.min.name, Cond.code Lib.Math.min.name Lib.Math.min.code 2 (some .int), Cond.fieldLink RX4 115 "PegBox" "held" "I", Cond.fieldLink RX4 118 "PegBox" "paid" "I", Cond.methodLink RX4 45 yX4_checkRange]
def wsL_close_r2 : List Cond := [Cond.static yX4_checkRange, Cond.code yX4_checkRange cX4_checkRange 3 none, Cond.classLink RX4 204 "java/lang/IllegalArgumentException", Cond.initialized "java/lang/IllegalArgumentException", Cond.methodLink RX4 50 yX4_checkNotClosed, Cond.instanceMethod yX4_checkNotClosed, Cond.selects RX4 yX4_checkNotClosed yX4_checkNotClosed, Cond.code yX4_checkNotClosed cX4_checkNotClosed 1 none, Cond.classLink RX4 124 "java/lang/IllegalStateException", Cond.initialized "java/lang/IllegalStateException", Cond.methodLink RX4 98 yX4_beyondCollar, Cond.instanceMethod yX4_beyondCollar, Cond.selects RX4 yX4_beyondCollar yX4_beyondCollar, Cond.code yX4_beyondCollar cX4_beyondCollar 2 (some .int), Cond.fieldLink RX4 59 "PegBox" "collar" "I", Cond.methodLink RX4 108 yX2_total, Cond.instanceMethod yX2_total, Cond.selects RX2 yX2_total yX2_total, Cond.initialized RX2, Cond.code yX2_total cX2_total 3 (some .int), Cond.fieldLink RX2 9 "PegBox$Escrow" "amounts" "[I"]
def wsL_close : List Cond := .codeWith yL_close cL_close 6 (some .int) [(0, 12, 15, 13), (0, 12, 19, 15)] :: ((wsL_close_r1 ++ wsL_close_r2) ++ wsX40 ++ wsX20 ++ (vx_atS RX4 208 "java/lang/IllegalArgumentException" ["java/lang/RuntimeException", "java/lang/Exception"]).filter goodWord ++ (vx_atS RX4 128 "java/lang/IllegalStateException" ["java/lang/RuntimeException", "java/lang/Exception"]).filter goodWord)
def wsL_advance_r1 : List Cond := [Cond.classLink RL 13 "java/lang/IllegalArgumentException", Cond.classLink RL 15 "java/lang/IllegalStateException", Cond.methodLink RL 37 yX4_advance, Cond.instanceMethod yX4_advance, Cond.selects RX4 yX4_advance yX4_advance, Cond.initialized RX4, Cond.code yX4_advance cX4_advance 2 (some .int), Cond.classLink RX4 124 "java/lang/IllegalStateException", Cond.initialized "java/lang/IllegalStateException", Cond.fieldLink RX4 37 "PegBox" "day" "I", Cond.methodLink RX4 45 yX4_checkRange, Cond.static yX4_checkRange, Cond.code yX4_checkRange cX4_checkRange 3 none, Cond.classLink RX4 204 "java/lang/IllegalArgumentException", Cond.initialized "java/lang/IllegalArgumentException", Cond.methodLink RX4 121 yX4_checkClosed, Cond.instanceMethod yX4_checkClosed, Cond.selects RX4 yX4_checkClosed yX4_checkClosed, Cond.code yX4_checkClosed cX4_checkClosed 1 none, Cond.methodLink RX4 131 yX4_free, Cond.instanceMethod yX4_free, Cond.selects RX4 yX4_free yX4_free, Cond.code yX4_free cX4_free 2 none, Cond.fieldLink RX4 10 "PegBox" "escrow" "LPegBox$Escrow;"]
def wsL_advance_r2 : List Cond := [Cond.fieldLink RX4 26 "PegBox" "book" "LPegBox$ClaimBook;", Cond.fieldLink RX4 115 "PegBox" "held" "I", Cond.fieldLink RX4 118 "PegBox" "paid" "I", Cond.methodLink RX4 221 yX2_totalAfter, Cond.instanceMethod yX2_totalAfter, Cond.selects RX2 yX2_totalAfter yX2_totalAfter, Cond.initialized RX2, Cond.code yX2_totalAfter cX2_totalAfter 4 (some .int), Cond.fieldLink RX2 15 "PegBox$Escrow" "days" "[I", Cond.fieldLink RX2 9 "PegBox$Escrow" "amounts" "[I", Cond.methodLink RX4 224 yX0_openSum, Cond.instanceMethod yX0_openSum, Cond.selects RX0 yX0_openSum yX0_openSum, Cond.initialized RX0, Cond.code yX0_openSum cX0_openSum 3 (some .int), Cond.fieldLink RX0 24 "PegBox$ClaimBook" "count" "I", Cond.fieldLink RX0 21 "PegBox$ClaimBook" "settled" "[I", Cond.fieldLink RX0 15 "PegBox$ClaimBook" "amounts" "[I"]
def wsL_advance : List Cond := .codeWith yL_advance cL_advance 4 (some .int) [(0, 9, 12, 13), (0, 9, 15, 15)] :: ((wsL_advance_r1 ++ wsL_advance_r2) ++ wsX40 ++ wsX20 ++ wsX00 ++ (vx_atS RX4 128 "java/lang/IllegalStateException" ["java/lang/RuntimeException", "java/lang/Exception"]).filter goodWord ++ (vx_atS RX4 208 "java/lang/IllegalArgumentException" ["java/lang/RuntimeException", "java/lang/Exception"]).filter goodWord)
def wsL_claim_r1 : List Cond := [Cond.classLink RL 20 "java/lang/IndexOutOfBoundsException", Cond.classLink RL 13 "java/lang/IllegalArgumentException", Cond.classLink RL 15 "java/lang/IllegalStateException", Cond.methodLink RL 41 yX4_claim, Cond.instanceMethod yX4_claim, Cond.selects RX4 yX4_claim yX4_claim, Cond.initialized RX4, Cond.code yX4_claim cX4_claim 4 (some .int), Cond.classLink RX4 124 "java/lang/IllegalStateException", Cond.initialized "java/lang/IllegalStateException", Cond.constant RX4 44 (10000000), Cond.fieldLink RX4 37 "PegBox" "day" "I", Cond.fieldLink RX4 19 "PegBox" "kinds" "LPegBox$Kinds;", Cond.fieldLink RX4 87 "PegBox$Kinds" "lastDays" "[I", Cond.fieldLink RX4 26 "PegBox" "book" "LPegBox$ClaimBook;", Cond.fieldLink RX4 136 "PegBox$ClaimBook" "count" "I", Cond.fieldLink RX4 141 "PegBox$ClaimBook" "kinds" "[I", Cond.fieldLink RX4 143 "PegBox$ClaimBook" "amounts" "[I", Cond.fieldLink RX4 144 "PegBox$ClaimBook" "offers" "[I", Cond.fieldLink RX4 147 "PegBox$ClaimBook" "settled" "[I", Cond.methodLink RX4 62 yX4_checkNumber, Cond.static yX4_checkNumber, Cond.code yX4_checkNumber cX4_checkNumber 2 none, Cond.classLink RX4 199 "java/lang/IndexOutOfBoundsException"]
def wsL_claim_r2 : List Cond := [Cond.initialized "java/lang/IndexOutOfBoundsException", Cond.methodLink RX4 45 yX4_checkRange, Cond.static yX4_checkRange, Cond.code yX4_checkRange cX4_checkRange 3 none, Cond.classLink RX4 204 "java/lang/IllegalArgumentException", Cond.initialized "java/lang/IllegalArgumentException", Cond.methodLink RX4 121 yX4_checkClosed, Cond.instanceMethod yX4_checkClosed, Cond.selects RX4 yX4_checkClosed yX4_checkClosed, Cond.code yX4_checkClosed cX4_checkClosed 1 none]
def wsL_claim : List Cond := .codeWith yL_claim cL_claim 5 (some .int) [(0, 10, 13, 20), (0, 10, 17, 13), (0, 10, 21, 15)] :: ((wsL_claim_r1 ++ wsL_claim_r2) ++ wsX40 ++ wsX30 ++ wsX00 ++ (vx_atS RX4 128 "java/lang/IllegalStateException" ["java/lang/RuntimeException", "java/lang/Exception"]).filter goodWord ++ (vx_atS RX4 203 "java/lang/IndexOutOfBoundsException" ["java/lang/RuntimeException", "java/lang/Exception"]).filter goodWord ++ (vx_atS RX4 208 "java/lang/IllegalArgumentException" ["java/lang/RuntimeException", "java/lang/Exception"]).filter goodWord)
def wsL_offer_r1 : List Cond := [Cond.classLink RL 20 "java/lang/IndexOutOfBoundsException", Cond.classLink RL 15 "java/lang/IllegalStateException", Cond.classLink RL 13 "java/lang/IllegalArgumentException", Cond.methodLink RL 45 yX4_offer, Cond.instanceMethod yX4_offer, Cond.selects RX4 yX4_offer yX4_offer, Cond.initialized RX4, Cond.code yX4_offer cX4_offer 4 (some .int), Cond.fieldLink RX4 26 "PegBox" "book" "LPegBox$ClaimBook;", Cond.fieldLink RX4 136 "PegBox$ClaimBook" "count" "I", Cond.fieldLink RX4 147 "PegBox$ClaimBook" "settled" "[I", Cond.fieldLink RX4 143 "PegBox$ClaimBook" "amounts" "[I", Cond.fieldLink RX4 144 "PegBox$ClaimBook" "offers" "[I", Cond.methodLink RX4 62 yX4_checkNumber, Cond.static yX4_checkNumber, Cond.code yX4_checkNumber cX4_checkNumber 2 none, Cond.classLink RX4 199 "java/lang/IndexOutOfBoundsException", Cond.initialized "java/lang/IndexOutOfBoundsException", Cond.methodLink RX4 150 yX4_checkOpen, Cond.static yX4_checkOpen, Cond.code yX4_checkOpen cX4_checkOpen 1 none, Cond.classLink RX4 124 "java/lang/IllegalStateException", Cond.initialized "java/lang/IllegalStateException", Cond.methodLink RX4 45 yX4_checkRange]
def wsL_offer_r2 : List Cond := [Cond.static yX4_checkRange, Cond.code yX4_checkRange cX4_checkRange 3 none, Cond.classLink RX4 204 "java/lang/IllegalArgumentException", Cond.initialized "java/lang/IllegalArgumentException"]
def wsL_offer : List Cond := .codeWith yL_offer cL_offer 5 (some .int) [(0, 10, 13, 20), (0, 10, 17, 15), (0, 10, 21, 13)] :: ((wsL_offer_r1 ++ wsL_offer_r2) ++ wsX40 ++ wsX00 ++ (vx_atS RX4 203 "java/lang/IndexOutOfBoundsException" ["java/lang/RuntimeException", "java/lang/Exception"]).filter goodWord ++ (vx_atS RX4 128 "java/lang/IllegalStateException" ["java/lang/RuntimeException", "java/lang/Exception"]).filter goodWord ++ (vx_atS RX4 208 "java/lang/IllegalArgumentException" ["java/lang/RuntimeException", "java/lang/Exception"]).filter goodWord)
def wsL_agree_r1 : List Cond := [Cond.classLink RL 20 "java/lang/IndexOutOfBoundsException", Cond.classLink RL 15 "java/lang/IllegalStateException", Cond.methodLink RL 48 yX4_agree, Cond.instanceMethod yX4_agree, Cond.selects RX4 yX4_agree yX4_agree, Cond.initialized RX4, Cond.code yX4_agree cX4_agree 3 (some .int), Cond.classLink RX4 124 "java/lang/IllegalStateException", Cond.initialized "java/lang/IllegalStateException", Cond.fieldLink RX4 26 "PegBox" "book" "LPegBox$ClaimBook;", Cond.fieldLink RX4 136 "PegBox$ClaimBook" "count" "I", Cond.fieldLink RX4 147 "PegBox$ClaimBook" "settled" "[I", Cond.fieldLink RX4 144 "PegBox$ClaimBook" "offers" "[I", Cond.methodLink RX4 62 yX4_checkNumber, Cond.static yX4_checkNumber, Cond.code yX4_checkNumber cX4_checkNumber 2 none, Cond.classLink RX4 199 "java/lang/IndexOutOfBoundsException", Cond.initialized "java/lang/IndexOutOfBoundsException", Cond.methodLink RX4 150 yX4_checkOpen, Cond.static yX4_checkOpen, Cond.code yX4_checkOpen cX4_checkOpen 1 none, Cond.methodLink RX4 156 yX4_payOut, Cond.instanceMethod yX4_payOut, Cond.selects RX4 yX4_payOut yX4_payOut]
def wsL_agree_r2 : List Cond := [Cond.code yX4_payOut cX4_payOut 2 (some .int), Cond.fieldLink RX4 115 "PegBox" "held" "I", Cond.methodLink RX4 112 Lib.Math.min.name, Cond.static Lib.Math.min.name, Cond.initialized "java/lang/Math", Cond.code Lib.Math.min.name Lib.Math.min.code 2 (some .int), Cond.fieldLink RX4 178 "PegBox" "returned" "I", Cond.methodLink RX4 190 yX4_leftOutstanding, Cond.instanceMethod yX4_leftOutstanding, Cond.selects RX4 yX4_leftOutstanding yX4_leftOutstanding, Cond.code yX4_leftOutstanding cX4_leftOutstanding 1 (some .int), Cond.fieldLink RX4 181 "PegBox" "setOff" "I", Cond.methodLink RX4 187 yX4_dueInAll, Cond.instanceMethod yX4_dueInAll, Cond.selects RX4 yX4_dueInAll yX4_dueInAll, Cond.code yX4_dueInAll cX4_dueInAll 3 (some .int), Cond.methodLink RX4 193 yX4_dueOfKind, Cond.instanceMethod yX4_dueOfKind, Cond.selects RX4 yX4_dueOfKind yX4_dueOfKind, Cond.code yX4_dueOfKind cX4_dueOfKind 2 (some .int), Cond.fieldLink RX4 19 "PegBox" "kinds" "LPegBox$Kinds;", Cond.fieldLink RX4 74 "PegBox$Kinds" "leasts" "[I", Cond.methodLink RX4 215 yX0_settledSum, Cond.instanceMethod yX0_settledSum]
def wsL_agree_r3 : List Cond := [Cond.selects RX0 yX0_settledSum yX0_settledSum, Cond.initialized RX0, Cond.code yX0_settledSum cX0_settledSum 5 (some .int), Cond.fieldLink RX0 24 "PegBox$ClaimBook" "count" "I", Cond.fieldLink RX0 9 "PegBox$ClaimBook" "kinds" "[I", Cond.fieldLink RX0 21 "PegBox$ClaimBook" "settled" "[I", Cond.methodLink RX4 218 yX3_limit, Cond.instanceMethod yX3_limit, Cond.selects RX3 yX3_limit yX3_limit, Cond.initialized RX3, Cond.code yX3_limit cX3_limit 3 (some .int), Cond.fieldLink RX3 22 "PegBox$Kinds" "caps" "[I", Cond.methodLink RX3 32 Lib.Math.min.name, Cond.methodLink RX3 28 yX3_pastBasket, Cond.instanceMethod yX3_pastBasket, Cond.selects RX3 yX3_pastBasket yX3_pastBasket, Cond.code yX3_pastBasket cX3_pastBasket 4 (some .int), Cond.fieldLink RX3 15 "PegBox$Kinds" "baskets" "[I", Cond.fieldLink RX3 18 "PegBox$Kinds" "wholes" "[Z", Cond.methodLink RX4 131 yX4_free, Cond.instanceMethod yX4_free, Cond.selects RX4 yX4_free yX4_free, Cond.code yX4_free cX4_free 2 none, Cond.fieldLink RX4 10 "PegBox" "escrow" "LPegBox$Escrow;"]
def wsL_agree_r4 : List Cond := [Cond.fieldLink RX4 37 "PegBox" "day" "I", Cond.fieldLink RX4 118 "PegBox" "paid" "I", Cond.methodLink RX4 221 yX2_totalAfter, Cond.instanceMethod yX2_totalAfter, Cond.selects RX2 yX2_totalAfter yX2_totalAfter, Cond.initialized RX2, Cond.code yX2_totalAfter cX2_totalAfter 4 (some .int), Cond.fieldLink RX2 15 "PegBox$Escrow" "days" "[I", Cond.fieldLink RX2 9 "PegBox$Escrow" "amounts" "[I", Cond.methodLink RX4 224 yX0_openSum, Cond.instanceMethod yX0_openSum, Cond.selects RX0 yX0_openSum yX0_openSum, Cond.code yX0_openSum cX0_openSum 3 (some .int), Cond.fieldLink RX0 15 "PegBox$ClaimBook" "amounts" "[I"]
def wsL_agree : List Cond := .codeWith yL_agree cL_agree 4 (some .int) [(0, 9, 12, 20), (0, 9, 15, 15)] :: ((wsL_agree_r1 ++ (wsL_agree_r2 ++ (wsL_agree_r3 ++ wsL_agree_r4))) ++ wsX40 ++ wsX00 ++ wsX30 ++ wsX20 ++ (vx_atS RX4 128 "java/lang/IllegalStateException" ["java/lang/RuntimeException", "java/lang/Exception"]).filter goodWord ++ (vx_atS RX4 203 "java/lang/IndexOutOfBoundsException" ["java/lang/RuntimeException", "java/lang/Exception"]).filter goodWord)
def wsL_decide_r1 : List Cond := [Cond.classLink RL 20 "java/lang/IndexOutOfBoundsException", Cond.classLink RL 15 "java/lang/IllegalStateException", Cond.classLink RL 13 "java/lang/IllegalArgumentException", Cond.methodLink RL 51 yX4_decide, Cond.instanceMethod yX4_decide, Cond.selects RX4 yX4_decide yX4_decide, Cond.initialized RX4, Cond.code yX4_decide cX4_decide 4 (some .int), Cond.fieldLink RX4 26 "PegBox" "book" "LPegBox$ClaimBook;", Cond.fieldLink RX4 136 "PegBox$ClaimBook" "count" "I", Cond.fieldLink RX4 147 "PegBox$ClaimBook" "settled" "[I", Cond.fieldLink RX4 144 "PegBox$ClaimBook" "offers" "[I", Cond.fieldLink RX4 143 "PegBox$ClaimBook" "amounts" "[I", Cond.methodLink RX4 62 yX4_checkNumber, Cond.static yX4_checkNumber, Cond.code yX4_checkNumber cX4_checkNumber 2 none, Cond.classLink RX4 199 "java/lang/IndexOutOfBoundsException", Cond.initialized "java/lang/IndexOutOfBoundsException", Cond.methodLink RX4 150 yX4_checkOpen, Cond.static yX4_checkOpen, Cond.code yX4_checkOpen cX4_checkOpen 1 none, Cond.classLink RX4 124 "java/lang/IllegalStateException", Cond.initialized "java/lang/IllegalStateException", Cond.methodLink RX4 45 yX4_checkRange]
def wsL_decide_r2 : List Cond := [Cond.static yX4_checkRange, Cond.code yX4_checkRange cX4_checkRange 3 none, Cond.classLink RX4 204 "java/lang/IllegalArgumentException", Cond.initialized "java/lang/IllegalArgumentException", Cond.methodLink RX4 156 yX4_payOut, Cond.instanceMethod yX4_payOut, Cond.selects RX4 yX4_payOut yX4_payOut, Cond.code yX4_payOut cX4_payOut 2 (some .int), Cond.fieldLink RX4 115 "PegBox" "held" "I", Cond.methodLink RX4 112 Lib.Math.min.name, Cond.static Lib.Math.min.name, Cond.initialized "java/lang/Math", Cond.code Lib.Math.min.name Lib.Math.min.code 2 (some .int), Cond.fieldLink RX4 178 "PegBox" "returned" "I", Cond.methodLink RX4 190 yX4_leftOutstanding, Cond.instanceMethod yX4_leftOutstanding, Cond.selects RX4 yX4_leftOutstanding yX4_leftOutstanding, Cond.code yX4_leftOutstanding cX4_leftOutstanding 1 (some .int), Cond.fieldLink RX4 181 "PegBox" "setOff" "I", Cond.methodLink RX4 187 yX4_dueInAll, Cond.instanceMethod yX4_dueInAll, Cond.selects RX4 yX4_dueInAll yX4_dueInAll, Cond.code yX4_dueInAll cX4_dueInAll 3 (some .int), Cond.methodLink RX4 193 yX4_dueOfKind]
def wsL_decide_r3 : List Cond := [Cond.instanceMethod yX4_dueOfKind, Cond.selects RX4 yX4_dueOfKind yX4_dueOfKind, Cond.code yX4_dueOfKind cX4_dueOfKind 2 (some .int), Cond.fieldLink RX4 19 "PegBox" "kinds" "LPegBox$Kinds;", Cond.fieldLink RX4 74 "PegBox$Kinds" "leasts" "[I", Cond.methodLink RX4 215 yX0_settledSum, Cond.instanceMethod yX0_settledSum, Cond.selects RX0 yX0_settledSum yX0_settledSum, Cond.initialized RX0, Cond.code yX0_settledSum cX0_settledSum 5 (some .int), Cond.fieldLink RX0 24 "PegBox$ClaimBook" "count" "I", Cond.fieldLink RX0 9 "PegBox$ClaimBook" "kinds" "[I", Cond.fieldLink RX0 21 "PegBox$ClaimBook" "settled" "[I", Cond.methodLink RX4 218 yX3_limit, Cond.instanceMethod yX3_limit, Cond.selects RX3 yX3_limit yX3_limit, Cond.initialized RX3, Cond.code yX3_limit cX3_limit 3 (some .int), Cond.fieldLink RX3 22 "PegBox$Kinds" "caps" "[I", Cond.methodLink RX3 32 Lib.Math.min.name, Cond.methodLink RX3 28 yX3_pastBasket, Cond.instanceMethod yX3_pastBasket, Cond.selects RX3 yX3_pastBasket yX3_pastBasket, Cond.code yX3_pastBasket cX3_pastBasket 4 (some .int)]
def wsL_decide_r4 : List Cond := [Cond.fieldLink RX3 15 "PegBox$Kinds" "baskets" "[I", Cond.fieldLink RX3 18 "PegBox$Kinds" "wholes" "[Z", Cond.methodLink RX4 131 yX4_free, Cond.instanceMethod yX4_free, Cond.selects RX4 yX4_free yX4_free, Cond.code yX4_free cX4_free 2 none, Cond.fieldLink RX4 10 "PegBox" "escrow" "LPegBox$Escrow;", Cond.fieldLink RX4 37 "PegBox" "day" "I", Cond.fieldLink RX4 118 "PegBox" "paid" "I", Cond.methodLink RX4 221 yX2_totalAfter, Cond.instanceMethod yX2_totalAfter, Cond.selects RX2 yX2_totalAfter yX2_totalAfter, Cond.initialized RX2, Cond.code yX2_totalAfter cX2_totalAfter 4 (some .int), Cond.fieldLink RX2 15 "PegBox$Escrow" "days" "[I", Cond.fieldLink RX2 9 "PegBox$Escrow" "amounts" "[I", Cond.methodLink RX4 224 yX0_openSum, Cond.instanceMethod yX0_openSum, Cond.selects RX0 yX0_openSum yX0_openSum, Cond.code yX0_openSum cX0_openSum 3 (some .int), Cond.fieldLink RX0 15 "PegBox$ClaimBook" "amounts" "[I"]
def wsL_decide : List Cond := .codeWith yL_decide cL_decide 5 (some .int) [(0, 10, 13, 20), (0, 10, 17, 15), (0, 10, 21, 13)] :: ((wsL_decide_r1 ++ (wsL_decide_r2 ++ (wsL_decide_r3 ++ wsL_decide_r4))) ++ wsX40 ++ wsX00 ++ wsX30 ++ wsX20 ++ (vx_atS RX4 203 "java/lang/IndexOutOfBoundsException" ["java/lang/RuntimeException", "java/lang/Exception"]).filter goodWord ++ (vx_atS RX4 128 "java/lang/IllegalStateException" ["java/lang/RuntimeException", "java/lang/Exception"]).filter goodWord ++ (vx_atS RX4 208 "java/lang/IllegalArgumentException" ["java/lang/RuntimeException", "java/lang/Exception"]).filter goodWord)
def wsL_report_r1 : List Cond := [Cond.classLink RL 13 "java/lang/IllegalArgumentException", Cond.classLink RL 15 "java/lang/IllegalStateException", Cond.methodLink RL 54 yX4_report, Cond.instanceMethod yX4_report, Cond.selects RX4 yX4_report yX4_report, Cond.initialized RX4, Cond.code yX4_report cX4_report 2 (some .int), Cond.classLink RX4 124 "java/lang/IllegalStateException", Cond.initialized "java/lang/IllegalStateException", Cond.constant RX4 49 (-10000000), Cond.constant RX4 44 (10000000), Cond.fieldLink RX4 33 "PegBox" "earnOut" "LPegBox$EarnOut;", Cond.fieldLink RX4 159 "PegBox$EarnOut" "isSpedUp" "Z", Cond.fieldLink RX4 164 "PegBox$EarnOut" "told" "I", Cond.methodLink RX4 45 yX4_checkRange, Cond.static yX4_checkRange, Cond.code yX4_checkRange cX4_checkRange 3 none, Cond.classLink RX4 204 "java/lang/IllegalArgumentException", Cond.initialized "java/lang/IllegalArgumentException", Cond.methodLink RX4 121 yX4_checkClosed, Cond.instanceMethod yX4_checkClosed, Cond.selects RX4 yX4_checkClosed yX4_checkClosed, Cond.code yX4_checkClosed cX4_checkClosed 1 none, Cond.fieldLink RX4 37 "PegBox" "day" "I"]
def wsL_report_r2 : List Cond := [Cond.methodLink RX4 169 yX1_tell, Cond.instanceMethod yX1_tell, Cond.selects RX1 yX1_tell yX1_tell, Cond.initialized RX1, Cond.code yX1_tell cX1_tell 3 (some .int), Cond.fieldLink RX1 22 "PegBox$EarnOut" "told" "I", Cond.fieldLink RX1 26 "PegBox$EarnOut" "resultSum" "I", Cond.fieldLink RX1 29 "PegBox$EarnOut" "targetSum" "I", Cond.fieldLink RX1 9 "PegBox$EarnOut" "targets" "[I", Cond.fieldLink RX1 32 "PegBox$EarnOut" "isCarried" "Z", Cond.methodLink RX1 36 yX1_meet, Cond.instanceMethod yX1_meet, Cond.selects RX1 yX1_meet yX1_meet, Cond.code yX1_meet cX1_meet 5 (some .int), Cond.fieldLink RX1 18 "PegBox$EarnOut" "met" "[Z", Cond.fieldLink RX1 15 "PegBox$EarnOut" "amounts" "[I", Cond.methodLink RX4 172 yX4_owe, Cond.instanceMethod yX4_owe, Cond.selects RX4 yX4_owe yX4_owe, Cond.code yX4_owe cX4_owe 3 (some .int), Cond.methodLink RX4 112 Lib.Math.min.name, Cond.static Lib.Math.min.name, Cond.initialized "java/lang/Math", Cond.code Lib.Math.min.name Lib.Math.min.code 2 (some .int)]
def wsL_report_r3 : List Cond := [Cond.fieldLink RX4 184 "PegBox" "owed" "I", Cond.fieldLink RX4 181 "PegBox" "setOff" "I", Cond.fieldLink RX4 118 "PegBox" "paid" "I", Cond.methodLink RX4 190 yX4_leftOutstanding, Cond.instanceMethod yX4_leftOutstanding, Cond.selects RX4 yX4_leftOutstanding yX4_leftOutstanding, Cond.code yX4_leftOutstanding cX4_leftOutstanding 1 (some .int), Cond.fieldLink RX4 178 "PegBox" "returned" "I", Cond.methodLink RX4 187 yX4_dueInAll, Cond.instanceMethod yX4_dueInAll, Cond.selects RX4 yX4_dueInAll yX4_dueInAll, Cond.code yX4_dueInAll cX4_dueInAll 3 (some .int), Cond.methodLink RX4 193 yX4_dueOfKind, Cond.instanceMethod yX4_dueOfKind, Cond.selects RX4 yX4_dueOfKind yX4_dueOfKind, Cond.code yX4_dueOfKind cX4_dueOfKind 2 (some .int), Cond.fieldLink RX4 19 "PegBox" "kinds" "LPegBox$Kinds;", Cond.fieldLink RX4 26 "PegBox" "book" "LPegBox$ClaimBook;", Cond.fieldLink RX4 74 "PegBox$Kinds" "leasts" "[I", Cond.methodLink RX4 215 yX0_settledSum, Cond.instanceMethod yX0_settledSum, Cond.selects RX0 yX0_settledSum yX0_settledSum, Cond.initialized RX0, Cond.code yX0_settledSum cX0_settledSum 5 (some .int)]
def wsL_report_r4 : List Cond := [Cond.fieldLink RX0 24 "PegBox$ClaimBook" "count" "I", Cond.fieldLink RX0 9 "PegBox$ClaimBook" "kinds" "[I", Cond.fieldLink RX0 21 "PegBox$ClaimBook" "settled" "[I", Cond.methodLink RX4 218 yX3_limit, Cond.instanceMethod yX3_limit, Cond.selects RX3 yX3_limit yX3_limit, Cond.initialized RX3, Cond.code yX3_limit cX3_limit 3 (some .int), Cond.fieldLink RX3 22 "PegBox$Kinds" "caps" "[I", Cond.methodLink RX3 32 Lib.Math.min.name, Cond.methodLink RX3 28 yX3_pastBasket, Cond.instanceMethod yX3_pastBasket, Cond.selects RX3 yX3_pastBasket yX3_pastBasket, Cond.code yX3_pastBasket cX3_pastBasket 4 (some .int), Cond.fieldLink RX3 15 "PegBox$Kinds" "baskets" "[I", Cond.fieldLink RX3 18 "PegBox$Kinds" "wholes" "[Z"]
def wsL_report : List Cond := .codeWith yL_report cL_report 4 (some .int) [(0, 9, 12, 13), (0, 9, 15, 15)] :: ((wsL_report_r1 ++ (wsL_report_r2 ++ (wsL_report_r3 ++ wsL_report_r4))) ++ wsX40 ++ wsX10 ++ wsX30 ++ wsX00 ++ (vx_atS RX4 128 "java/lang/IllegalStateException" ["java/lang/RuntimeException", "java/lang/Exception"]).filter goodWord ++ (vx_atS RX4 208 "java/lang/IllegalArgumentException" ["java/lang/RuntimeException", "java/lang/Exception"]).filter goodWord)
def wsL_speedUp_r1 : List Cond := [Cond.classLink RL 15 "java/lang/IllegalStateException", Cond.methodLink RL 57 yX4_speedUp, Cond.instanceMethod yX4_speedUp, Cond.selects RX4 yX4_speedUp yX4_speedUp, Cond.initialized RX4, Cond.code yX4_speedUp cX4_speedUp 1 (some .int), Cond.classLink RX4 124 "java/lang/IllegalStateException", Cond.initialized "java/lang/IllegalStateException", Cond.fieldLink RX4 33 "PegBox" "earnOut" "LPegBox$EarnOut;", Cond.fieldLink RX4 159 "PegBox$EarnOut" "isSpedUp" "Z", Cond.methodLink RX4 121 yX4_checkClosed, Cond.instanceMethod yX4_checkClosed, Cond.selects RX4 yX4_checkClosed yX4_checkClosed, Cond.code yX4_checkClosed cX4_checkClosed 1 none, Cond.fieldLink RX4 37 "PegBox" "day" "I", Cond.methodLink RX4 175 yX1_hasten, Cond.instanceMethod yX1_hasten, Cond.selects RX1 yX1_hasten yX1_hasten, Cond.initialized RX1, Cond.code yX1_hasten cX1_hasten 1 (some .int), Cond.fieldLink RX1 40 "PegBox$EarnOut" "isSpedUp" "Z", Cond.fieldLink RX1 22 "PegBox$EarnOut" "told" "I", Cond.methodLink RX1 36 yX1_meet, Cond.instanceMethod yX1_meet]
def wsL_speedUp_r2 : List Cond := [Cond.selects RX1 yX1_meet yX1_meet, Cond.code yX1_meet cX1_meet 5 (some .int), Cond.fieldLink RX1 18 "PegBox$EarnOut" "met" "[Z", Cond.fieldLink RX1 15 "PegBox$EarnOut" "amounts" "[I", Cond.methodLink RX4 172 yX4_owe, Cond.instanceMethod yX4_owe, Cond.selects RX4 yX4_owe yX4_owe, Cond.code yX4_owe cX4_owe 3 (some .int), Cond.methodLink RX4 112 Lib.Math.min.name, Cond.static Lib.Math.min.name, Cond.initialized "java/lang/Math", Cond.code Lib.Math.min.name Lib.Math.min.code 2 (some .int), Cond.fieldLink RX4 184 "PegBox" "owed" "I", Cond.fieldLink RX4 181 "PegBox" "setOff" "I", Cond.fieldLink RX4 118 "PegBox" "paid" "I", Cond.methodLink RX4 190 yX4_leftOutstanding, Cond.instanceMethod yX4_leftOutstanding, Cond.selects RX4 yX4_leftOutstanding yX4_leftOutstanding, Cond.code yX4_leftOutstanding cX4_leftOutstanding 1 (some .int), Cond.fieldLink RX4 178 "PegBox" "returned" "I", Cond.methodLink RX4 187 yX4_dueInAll, Cond.instanceMethod yX4_dueInAll, Cond.selects RX4 yX4_dueInAll yX4_dueInAll, Cond.code yX4_dueInAll cX4_dueInAll 3 (some .int)]
def wsL_speedUp_r3 : List Cond := [Cond.methodLink RX4 193 yX4_dueOfKind, Cond.instanceMethod yX4_dueOfKind, Cond.selects RX4 yX4_dueOfKind yX4_dueOfKind, Cond.code yX4_dueOfKind cX4_dueOfKind 2 (some .int), Cond.fieldLink RX4 19 "PegBox" "kinds" "LPegBox$Kinds;", Cond.fieldLink RX4 26 "PegBox" "book" "LPegBox$ClaimBook;", Cond.fieldLink RX4 74 "PegBox$Kinds" "leasts" "[I", Cond.methodLink RX4 215 yX0_settledSum, Cond.instanceMethod yX0_settledSum, Cond.selects RX0 yX0_settledSum yX0_settledSum, Cond.initialized RX0, Cond.code yX0_settledSum cX0_settledSum 5 (some .int), Cond.fieldLink RX0 24 "PegBox$ClaimBook" "count" "I", Cond.fieldLink RX0 9 "PegBox$ClaimBook" "kinds" "[I", Cond.fieldLink RX0 21 "PegBox$ClaimBook" "settled" "[I", Cond.methodLink RX4 218 yX3_limit, Cond.instanceMethod yX3_limit, Cond.selects RX3 yX3_limit yX3_limit, Cond.initialized RX3, Cond.code yX3_limit cX3_limit 3 (some .int), Cond.fieldLink RX3 22 "PegBox$Kinds" "caps" "[I", Cond.methodLink RX3 32 Lib.Math.min.name, Cond.methodLink RX3 28 yX3_pastBasket, Cond.instanceMethod yX3_pastBasket]
def wsL_speedUp_r4 : List Cond := [Cond.selects RX3 yX3_pastBasket yX3_pastBasket, Cond.code yX3_pastBasket cX3_pastBasket 4 (some .int), Cond.fieldLink RX3 15 "PegBox$Kinds" "baskets" "[I", Cond.fieldLink RX3 18 "PegBox$Kinds" "wholes" "[Z"]
def wsL_speedUp : List Cond := .codeWith yL_speedUp cL_speedUp 3 (some .int) [(0, 8, 11, 15)] :: ((wsL_speedUp_r1 ++ (wsL_speedUp_r2 ++ (wsL_speedUp_r3 ++ wsL_speedUp_r4))) ++ wsX40 ++ wsX10 ++ wsX30 ++ wsX00 ++ (vx_atS RX4 128 "java/lang/IllegalStateException" ["java/lang/RuntimeException", "java/lang/Exception"]).filter goodWord)
def wsL_dueOf_r1 : List Cond := [Cond.classLink RL 20 "java/lang/IndexOutOfBoundsException", Cond.methodLink RL 61 yX4_dueOf, Cond.instanceMethod yX4_dueOf, Cond.selects RX4 yX4_dueOf yX4_dueOf, Cond.initialized RX4, Cond.code yX4_dueOf cX4_dueOf 2 (some .int), Cond.methodLink RX4 62 yX4_checkNumber, Cond.static yX4_checkNumber, Cond.code yX4_checkNumber cX4_checkNumber 2 none, Cond.classLink RX4 199 "java/lang/IndexOutOfBoundsException", Cond.initialized "java/lang/IndexOutOfBoundsException", Cond.methodLink RX4 193 yX4_dueOfKind, Cond.instanceMethod yX4_dueOfKind, Cond.selects RX4 yX4_dueOfKind yX4_dueOfKind, Cond.code yX4_dueOfKind cX4_dueOfKind 2 (some .int), Cond.fieldLink RX4 19 "PegBox" "kinds" "LPegBox$Kinds;", Cond.fieldLink RX4 26 "PegBox" "book" "LPegBox$ClaimBook;", Cond.fieldLink RX4 74 "PegBox$Kinds" "leasts" "[I", Cond.methodLink RX4 215 yX0_settledSum, Cond.instanceMethod yX0_settledSum, Cond.selects RX0 yX0_settledSum yX0_settledSum, Cond.initialized RX0, Cond.code yX0_settledSum cX0_settledSum 5 (some .int), Cond.fieldLink RX0 24 "PegBox$ClaimBook" "count" "I"]
def wsL_dueOf_r2 : List Cond := [Cond.fieldLink RX0 9 "PegBox$ClaimBook" "kinds" "[I", Cond.fieldLink RX0 21 "PegBox$ClaimBook" "settled" "[I", Cond.methodLink RX4 218 yX3_limit, Cond.instanceMethod yX3_limit, Cond.selects RX3 yX3_limit yX3_limit, Cond.initialized RX3, Cond.code yX3_limit cX3_limit 3 (some .int), Cond.fieldLink RX3 22 "PegBox$Kinds" "caps" "[I", Cond.methodLink RX3 32 Lib.Math.min.name, Cond.static Lib.Math.min.name, Cond.initialized "java/lang/Math", Cond.code Lib.Math.min.name Lib.Math.min.code 2 (some .int), Cond.methodLink RX3 28 yX3_pastBasket, Cond.instanceMethod yX3_pastBasket, Cond.selects RX3 yX3_pastBasket yX3_pastBasket, Cond.code yX3_pastBasket cX3_pastBasket 4 (some .int), Cond.fieldLink RX3 15 "PegBox$Kinds" "baskets" "[I", Cond.fieldLink RX3 18 "PegBox$Kinds" "wholes" "[Z"]
def wsL_dueOf : List Cond := .codeWith yL_dueOf cL_dueOf 4 (some .int) [(0, 9, 12, 20)] :: ((wsL_dueOf_r1 ++ wsL_dueOf_r2) ++ wsX40 ++ wsX30 ++ wsX00 ++ (vx_atS RX4 203 "java/lang/IndexOutOfBoundsException" ["java/lang/RuntimeException", "java/lang/Exception"]).filter goodWord)
def wsL_settledAt : List Cond := .codeWith yL_settledAt cL_settledAt 4 (some .int) [(0, 9, 12, 20)] :: ([.classLink RL 20 "java/lang/IndexOutOfBoundsException", .methodLink RL 64 yX4_settledAt, .instanceMethod yX4_settledAt, .selects RX4 yX4_settledAt yX4_settledAt, .initialized RX4, .code yX4_settledAt cX4_settledAt 2 (some .int), .fieldLink RX4 26 "PegBox" "book" "LPegBox$ClaimBook;", .fieldLink RX4 136 "PegBox$ClaimBook" "count" "I", .fieldLink RX4 147 "PegBox$ClaimBook" "settled" "[I", .methodLink RX4 62 yX4_checkNumber, .static yX4_checkNumber, .code yX4_checkNumber cX4_checkNumber 2 none, .classLink RX4 199 "java/lang/IndexOutOfBoundsException", .initialized "java/lang/IndexOutOfBoundsException"] ++ wsX40 ++ wsX00 ++ (vx_atS RX4 203 "java/lang/IndexOutOfBoundsException" ["java/lang/RuntimeException", "java/lang/Exception"]).filter goodWord)
def wsL_isMet : List Cond := .codeWith yL_isMet cL_isMet 4 (some .int) [(0, 16, 19, 20)] :: ([.classLink RL 20 "java/lang/IndexOutOfBoundsException", .methodLink RL 67 yX4_isMet, .instanceMethod yX4_isMet, .selects RX4 yX4_isMet yX4_isMet, .initialized RX4, .code yX4_isMet cX4_isMet 2 (some .boolean), .fieldLink RX4 33 "PegBox" "earnOut" "LPegBox$EarnOut;", .fieldLink RX4 196 "PegBox$EarnOut" "met" "[Z", .methodLink RX4 62 yX4_checkNumber, .static yX4_checkNumber, .code yX4_checkNumber cX4_checkNumber 2 none, .classLink RX4 199 "java/lang/IndexOutOfBoundsException", .initialized "java/lang/IndexOutOfBoundsException"] ++ wsX40 ++ wsX10 ++ (vx_atS RX4 203 "java/lang/IndexOutOfBoundsException" ["java/lang/RuntimeException", "java/lang/Exception"]).filter goodWord)
def wsL_law0_r1 : List Cond := [Cond.classLink RL 8 RX4, Cond.instantiable RX4 14, Cond.initialized RX4, Cond.classLink RL 72 RX5, Cond.instantiable RX5 31, Cond.initialized RX5, Cond.arrayClass .long, Cond.methodLink RL 71 yX4_init, Cond.instanceMethod yX4_init, Cond.code yX4_init cX4_init 1 none, Cond.methodLink RX4 1 objectInit, Cond.instanceMethod objectInit, Cond.code objectInit ⟨#[0xb1]⟩ 1 none, Cond.classLink RX4 7 RX2, Cond.instantiable RX2 2, Cond.initialized RX2, Cond.fieldLink RX4 10 "PegBox" "escrow" "LPegBox$Escrow;", Cond.classLink RX4 16 RX3, Cond.instantiable RX3 5, Cond.initialized RX3, Cond.fieldLink RX4 19 "PegBox" "kinds" "LPegBox$Kinds;", Cond.classLink RX4 23 RX0, Cond.instantiable RX0 5, Cond.initialized RX0]
def wsL_law0_r2 : List Cond := [Cond.fieldLink RX4 26 "PegBox" "book" "LPegBox$ClaimBook;", Cond.classLink RX4 30 RX1, Cond.instantiable RX1 8, Cond.initialized RX1, Cond.fieldLink RX4 33 "PegBox" "earnOut" "LPegBox$EarnOut;", Cond.fieldLink RX4 37 "PegBox" "day" "I", Cond.fieldLink RX4 41 "PegBox" "finalPrice" "I", Cond.methodLink RX4 9 yX2_init, Cond.instanceMethod yX2_init, Cond.code yX2_init cX2_init 1 none, Cond.methodLink RX2 3 objectInit, Cond.arrayClass .int, Cond.fieldLink RX2 9 "PegBox$Escrow" "amounts" "[I", Cond.fieldLink RX2 15 "PegBox$Escrow" "days" "[I", Cond.methodLink RX4 18 yX3_init, Cond.instanceMethod yX3_init, Cond.code yX3_init cX3_init 1 none, Cond.methodLink RX3 3 objectInit, Cond.fieldLink RX3 9 "PegBox$Kinds" "leasts" "[I", Cond.fieldLink RX3 15 "PegBox$Kinds" "baskets" "[I", Cond.arrayClass .boolean, Cond.fieldLink RX3 18 "PegBox$Kinds" "wholes" "[Z", Cond.fieldLink RX3 22 "PegBox$Kinds" "caps" "[I", Cond.fieldLink RX3 25 "PegBox$Kinds" "lastDays" "[I"]
def wsL_law0_r3 : List Cond := [Cond.methodLink RX4 25 yX0_init, Cond.instanceMethod yX0_init, Cond.code yX0_init cX0_init 1 none, Cond.methodLink RX0 3 objectInit, Cond.fieldLink RX0 9 "PegBox$ClaimBook" "kinds" "[I", Cond.fieldLink RX0 15 "PegBox$ClaimBook" "amounts" "[I", Cond.fieldLink RX0 18 "PegBox$ClaimBook" "offers" "[I", Cond.fieldLink RX0 21 "PegBox$ClaimBook" "settled" "[I", Cond.methodLink RX4 32 yX1_init, Cond.instanceMethod yX1_init, Cond.code yX1_init cX1_init 1 none, Cond.methodLink RX1 3 objectInit, Cond.fieldLink RX1 9 "PegBox$EarnOut" "targets" "[I", Cond.fieldLink RX1 15 "PegBox$EarnOut" "amounts" "[I", Cond.fieldLink RX1 18 "PegBox$EarnOut" "met" "[Z", Cond.methodLink RL 74 yX5_init, Cond.instanceMethod yX5_init, Cond.code yX5_init cX5_init 1 none, Cond.methodLink RX5 1 objectInit, Cond.fieldLink RX5 7 "PegBoxModel" "partAmount" "[I", Cond.fieldLink RX5 13 "PegBoxModel" "partDay" "[I", Cond.fieldLink RX5 16 "PegBoxModel" "least" "[I", Cond.fieldLink RX5 19 "PegBoxModel" "basket" "[I", Cond.fieldLink RX5 22 "PegBoxModel" "whole" "[Z"]
def wsL_law0_r4 : List Cond := [Cond.fieldLink RX5 26 "PegBoxModel" "cap" "[I", Cond.fieldLink RX5 29 "PegBoxModel" "lastDay" "[I", Cond.fieldLink RX5 32 "PegBoxModel" "target" "[I", Cond.fieldLink RX5 35 "PegBoxModel" "yearAmount" "[I", Cond.fieldLink RX5 38 "PegBoxModel" "kind" "[I", Cond.fieldLink RX5 41 "PegBoxModel" "amount" "[I", Cond.fieldLink RX5 44 "PegBoxModel" "offered" "[I", Cond.fieldLink RX5 47 "PegBoxModel" "settled" "[I", Cond.fieldLink RX5 50 "PegBoxModel" "results" "[I", Cond.fieldLink RX5 53 "PegBoxModel" "met" "[Z", Cond.methodLink RL 75 yL_setPrice, Cond.static yL_setPrice, Cond.initialized RL, Cond.codeWith yL_setPrice cL_setPrice 5 (some .int) [(0, 7, 10, 13), (0, 7, 14, 15)], Cond.classLink RL 13 "java/lang/IllegalArgumentException", Cond.classLink RL 15 "java/lang/IllegalStateException", Cond.methodLink RL 7 yX4_setPrice, Cond.instanceMethod yX4_setPrice, Cond.selects RX4 yX4_setPrice yX4_setPrice, Cond.code yX4_setPrice cX4_setPrice 4 none, Cond.constant RX4 44 (10000000), Cond.constant RX4 49 (-10000000), Cond.fieldLink RX4 53 "PegBox" "price" "I", Cond.fieldLink RX4 56 "PegBox" "peg" "I"]
def wsL_law0_r5 : List Cond := [Cond.fieldLink RX4 59 "PegBox" "collar" "I", Cond.methodLink RX4 45 yX4_checkRange, Cond.static yX4_checkRange, Cond.code yX4_checkRange cX4_checkRange 3 none, Cond.classLink RX4 204 "java/lang/IllegalArgumentException", Cond.initialized "java/lang/IllegalArgumentException", Cond.methodLink RX4 50 yX4_checkNotClosed, Cond.instanceMethod yX4_checkNotClosed, Cond.selects RX4 yX4_checkNotClosed yX4_checkNotClosed, Cond.code yX4_checkNotClosed cX4_checkNotClosed 1 none, Cond.classLink RX4 124 "java/lang/IllegalStateException", Cond.initialized "java/lang/IllegalStateException", Cond.methodLink RL 80 yX5_setPrice, Cond.instanceMethod yX5_setPrice, Cond.selects RX5 yX5_setPrice yX5_setPrice, Cond.code yX5_setPrice cX5_setPrice 4 none, Cond.constant RX5 60 (10000000), Cond.constant RX5 65 (-10000000), Cond.fieldLink RX5 66 "PegBoxModel" "closed" "Z", Cond.fieldLink RX5 74 "PegBoxModel" "price" "I", Cond.fieldLink RX5 77 "PegBoxModel" "peg" "I", Cond.fieldLink RX5 80 "PegBoxModel" "collar" "I", Cond.methodLink RX5 61 yX5_in, Cond.static yX5_in]
def wsL_law0_r6 : List Cond := [Cond.code yX5_in cX5_in 3 (some .boolean), Cond.methodLink RX5 70 yX5_isFine, Cond.instanceMethod yX5_isFine, Cond.selects RX5 yX5_isFine yX5_isFine, Cond.code yX5_isFine cX5_isFine 2 (some .boolean), Cond.fieldLink RX5 56 "PegBoxModel" "thrown" "I", Cond.methodLink RL 81 yX5_thrown, Cond.instanceMethod yX5_thrown, Cond.selects RX5 yX5_thrown yX5_thrown, Cond.code yX5_thrown cX5_thrown 1 (some .int), Cond.methodLink RL 84 yL_setPart, Cond.static yL_setPart, Cond.codeWith yL_setPart cL_setPart 5 (some .int) [(0, 7, 10, 20), (0, 7, 14, 13), (0, 7, 18, 15)], Cond.classLink RL 20 "java/lang/IndexOutOfBoundsException", Cond.methodLink RL 17 yX4_setPart, Cond.instanceMethod yX4_setPart, Cond.selects RX4 yX4_setPart yX4_setPart, Cond.code yX4_setPart cX4_setPart 4 none, Cond.fieldLink RX4 66 "PegBox$Escrow" "amounts" "[I", Cond.fieldLink RX4 70 "PegBox$Escrow" "days" "[I", Cond.methodLink RX4 62 yX4_checkNumber, Cond.static yX4_checkNumber, Cond.code yX4_checkNumber cX4_checkNumber 2 none, Cond.classLink RX4 199 "java/lang/IndexOutOfBoundsException"]
def wsL_law0_r7 : List Cond := [Cond.initialized "java/lang/IndexOutOfBoundsException", Cond.methodLink RL 86 yX5_setPart, Cond.instanceMethod yX5_setPart, Cond.selects RX5 yX5_setPart yX5_setPart, Cond.code yX5_setPart cX5_setPart 4 none, Cond.methodLink RL 87 yL_setKind, Cond.static yL_setKind, Cond.codeWith yL_setKind cL_setKind 8 (some .int) [(0, 13, 16, 20), (0, 13, 20, 13), (0, 13, 24, 15)], Cond.methodLink RL 22 yX4_setKind, Cond.instanceMethod yX4_setKind, Cond.selects RX4 yX4_setKind yX4_setKind, Cond.code yX4_setKind cX4_setKind 7 none, Cond.constant RX4 73 (100000000), Cond.fieldLink RX4 74 "PegBox$Kinds" "leasts" "[I", Cond.fieldLink RX4 77 "PegBox$Kinds" "baskets" "[I", Cond.fieldLink RX4 80 "PegBox$Kinds" "wholes" "[Z", Cond.fieldLink RX4 84 "PegBox$Kinds" "caps" "[I", Cond.fieldLink RX4 87 "PegBox$Kinds" "lastDays" "[I", Cond.methodLink RL 90 yX5_setKind, Cond.instanceMethod yX5_setKind, Cond.selects RX5 yX5_setKind yX5_setKind, Cond.code yX5_setKind cX5_setKind 8 none, Cond.constant RX5 83 (100000000), Cond.methodLink RL 91 yL_setYear]
def wsL_law0_r8 : List Cond := [Cond.static yL_setYear, Cond.codeWith yL_setYear cL_setYear 5 (some .int) [(0, 7, 10, 20), (0, 7, 14, 13), (0, 7, 18, 15)], Cond.methodLink RL 26 yX4_setYear, Cond.instanceMethod yX4_setYear, Cond.selects RX4 yX4_setYear yX4_setYear, Cond.code yX4_setYear cX4_setYear 4 none, Cond.fieldLink RX4 90 "PegBox$EarnOut" "targets" "[I", Cond.fieldLink RX4 93 "PegBox$EarnOut" "amounts" "[I", Cond.methodLink RL 93 yX5_setYear, Cond.instanceMethod yX5_setYear, Cond.selects RX5 yX5_setYear yX5_setYear, Cond.code yX5_setYear cX5_setYear 4 none, Cond.methodLink RL 94 yL_setCarry, Cond.static yL_setCarry, Cond.codeWith yL_setCarry cL_setCarry 3 (some .int) [(0, 5, 8, 15)], Cond.methodLink RL 29 yX4_setCarry, Cond.instanceMethod yX4_setCarry, Cond.selects RX4 yX4_setCarry yX4_setCarry, Cond.code yX4_setCarry cX4_setCarry 2 none, Cond.fieldLink RX4 94 "PegBox$EarnOut" "isCarried" "Z", Cond.methodLink RL 97 yX5_setCarry, Cond.instanceMethod yX5_setCarry, Cond.selects RX5 yX5_setCarry yX5_setCarry, Cond.code yX5_setCarry cX5_setCarry 2 none]
def wsL_law0_r9 : List Cond := [Cond.fieldLink RX5 84 "PegBoxModel" "carried" "Z", Cond.methodLink RL 98 yL_close, Cond.static yL_close, Cond.codeWith yL_close cL_close 6 (some .int) [(0, 12, 15, 13), (0, 12, 19, 15)], Cond.methodLink RL 33 yX4_close, Cond.instanceMethod yX4_close, Cond.selects RX4 yX4_close yX4_close, Cond.code yX4_close cX4_close 4 (some .int), Cond.methodLink RX4 102 Lib.Math.max.name, Cond.static Lib.Math.max.name, Cond.initialized "java/lang/Math", Cond.code Lib.Math.max.name Lib.Math.max.code 2 (some .int), Cond.methodLink RX4 112 Lib.Math.min.name, Cond.static Lib.Math.min.name, Cond.code Lib.Math.min.name Lib.Math.min.code 2 (some .int), Cond.fieldLink RX4 115 "PegBox" "held" "I", Cond.fieldLink RX4 118 "PegBox" "paid" "I", Cond.methodLink RX4 98 yX4_beyondCollar, Cond.instanceMethod yX4_beyondCollar, Cond.selects RX4 yX4_beyondCollar yX4_beyondCollar, Cond.code yX4_beyondCollar cX4_beyondCollar 2 (some .int), Cond.methodLink RX4 108 yX2_total, Cond.instanceMethod yX2_total, Cond.selects RX2 yX2_total yX2_total]
def wsL_law0_r10 : List Cond := [Cond.code yX2_total cX2_total 3 (some .int), Cond.methodLink RL 101 yX5_close, Cond.instanceMethod yX5_close, Cond.selects RX5 yX5_close yX5_close, Cond.code yX5_close cX5_close 9 (some .int), Cond.fieldLink RX5 87 "PegBoxModel" "finals" "I", Cond.fieldLink RX5 90 "PegBoxModel" "held" "I", Cond.fieldLink RX5 93 "PegBoxModel" "paid" "I", Cond.methodLink RL 102 yL_advance, Cond.static yL_advance, Cond.codeWith yL_advance cL_advance 4 (some .int) [(0, 9, 12, 13), (0, 9, 15, 15)], Cond.methodLink RL 37 yX4_advance, Cond.instanceMethod yX4_advance, Cond.selects RX4 yX4_advance yX4_advance, Cond.code yX4_advance cX4_advance 2 (some .int), Cond.methodLink RX4 121 yX4_checkClosed, Cond.instanceMethod yX4_checkClosed, Cond.selects RX4 yX4_checkClosed yX4_checkClosed, Cond.code yX4_checkClosed cX4_checkClosed 1 none, Cond.methodLink RX4 131 yX4_free, Cond.instanceMethod yX4_free, Cond.selects RX4 yX4_free yX4_free, Cond.code yX4_free cX4_free 2 none, Cond.methodLink RX4 221 yX2_totalAfter]
def wsL_law0_r11 : List Cond := [Cond.instanceMethod yX2_totalAfter, Cond.selects RX2 yX2_totalAfter yX2_totalAfter, Cond.code yX2_totalAfter cX2_totalAfter 4 (some .int), Cond.methodLink RX4 224 yX0_openSum, Cond.instanceMethod yX0_openSum, Cond.selects RX0 yX0_openSum yX0_openSum, Cond.code yX0_openSum cX0_openSum 3 (some .int), Cond.fieldLink RX0 24 "PegBox$ClaimBook" "count" "I", Cond.methodLink RL 105 yX5_advance, Cond.instanceMethod yX5_advance, Cond.selects RX5 yX5_advance yX5_advance, Cond.code yX5_advance cX5_advance 3 (some .int), Cond.fieldLink RX5 96 "PegBoxModel" "day" "I", Cond.methodLink RX5 102 yX5_frees, Cond.instanceMethod yX5_frees, Cond.selects RX5 yX5_frees yX5_frees, Cond.code yX5_frees cX5_frees 3 none, Cond.fieldLink RX5 99 "PegBoxModel" "claims" "I", Cond.methodLink RL 106 yL_claim, Cond.static yL_claim, Cond.codeWith yL_claim cL_claim 5 (some .int) [(0, 10, 13, 20), (0, 10, 17, 13), (0, 10, 21, 15)], Cond.methodLink RL 41 yX4_claim, Cond.instanceMethod yX4_claim, Cond.selects RX4 yX4_claim yX4_claim]
def wsL_law0_r12 : List Cond := [Cond.code yX4_claim cX4_claim 4 (some .int), Cond.fieldLink RX4 136 "PegBox$ClaimBook" "count" "I", Cond.fieldLink RX4 141 "PegBox$ClaimBook" "kinds" "[I", Cond.fieldLink RX4 143 "PegBox$ClaimBook" "amounts" "[I", Cond.fieldLink RX4 144 "PegBox$ClaimBook" "offers" "[I", Cond.fieldLink RX4 147 "PegBox$ClaimBook" "settled" "[I", Cond.methodLink RL 109 yX5_claim, Cond.instanceMethod yX5_claim, Cond.selects RX5 yX5_claim yX5_claim, Cond.code yX5_claim cX5_claim 4 (some .int), Cond.methodLink RL 110 yL_offer, Cond.static yL_offer, Cond.codeWith yL_offer cL_offer 5 (some .int) [(0, 10, 13, 20), (0, 10, 17, 15), (0, 10, 21, 13)], Cond.methodLink RL 45 yX4_offer, Cond.instanceMethod yX4_offer, Cond.selects RX4 yX4_offer yX4_offer, Cond.code yX4_offer cX4_offer 4 (some .int), Cond.methodLink RX4 150 yX4_checkOpen, Cond.static yX4_checkOpen, Cond.code yX4_checkOpen cX4_checkOpen 1 none, Cond.methodLink RL 112 yX5_offer, Cond.instanceMethod yX5_offer, Cond.selects RX5 yX5_offer yX5_offer, Cond.code yX5_offer cX5_offer 5 (some .int)]
def wsL_law0_r13 : List Cond := [Cond.methodLink RX5 105 yX5_isClaim, Cond.instanceMethod yX5_isClaim, Cond.selects RX5 yX5_isClaim yX5_isClaim, Cond.code yX5_isClaim cX5_isClaim 2 (some .boolean), Cond.methodLink RL 113 yL_agree, Cond.static yL_agree, Cond.codeWith yL_agree cL_agree 4 (some .int) [(0, 9, 12, 20), (0, 9, 15, 15)], Cond.methodLink RL 48 yX4_agree, Cond.instanceMethod yX4_agree, Cond.selects RX4 yX4_agree yX4_agree, Cond.code yX4_agree cX4_agree 3 (some .int), Cond.methodLink RX4 156 yX4_payOut, Cond.instanceMethod yX4_payOut, Cond.selects RX4 yX4_payOut yX4_payOut, Cond.code yX4_payOut cX4_payOut 2 (some .int), Cond.fieldLink RX4 178 "PegBox" "returned" "I", Cond.methodLink RX4 190 yX4_leftOutstanding, Cond.instanceMethod yX4_leftOutstanding, Cond.selects RX4 yX4_leftOutstanding yX4_leftOutstanding, Cond.code yX4_leftOutstanding cX4_leftOutstanding 1 (some .int), Cond.fieldLink RX4 181 "PegBox" "setOff" "I", Cond.methodLink RX4 187 yX4_dueInAll, Cond.instanceMethod yX4_dueInAll, Cond.selects RX4 yX4_dueInAll yX4_dueInAll]
def wsL_law0_r14 : List Cond := [Cond.code yX4_dueInAll cX4_dueInAll 3 (some .int), Cond.methodLink RX4 193 yX4_dueOfKind, Cond.instanceMethod yX4_dueOfKind, Cond.selects RX4 yX4_dueOfKind yX4_dueOfKind, Cond.code yX4_dueOfKind cX4_dueOfKind 2 (some .int), Cond.methodLink RX4 215 yX0_settledSum, Cond.instanceMethod yX0_settledSum, Cond.selects RX0 yX0_settledSum yX0_settledSum, Cond.code yX0_settledSum cX0_settledSum 5 (some .int), Cond.methodLink RX4 218 yX3_limit, Cond.instanceMethod yX3_limit, Cond.selects RX3 yX3_limit yX3_limit, Cond.code yX3_limit cX3_limit 3 (some .int), Cond.methodLink RX3 32 Lib.Math.min.name, Cond.methodLink RX3 28 yX3_pastBasket, Cond.instanceMethod yX3_pastBasket, Cond.selects RX3 yX3_pastBasket yX3_pastBasket, Cond.code yX3_pastBasket cX3_pastBasket 4 (some .int), Cond.methodLink RL 115 yX5_agree, Cond.instanceMethod yX5_agree, Cond.selects RX5 yX5_agree yX5_agree, Cond.code yX5_agree cX5_agree 3 (some .int), Cond.methodLink RX5 125 yX5_settles, Cond.instanceMethod yX5_settles]
def wsL_law0_r15 : List Cond := [Cond.selects RX5 yX5_settles yX5_settles, Cond.code yX5_settles cX5_settles 4 (some .int), Cond.fieldLink RX5 116 "PegBoxModel" "returned" "I", Cond.methodLink RX5 122 yX5_open, Cond.instanceMethod yX5_open, Cond.selects RX5 yX5_open yX5_open, Cond.code yX5_open cX5_open 1 (some .int), Cond.fieldLink RX5 119 "PegBoxModel" "setOff" "I", Cond.methodLink RX5 112 yX5_dueAll, Cond.instanceMethod yX5_dueAll, Cond.selects RX5 yX5_dueAll yX5_dueAll, Cond.code yX5_dueAll cX5_dueAll 1 (some .int), Cond.methodLink RX5 108 yX5_dueFor, Cond.instanceMethod yX5_dueFor, Cond.selects RX5 yX5_dueFor yX5_dueFor, Cond.code yX5_dueFor cX5_dueFor 4 (some .int), Cond.methodLink RL 116 yL_decide, Cond.static yL_decide, Cond.codeWith yL_decide cL_decide 5 (some .int) [(0, 10, 13, 20), (0, 10, 17, 15), (0, 10, 21, 13)], Cond.methodLink RL 51 yX4_decide, Cond.instanceMethod yX4_decide, Cond.selects RX4 yX4_decide yX4_decide, Cond.code yX4_decide cX4_decide 4 (some .int), Cond.methodLink RL 118 yX5_decide]
def wsL_law0_r16 : List Cond := [Cond.instanceMethod yX5_decide, Cond.selects RX5 yX5_decide yX5_decide, Cond.code yX5_decide cX5_decide 4 (some .int), Cond.methodLink RL 119 yL_report, Cond.static yL_report, Cond.codeWith yL_report cL_report 4 (some .int) [(0, 9, 12, 13), (0, 9, 15, 15)], Cond.methodLink RL 54 yX4_report, Cond.instanceMethod yX4_report, Cond.selects RX4 yX4_report yX4_report, Cond.code yX4_report cX4_report 2 (some .int), Cond.fieldLink RX4 159 "PegBox$EarnOut" "isSpedUp" "Z", Cond.fieldLink RX4 164 "PegBox$EarnOut" "told" "I", Cond.methodLink RX4 169 yX1_tell, Cond.instanceMethod yX1_tell, Cond.selects RX1 yX1_tell yX1_tell, Cond.code yX1_tell cX1_tell 3 (some .int), Cond.fieldLink RX1 22 "PegBox$EarnOut" "told" "I", Cond.fieldLink RX1 26 "PegBox$EarnOut" "resultSum" "I", Cond.fieldLink RX1 29 "PegBox$EarnOut" "targetSum" "I", Cond.fieldLink RX1 32 "PegBox$EarnOut" "isCarried" "Z", Cond.methodLink RX1 36 yX1_meet, Cond.instanceMethod yX1_meet, Cond.selects RX1 yX1_meet yX1_meet, Cond.code yX1_meet cX1_meet 5 (some .int)]
def wsL_law0_r17 : List Cond := [Cond.methodLink RX4 172 yX4_owe, Cond.instanceMethod yX4_owe, Cond.selects RX4 yX4_owe yX4_owe, Cond.code yX4_owe cX4_owe 3 (some .int), Cond.fieldLink RX4 184 "PegBox" "owed" "I", Cond.methodLink RL 121 yX5_report, Cond.instanceMethod yX5_report, Cond.selects RX5 yX5_report yX5_report, Cond.code yX5_report cX5_report 8 (some .int), Cond.fieldLink RX5 132 "PegBoxModel" "told" "I", Cond.fieldLink RX5 135 "PegBoxModel" "sped" "Z", Cond.methodLink RX5 138 yX5_owes, Cond.instanceMethod yX5_owes, Cond.selects RX5 yX5_owes yX5_owes, Cond.code yX5_owes cX5_owes 3 (some .int), Cond.fieldLink RX5 129 "PegBoxModel" "owed" "I", Cond.methodLink RL 122 yL_speedUp, Cond.static yL_speedUp, Cond.codeWith yL_speedUp cL_speedUp 3 (some .int) [(0, 8, 11, 15)], Cond.methodLink RL 57 yX4_speedUp, Cond.instanceMethod yX4_speedUp, Cond.selects RX4 yX4_speedUp yX4_speedUp, Cond.code yX4_speedUp cX4_speedUp 1 (some .int), Cond.methodLink RX4 175 yX1_hasten]
def wsL_law0_r18 : List Cond := [Cond.instanceMethod yX1_hasten, Cond.selects RX1 yX1_hasten yX1_hasten, Cond.code yX1_hasten cX1_hasten 1 (some .int), Cond.fieldLink RX1 40 "PegBox$EarnOut" "isSpedUp" "Z", Cond.methodLink RL 125 yX5_speedUp, Cond.instanceMethod yX5_speedUp, Cond.selects RX5 yX5_speedUp yX5_speedUp, Cond.code yX5_speedUp cX5_speedUp 3 (some .int), Cond.methodLink RL 126 yX4_day, Cond.instanceMethod yX4_day, Cond.selects RX4 yX4_day yX4_day, Cond.code yX4_day cX4_day 1 (some .int), Cond.methodLink RL 129 yX5_day, Cond.instanceMethod yX5_day, Cond.selects RX5 yX5_day yX5_day, Cond.code yX5_day cX5_day 1 (some .int), Cond.methodLink RL 130 yX4_finalPrice, Cond.instanceMethod yX4_finalPrice, Cond.selects RX4 yX4_finalPrice yX4_finalPrice, Cond.code yX4_finalPrice cX4_finalPrice 1 (some .int), Cond.methodLink RL 133 yX5_finalPrice, Cond.instanceMethod yX5_finalPrice, Cond.selects RX5 yX5_finalPrice yX5_finalPrice, Cond.code yX5_finalPrice cX5_finalPrice 1 (some .int)]
def wsL_law0_r19 : List Cond := [Cond.methodLink RL 134 yX4_held, Cond.instanceMethod yX4_held, Cond.selects RX4 yX4_held yX4_held, Cond.code yX4_held cX4_held 1 (some .int), Cond.methodLink RL 137 yX5_held, Cond.instanceMethod yX5_held, Cond.selects RX5 yX5_held yX5_held, Cond.code yX5_held cX5_held 1 (some .int), Cond.methodLink RL 138 yX4_paid, Cond.instanceMethod yX4_paid, Cond.selects RX4 yX4_paid yX4_paid, Cond.code yX4_paid cX4_paid 1 (some .int), Cond.methodLink RL 141 yX5_paid, Cond.instanceMethod yX5_paid, Cond.selects RX5 yX5_paid yX5_paid, Cond.code yX5_paid cX5_paid 1 (some .int), Cond.methodLink RL 142 yX4_returned, Cond.instanceMethod yX4_returned, Cond.selects RX4 yX4_returned yX4_returned, Cond.code yX4_returned cX4_returned 1 (some .int), Cond.methodLink RL 145 yX5_returned, Cond.instanceMethod yX5_returned, Cond.selects RX5 yX5_returned yX5_returned, Cond.code yX5_returned cX5_returned 1 (some .int)]
def wsL_law0_r20 : List Cond := [Cond.methodLink RL 146 yX4_setOff, Cond.instanceMethod yX4_setOff, Cond.selects RX4 yX4_setOff yX4_setOff, Cond.code yX4_setOff cX4_setOff 1 (some .int), Cond.methodLink RL 149 yX5_setOff, Cond.instanceMethod yX5_setOff, Cond.selects RX5 yX5_setOff yX5_setOff, Cond.code yX5_setOff cX5_setOff 1 (some .int), Cond.methodLink RL 150 yX4_owed, Cond.instanceMethod yX4_owed, Cond.selects RX4 yX4_owed yX4_owed, Cond.code yX4_owed cX4_owed 1 (some .int), Cond.methodLink RL 153 yX5_owed, Cond.instanceMethod yX5_owed, Cond.selects RX5 yX5_owed yX5_owed, Cond.code yX5_owed cX5_owed 1 (some .int), Cond.methodLink RL 154 yX4_due, Cond.instanceMethod yX4_due, Cond.selects RX4 yX4_due yX4_due, Cond.code yX4_due cX4_due 1 (some .int), Cond.methodLink RL 157 yX5_due, Cond.instanceMethod yX5_due, Cond.selects RX5 yX5_due yX5_due, Cond.code yX5_due cX5_due 1 (some .int)]
def wsL_law0_r21 : List Cond := [Cond.methodLink RL 158 yX4_outstanding, Cond.instanceMethod yX4_outstanding, Cond.selects RX4 yX4_outstanding yX4_outstanding, Cond.code yX4_outstanding cX4_outstanding 1 (some .int), Cond.methodLink RL 161 yX5_outstanding, Cond.instanceMethod yX5_outstanding, Cond.selects RX5 yX5_outstanding yX5_outstanding, Cond.code yX5_outstanding cX5_outstanding 1 (some .int), Cond.methodLink RL 162 yL_dueOf, Cond.static yL_dueOf, Cond.codeWith yL_dueOf cL_dueOf 4 (some .int) [(0, 9, 12, 20)], Cond.methodLink RL 61 yX4_dueOf, Cond.instanceMethod yX4_dueOf, Cond.selects RX4 yX4_dueOf yX4_dueOf, Cond.code yX4_dueOf cX4_dueOf 2 (some .int), Cond.methodLink RL 164 yX5_dueOf, Cond.instanceMethod yX5_dueOf, Cond.selects RX5 yX5_dueOf yX5_dueOf, Cond.code yX5_dueOf cX5_dueOf 2 (some .int), Cond.methodLink RL 165 yX4_claims, Cond.instanceMethod yX4_claims, Cond.selects RX4 yX4_claims yX4_claims, Cond.code yX4_claims cX4_claims 1 (some .int), Cond.methodLink RL 168 yX5_claims]
def wsL_law0_r22 : List Cond := [Cond.instanceMethod yX5_claims, Cond.selects RX5 yX5_claims yX5_claims, Cond.code yX5_claims cX5_claims 1 (some .int), Cond.methodLink RL 169 yL_settledAt, Cond.static yL_settledAt, Cond.codeWith yL_settledAt cL_settledAt 4 (some .int) [(0, 9, 12, 20)], Cond.methodLink RL 64 yX4_settledAt, Cond.instanceMethod yX4_settledAt, Cond.selects RX4 yX4_settledAt yX4_settledAt, Cond.code yX4_settledAt cX4_settledAt 2 (some .int), Cond.methodLink RL 171 yX5_settledAt, Cond.instanceMethod yX5_settledAt, Cond.selects RX5 yX5_settledAt yX5_settledAt, Cond.code yX5_settledAt cX5_settledAt 2 (some .int), Cond.methodLink RL 172 yL_isMet, Cond.static yL_isMet, Cond.codeWith yL_isMet cL_isMet 4 (some .int) [(0, 16, 19, 20)], Cond.methodLink RL 67 yX4_isMet, Cond.instanceMethod yX4_isMet, Cond.selects RX4 yX4_isMet yX4_isMet, Cond.code yX4_isMet cX4_isMet 2 (some .boolean), Cond.fieldLink RX4 196 "PegBox$EarnOut" "met" "[Z", Cond.methodLink RL 174 yX5_isMet, Cond.instanceMethod yX5_isMet]
def wsL_law0_r23 : List Cond := [Cond.selects RX5 yX5_isMet yX5_isMet, Cond.code yX5_isMet cX5_isMet 2 (some .boolean)]
def wsL_law0 : List Cond := (wsL_law0_r1 ++ (wsL_law0_r2 ++ (wsL_law0_r3 ++ (wsL_law0_r4 ++ (wsL_law0_r5 ++ (wsL_law0_r6 ++ (wsL_law0_r7 ++ (wsL_law0_r8 ++ (wsL_law0_r9 ++ (wsL_law0_r10 ++ (wsL_law0_r11 ++ (wsL_law0_r12 ++ (wsL_law0_r13 ++ (wsL_law0_r14 ++ (wsL_law0_r15 ++ (wsL_law0_r16 ++ (wsL_law0_r17 ++ (wsL_law0_r18 ++ (wsL_law0_r19 ++ (wsL_law0_r20 ++ (wsL_law0_r21 ++ (wsL_law0_r22 ++ wsL_law0_r23)))))))))))))))))))))) ++ wsX40 ++ wsX50 ++ wsX20 ++ wsX30 ++ wsX00 ++ wsX10 ++ ([] : List Cond)
def wsL_law : List Cond := wsL_law0 ++ (vx_atS RX4 208 "java/lang/IllegalArgumentException" ["java/lang/RuntimeException", "java/lang/Exception"]).filter goodWord ++ (vx_atS RX4 128 "java/lang/IllegalStateException" ["java/lang/RuntimeException", "java/lang/Exception"]).filter goodWord ++ (vx_atS RX4 203 "java/lang/IndexOutOfBoundsException" ["java/lang/RuntimeException", "java/lang/Exception"]).filter goodWord
abbrev vwCl : List vw_C := [(RX0, TX0, 5), (RX1, TX1, 8), (RX2, TX2, 2), (RX3, TX3, 5), (RX4, TX4, 14), (RX5, TX5, 31)]
end
section
abbrev pg_St : Type := (Nat → Int32) × (Nat → Nat → Int32)
abbrev pg_ty (cI cZ : ClassId) : List (ClassId × FieldType) := [(cI, .int), (cZ, .boolean)]
/-- the world of a PegBox: scalars u.1, rows u.2 -/
def pg_wB (cI cZ : ClassId) (a : Nat → Nat) (u : pg_St) : va_W := [(a 0, .inr (4, [.ref (a 1), .ref (a 2), .ref (a 3), .ref (a 4), .int (u.1 0), .int (u.1 1), .int (u.1 2), .int (u.1 3), .int (u.1 4), .int (u.1 5), .int (u.1 6), .int (u.1 7), .int (u.1 8), .int (u.1 9)])), (a 1, .inr (2, [.ref (a 5), .ref (a 6)])), (a 2, .inr (3, [.ref (a 7), .ref (a 8), .ref (a 9), .ref (a 10), .ref (a 11)])), (a 3, .inr (0, [.ref (a 12), .ref (a 13), .ref (a 14), .ref (a 15), .int (u.1 10)])), (a 4, .inr (1, [.ref (a 16), .ref (a 17), .ref (a 18), .int (u.1 11), .int (u.1 12), .int (u.1 13), .int (u.1 14), .int (u.1 15)])), (a 5, .inl (cI, 4, .inl (u.2 0))), (a 6, .inl (cI, 4, .inl (u.2 1))), (a 7, .inl (cI, 3, .inl (u.2 2))), (a 8, .inl (cI, 3, .inl (u.2 3))), (a 9, .inl (cZ, 3, .inl (u.2 4))), (a 10, .inl (cI, 3, .inl (u.2 5))), (a 11, .inl (cI, 3, .inl (u.2 6))), (a 12, .inl (cI, 20, .inl (u.2 7))), (a 13, .inl (cI, 20, .inl (u.2 8))), (a 14, .inl (cI, 20, .inl (u.2 9))), (a 15, .inl (cI, 20, .inl (u.2 10))), (a 16, .inl (cI, 4, .inl (u.2 11))), (a 17, .inl (cI, 4, .inl (u.2 12))), (a 18, .inl (cZ, 4, .inl (u.2 13)))]
/-- the world of the reference -/
def pg_wM (cI cZ : ClassId) (a : Nat → Nat) (u : pg_St) : va_W := [(a 0, .inr (5, [.int (u.1 0), .int (u.1 1), .int (u.1 2), .ref (a 1), .ref (a 2), .ref (a 3), .ref (a 4), .ref (a 5), .ref (a 6), .ref (a 7), .ref (a 12), .ref (a 13), .int (u.1 11), .int (u.1 14), .int (u.1 3), .int (u.1 4), .int (u.1 5), .int (u.1 6), .int (u.1 7), .int (u.1 8), .int (u.1 9), .ref (a 8), .ref (a 9), .ref (a 10), .ref (a 11), .int (u.1 10), .ref (a 15), .ref (a 14), .int (u.1 13), .int (u.1 12), .int (u.1 15)])), (a 1, .inl (cI, 4, .inl (u.2 0))), (a 2, .inl (cI, 4, .inl (u.2 1))), (a 3, .inl (cI, 3, .inl (u.2 2))), (a 4, .inl (cI, 3, .inl (u.2 3))), (a 5, .inl (cZ, 3, .inl (u.2 4))), (a 6, .inl (cI, 3, .inl (u.2 5))), (a 7, .inl (cI, 3, .inl (u.2 6))), (a 8, .inl (cI, 20, .inl (u.2 7))), (a 9, .inl (cI, 20, .inl (u.2 8))), (a 10, .inl (cI, 20, .inl (u.2 9))), (a 11, .inl (cI, 20, .inl (u.2 10))), (a 12, .inl (cI, 4, .inl (u.2 11))), (a 13, .inl (cI, 4, .inl (u.2 12))), (a 14, .inl (cZ, 4, .inl (u.2 13))), (a 15, .inl (cI, 4, .inl (u.2 14)))]
/-- the texts of the class's throws -/
def pg_txt : List (Nat × String) := [(201, "there is no such number"), (206, "an argument is out of range"), (209, "the claim is settled"), (211, "the sale is closed"), (213, "the sale is not closed"), (126, "the day would be too late"), (134, "the last day of the kind is past"), (139, "there are as many claims as there can be"), (154, "there is no offer"), (162, "the earn-out was sped up"), (167, "all years were told")]
abbrev pg_ia : String := "java/lang/IllegalArgumentException"
abbrev pg_is : String := "java/lang/IllegalStateException"
abbrev pg_io : String := "java/lang/IndexOutOfBoundsException"
/-- the words of a throw that no list of words holds -/
def pg_nw : List Cond := [.castable pg_ia pg_ia, .castable pg_is pg_is, .castable pg_io pg_io, .declares (Bundle.initS "java/lang/RuntimeException"), .declares (Bundle.initS "java/lang/Exception"), .declares (Bundle.initS "java/lang/Throwable")]
theorem pg_warmD {x : MethodName} {s U : State} (hW : s.WarmedH U.vm) (hZ : va_Nw (.declares x) s) : va_Nw (.declares x) U := va_tabs rfl (rfl : (s.setVm U.vm).vm = U.vm) (by rw [Cond.declares_setVm hW.alike]; exact hZ)
/-- what a throw and its catching need beside the words -/
def pg_Env (A : Nat → Prop) (U : State) (H : Heap) : Prop :=
  vx_Zq Bundle.tN "UNASSIGNED_STACK" Bundle.steD A U H ∧ vx_Zq Bundle.tN "SUPPRESSED_SENTINEL" Bundle.listD A U H ∧
  (∀ w ∈ pg_nw, va_Nw w U) ∧
  (∀ q ∈ [(pg_ia, pg_is), (pg_ia, pg_io), (pg_is, pg_ia), (pg_is, pg_io), (pg_io, pg_ia), (pg_io, pg_is)], va_Nc q.1 q.2 U) ∧
  ∃ f : Nat → Nat, ∀ (i : Nat) (q : Nat × String), pg_txt[i]? = some q → vk_R "PegBox" q.1 q.2 (f i) U
theorem pg_Env.down {A B : Nat → Prop} {s U : State} {H0 H : Heap} {locs : List Loc} (h : pg_Env A s H0) (hW : s.WarmedH U.vm) (hS : va_S A H0 H locs) (hAB : ∀ q, B q → A q) : pg_Env B U H := by
  obtain ⟨h1, h2, h3, h4, f, h5⟩ := h
  refine ⟨vx_Zq.narrow (vx_Zq.moved hW.alike (h1.kept hS.2.1)) hAB, vx_Zq.narrow (vx_Zq.moved hW.alike (h2.kept hS.2.1)) hAB, fun w hw => ?_, fun q hq => va_Nc.moved hW.alike (h4 q hq), f, fun i q hq => vk_R.warm hW (h5 i q hq)⟩
  have h := h3 w hw
  simp only [pg_nw, List.mem_cons, List.not_mem_nil, or_false] at hw
  rcases hw with rfl | rfl | rfl | rfl | rfl | rfl
  · exact va_Nw.warmC hW h
  · exact va_Nw.warmC hW h
  · exact va_Nw.warmC hW h
  · exact pg_warmD hW h
  · exact pg_warmD hW h
  · exact pg_warmD hW h
/-- a method's start over the world ws; 'pg_T': one that may throw -/
def pg_B (D : va_G) (tys : List (ClassId × FieldType)) (ws : va_W) (sz : Nat) (U : State) : Prop := U.heap.size = sz ∧ va_P D vwCl ws U.heap ∧ va_K D vwCl tys U ∧ va_D (fun _ => True) ws
def pg_T (D : va_G) (tys : List (ClassId × FieldType)) (ws : va_W) (sz : Nat) (U : State) : Prop := pg_B D tys ws sz U ∧ pg_Env (va_A ws sz) U U.heap
/-- a method's end -/
def pg_E {S : Type} (D : va_G) (tys : List (ClassId × FieldType)) (A : Nat → Prop) (w : S → va_W) (u : S) (t : State) : Prop := va_P D vwCl (w u) t.heap ∧ va_K D vwCl tys t ∧ va_D A (w u)
/-- thrown: the class nm, the world as it was -/
def pg_X (D : va_G) (ws : va_W) (A : Nat → Prop) (nm : String) : String → State → State → Prop := fun E st t => E = nm ∧ va_P D vwCl ws t.heap ∧ va_F A st t
/-- .. it never returns -/
def pg_No : Array Value → State → Outcome → State → Prop := fun _ _ _ _ => False
theorem pg_B.blind {D : va_G} {tys : List (ClassId × FieldType)} {ws : va_W} {sz : Nat} {As : List Value} : FrameBlind (va_Pc As (pg_B D tys ws sz)) := fun a U g mk q => by
  obtain ⟨q0, q1, qP, qK, qD⟩ := q
  exact ⟨q0, q1, qP, va_K.moved (u := U) (U := U.calling g mk a) (Vm.Alike.refl U.vm) qK, qD⟩
theorem pg_Env.same {A : Nat → Prop} {s U : State} {H : Heap} (h : pg_Env A s H) (hv : s.vm = U.vm) : pg_Env A U H := by
  have hW : s.WarmedH U.vm := by rw [← hv]; exact State.WarmedH.refl s
  exact h.down hW va_S.rf (fun _ q => q)
theorem pg_T.blind {D : va_G} {tys : List (ClassId × FieldType)} {ws : va_W} {sz : Nat} {As : List Value} : FrameBlind (va_Pc As (pg_T D tys ws sz)) := fun a U g mk q => by
  obtain ⟨q0, q1, q2⟩ := q
  obtain ⟨r0, r1⟩ := pg_B.blind (As := As) a U g mk ⟨q0, q1⟩
  exact ⟨r0, r1, pg_Env.same (s := U) (U := U.calling g mk a) q2 rfl⟩
section PGC
variable {p : Program} {l : Launch} {e : Env} {R : Room} {s : State} {m : MethodId} {args : Array Value} {below : List Frame} {meth : Method} {c : Code} {H : Heap} {locs : List Loc} {cells slots : Nat} {Q : State → Prop}
variable {y : MethodName} {bytes cc : ByteArray} {maxL nL n index mc ms : Nat} {ret : Option FieldType} {wy : List Cond} {rm : Room} {Ts : List Cond} {own C : String} {b : Addr} {As rest st0 : List Value}
variable {D : va_G} {tys : List (ClassId × FieldType)} {ws : va_W} {A : Nat → Prop} {H0 : Heap} {pc : Nat} {ls : Array Slot} {nm : String}
theorem pg_up (hD : va_D A ws) (hS : va_S A H0 H locs) (hA : ∀ q, H0.size ≤ q → A q) : ∀ q, va_A ws H.size q → A q := by
  intro q h
  rcases h with ⟨k, e, h⟩ | h
  · exact hD.2 k (q, e) h
  · exact hA q (Nat.le_trans hS.1 h)
theorem pg_pre (hP : va_P D vwCl ws H) (hD : va_D A ws) (hK : va_K D vwCl tys s) {U : State} (hU : U.heap = H) (hW : s.WarmedH U.vm) : pg_B D tys ws H.size U := ⟨by rw [hU], by rw [hU]; exact hP, va_K.moved hW.alike hK, hD.weaken (fun _ _ _ _ => trivial)⟩
/-- a call that returns an int, over the whole world -/
theorem pg_i {S : Type} {post : Int32 → S → Prop} {w : S → va_W} {a : Array Value} (hr : va_Run p l e R s m args below meth c H locs cells slots mc ms (F0 m pc ls st0) rest (va_Qi post (pg_E D tys (va_A ws H.size) w) (va_A ws H.size) a) (va_A ws H.size)) (hD : va_D A ws) (hS : va_S A H0 H locs) (hA : ∀ q, H0.size ≤ q → A q)
    (kk : ∀ (r : Int32) (u : S) (H : Heap) (locs : List Loc), post r u → va_P D vwCl (w u) H → va_D A (w u) → va_S A H0 H locs → W p l e R s m args below meth c H locs (cells + mc) (slots + ms) Q (F0 m (pc + 3) ls (.int r :: rest))) : W p l e R s m args below meth c H locs cells slots Q (F0 m pc ls st0) := by
  have hu := pg_up hD hS hA
  refine va_calli hr hS (fun q _ h => hu q h) hu (fun r u t H1 locs1 ht hvm hw hB hz1 hk1 hS1 => ?_)
  obtain ⟨hP1, hK1, hD1⟩ := hB
  rw [ht] at hP1
  exact kk r u H1 locs1 hw hP1 (hD1.weaken (fun _ q _ h => hu q.1 h)) hS1
theorem pg_v {S : Type} {post : S → Prop} {w : S → va_W} {a : Array Value} (hr : va_Run p l e R s m args below meth c H locs cells slots mc ms (F0 m pc ls st0) rest (va_Qv post (pg_E D tys (va_A ws H.size) w) (va_A ws H.size) a) (va_A ws H.size)) (hD : va_D A ws) (hS : va_S A H0 H locs) (hA : ∀ q, H0.size ≤ q → A q)
    (kk : ∀ (u : S) (H : Heap) (locs : List Loc), post u → va_P D vwCl (w u) H → va_D A (w u) → va_S A H0 H locs → W p l e R s m args below meth c H locs (cells + mc) (slots + ms) Q (F0 m (pc + 3) ls rest)) : W p l e R s m args below meth c H locs cells slots Q (F0 m pc ls st0) := by
  have hu := pg_up hD hS hA
  refine va_callv hr hS (fun q _ h => hu q h) hu (fun u t H1 locs1 ht hvm hw hB hz1 hk1 hS1 => ?_)
  obtain ⟨hP1, hK1, hD1⟩ := hB
  rw [ht] at hP1
  exact kk u H1 locs1 hw hP1 (hD1.weaken (fun _ q _ h => hu q.1 h)) hS1
/-- the two calls' starts -/
theorem pg_rV {Qc : Array Value → State → Outcome → State → Prop} {free : Addr → Prop} (S : CallFix p m c cc nL s args Ts own) (hM : Met l y wy rm (va_Pc (.ref b :: As) (pg_B D tys ws H.size)) Qc mc ms free) (cw : CallW R s args own C index y bytes maxL ret wy rm mc ms n) (hK : va_K D vwCl tys s) (hP : va_P D vwCl ws H) (hD : va_D A ws) (q0 : Nat) {ci : Nat} {cq : vw_C} {fs : List Value} (hc : vwCl[ci]? = some cq) (hC : cq.1 = C) (he : ws[q0]? = some (b, .inr (ci, fs)))
    (hn : As.length = n) (hsize : ls.size = nL) (hst : st0 = As.reverse ++ .ref b :: rest) (hW : (rest.map fun v => v.category).sum ≤ 8) (hdg : decode cc pc = .ok (.invokevirtual index, 3)) (hf : cells + mc ≤ R.cells ∧ slots + ms ≤ R.slots) :
    va_Run p l e R s m args below meth c H locs cells slots mc ms (F0 m pc ls st0) rest (Qc (Value.ref b :: As).toArray) free := by
  subst hC
  exact va_runV S hM cw ⟨pg_B.blind, va_recv hK hP hc he, fun U hU hW => ⟨rfl, pg_pre hP hD hK hU hW⟩⟩ rfl hn hsize hst (lv_room hW) hdg hf
theorem pg_rS {Qc : Array Value → State → Outcome → State → Prop} {free : Addr → Prop} (S : CallFix p m c cc nL s args Ts own) (hM : Met l y wy rm (va_Pc As (pg_B D tys ws H.size)) Qc mc ms free) (cw : CallB R s args own index y bytes maxL ret wy rm mc ms n ∧ (Cond.static y).before args s = true) (hK : va_K D vwCl tys s) (hP : va_P D vwCl ws H) (hD : va_D A ws)
    (hn : As.length = n) (hsize : ls.size = nL) (hst : st0 = As.reverse ++ rest) (hW : (rest.map fun v => v.category).sum ≤ 8) (hdg : decode cc pc = .ok (.invokestatic index, 3)) (hf : cells + mc ≤ R.cells ∧ slots + ms ≤ R.slots) :
    va_Run p l e R s m args below meth c H locs cells slots mc ms (F0 m pc ls st0) rest (Qc As.toArray) free :=
  va_runS S hM cw ⟨pg_B.blind, fun U hU hW => ⟨rfl, pg_pre hP hD hK hU hW⟩⟩ rfl hn hsize hst (lv_room hW) hdg hf
theorem pg_rI {Qc : Array Value → State → Outcome → State → Prop} {free : Addr → Prop} (S : CallFix p m c cc nL s args Ts own) (hM : Met l y wy rm (va_Pc (.ref b :: As) (pg_B D tys ws H.size)) Qc mc ms free) (cw : CallB R s args own index y bytes maxL none wy rm mc ms n ∧ y.name = "<init>" ∧ (Cond.instanceMethod y).before args s = true) (hK : va_K D vwCl tys s) (hP : va_P D vwCl ws H) (hD : va_D A ws)
    (hn : As.length = n) (hsize : ls.size = nL) (hst : st0 = As.reverse ++ .ref b :: rest) (hW : (rest.map fun v => v.category).sum ≤ 8) (hdg : decode cc pc = .ok (.invokespecial index, 3)) (hf : cells + mc ≤ R.cells ∧ slots + ms ≤ R.slots) :
    va_Run p l e R s m args below meth c H locs cells slots mc ms (F0 m pc ls st0) rest (Qc (Value.ref b :: As).toArray) free :=
  va_runI S hM cw ⟨pg_B.blind, fun U hU hW => ⟨rfl, pg_pre hP hD hK hU hW⟩⟩ rfl hn hsize hst (lv_room hW) hdg hf
/-- a call that throws -/
theorem pg_preT (hP : va_P D vwCl ws H) (hD : va_D A ws) (hS : va_S A s.heap H locs) (hA : ∀ q, s.heap.size ≤ q → A q) (hE : pg_Env A s s.heap) (hK : va_K D vwCl tys s) {U : State} (hU : U.heap = H) (hW : s.WarmedH U.vm) : pg_T D tys ws H.size U :=
  ⟨pg_pre hP hD hK hU hW, by rw [hU]; exact hE.down hW hS (pg_up hD hS hA)⟩
theorem pg_xV {free : Addr → Prop} {XC : String → State → State → Prop} (S : CallFix p m c cc nL s args Ts own) (hM : vx_Met l y wy rm (va_Pc (.ref b :: As) (pg_T D tys ws H.size)) pg_No XC mc ms free) (cw : CallW R s args own C index y bytes maxL ret wy rm mc ms n) (hK : va_K D vwCl tys s) (hP : va_P D vwCl ws H) (hD : va_D A ws) (hS : va_S A s.heap H locs) (hA : ∀ q, s.heap.size ≤ q → A q) (hE : pg_Env A s s.heap) (q0 : Nat) {ci : Nat} {cq : vw_C} {fs : List Value} (hc : vwCl[ci]? = some cq) (hC : cq.1 = C) (he : ws[q0]? = some (b, .inr (ci, fs)))
    (hn : As.length = n) (hsize : ls.size = nL) (hst : st0 = As.reverse ++ .ref b :: rest) (hW : (rest.map fun v => v.category).sum ≤ 8) (hdg : decode cc pc = .ok (.invokevirtual index, 3)) (hf : cells + mc ≤ R.cells ∧ slots + ms ≤ R.slots) :
    vx_Run p l e R s m args below meth c H locs cells slots mc ms (F0 m pc ls st0) rest (pg_No (Value.ref b :: As).toArray) XC free := by
  subst hC
  exact vx_runV S hM cw ⟨pg_T.blind, va_recv hK hP hc he, fun U hU hW => ⟨rfl, pg_preT hP hD hS hA hE hK hU hW⟩⟩ rfl hn hsize hst (lv_room hW) hdg hf
theorem pg_xS {free : Addr → Prop} {XC : String → State → State → Prop} (S : CallFix p m c cc nL s args Ts own) (hM : vx_Met l y wy rm (va_Pc As (pg_T D tys ws H.size)) pg_No XC mc ms free) (cw : CallB R s args own index y bytes maxL ret wy rm mc ms n ∧ (Cond.static y).before args s = true) (hK : va_K D vwCl tys s) (hP : va_P D vwCl ws H) (hD : va_D A ws) (hS : va_S A s.heap H locs) (hA : ∀ q, s.heap.size ≤ q → A q) (hE : pg_Env A s s.heap)
    (hn : As.length = n) (hsize : ls.size = nL) (hst : st0 = As.reverse ++ rest) (hW : (rest.map fun v => v.category).sum ≤ 8) (hdg : decode cc pc = .ok (.invokestatic index, 3)) (hf : cells + mc ≤ R.cells ∧ slots + ms ≤ R.slots) :
    vx_Run p l e R s m args below meth c H locs cells slots mc ms (F0 m pc ls st0) rest (pg_No As.toArray) XC free :=
  vx_runS S hM cw ⟨pg_T.blind, fun U hU hW => ⟨rfl, pg_preT hP hD hS hA hE hK hU hW⟩⟩ rfl hn hsize hst (lv_room hW) hdg hf
/-- .. and its throw goes through to the caller -/
theorem pg_thru {Qc : Array Value → State → Outcome → State → Prop} {a : Array Value} {MC MS : Nat} (hr : vx_Run p l e R s m args below meth c H locs cells slots mc ms (F0 m pc ls st0) rest (pg_No a) (pg_X D ws (va_A ws H.size) nm) (va_A ws H.size)) (hD : va_D A ws) (hS : va_S A s.heap H locs) (hA : ∀ q, s.heap.size ≤ q → A q) (hout : ∀ x ∈ c.exceptionTable.toList, False) (hlocks : meth.locks = false) (hc : cells + mc ≤ MC) (hs : slots + ms ≤ MS) :
    W p l e R s m args below meth c H locs cells slots (vx_MQ below Qc (pg_X D ws A nm) args s MC MS A) (F0 m pc ls st0) := by
  intro T hT X
  have hu := pg_up hD hS hA
  rcases hr T hT X with ⟨v, st₀, t, T', L, h0, X', hL, e1, e2, hq, st⟩ | ⟨q, st₀, t, T', L, E, ce, h0, X', hL, e1, e2, ⟨hnm, hP1, hF⟩, hce, hcv, hcl, st⟩
  · exact hq.elim
  · obtain ⟨k1, k2, k3⟩ := vx_keep (A1 := va_A ws H.size) h0 e1 hS (fun q _ h => hu q h) hu hL hF
    obtain ⟨t2, a1, b1⟩ := vx_out (Qc := Qc) (XC := pg_X D ws A nm) (free := A) (mc := MC) (ms := MS) (pc := pc) (ls := ls) (rest := rest) (E := E) (ce := ce) (q := q) (fun x hx => (hout x hx).elim) hlocks (by rw [e1]; exact hce) hcv hcl (fun t' ht' hal => ⟨hnm, by rw [ht', e1]; exact hP1, k3.F ht'⟩) (fun z hz => k3.2.2 z hz) hc hs T' rfl X'
    exact ⟨t2, st.trans a1, b1⟩
/-- .. or is caught here -/
theorem pg_cat {a : Array Value} (hr : vx_Run p l e R s m args below meth c H locs cells slots mc ms (F0 m pc ls st0) rest (pg_No a) (pg_X D ws (va_A ws H.size) nm) (va_A ws H.size)) (hD : va_D A ws) (hS : va_S A H0 H locs) (hA : ∀ q, H0.size ≤ q → A q)
    (kx : ∀ (ce : Cell) (q9 : Addr) (H : Heap) (locs : List Loc), va_P D vwCl ws H → va_S A H0 H locs → H[q9]? = some ce → ce.vm = .none → s.vm.findClass nm = some ce.cls → vx_W p l e R s m args below meth c H locs (cells + mc) (slots + ms) Q (F0 m pc ls rest) q9) : W p l e R s m args below meth c H locs cells slots Q (F0 m pc ls st0) := by
  intro T hT X
  have hu := pg_up hD hS hA
  rcases hr T hT X with ⟨v, st₀, t, T', L, h0, X', hL, e1, e2, hq, st⟩ | ⟨q, st₀, t, T', L, E, ce, h0, X', hL, e1, e2, ⟨hnm, hP1, hF⟩, hce, hcv, hcl, st⟩
  · exact hq.elim
  · subst hnm
    obtain ⟨k1, k2, k3⟩ := vx_keep (A1 := va_A ws H.size) h0 e1 hS (fun q _ h => hu q h) hu hL hF
    obtain ⟨t2, a1, b1⟩ := kx ce q T'.heap (locs ++ L) (by rw [e1]; exact hP1) k3 (by rw [e1]; exact hce) hcv hcl T' rfl X'
    exact ⟨t2, st.trans a1, b1⟩
/-- 'throw new nm(text)' in a method without handlers -/
theorem pg_thr {Qc : Array Value → State → Outcome → State → Prop} {ik is ic i MC MS : Nat} {text : String} (hexec : p.tables.exec = Jvm.exec) (hb : c.code = cc) (hl : l.stackTraces = false) (hown : s.vm.findClass RX4 = some m.cls) (hcls : Bundle.fit nm = true)
    (hk : (Cond.classLink RX4 ik nm).before args s = true) (hini : (Cond.initialized nm).before args s = true) (hi : pg_txt[i]? = some (is, text)) (h1 : ∀ w ∈ (vx_atS RX4 ic nm ["java/lang/RuntimeException", "java/lang/Exception"]).filter goodWord, w.before args s = true)
    (h2 : ∀ w ∈ (vx_atS RX4 ic nm ["java/lang/RuntimeException", "java/lang/Exception"]).filter (fun w => !goodWord w), w ∈ pg_nw)
    (hgood : ∀ w ∈ Cond.classLink RX4 ik nm :: Cond.initialized nm :: vx_atS RX4 ic nm ["java/lang/RuntimeException", "java/lang/Exception"], vx_ot w = true)
    (hE : pg_Env A s s.heap) (hP : va_P D vwCl ws H) (hS : va_S A s.heap H locs) (hA : ∀ q, s.heap.size ≤ q → A q) (hsize : ls.size = c.maxLocals)
    (d0 : decode cc pc = .ok (.new ik, 3)) (d3 : decode cc (pc + 3) = .ok (.dup, 1)) (d4 : decode cc (pc + 4) = .ok (.ldc is, 2)) (d6 : decode cc (pc + 6) = .ok (.invokespecial ic, 3)) (d9 : decode cc (pc + 9) = .ok (.athrow, 1))
    (hout : ∀ x ∈ c.exceptionTable.toList, False) (hRf : 5 < R.frames) (hRl : (rest.map fun v => v.category).sum + 82 ≤ R.locals) (hRc : cells + 1 ≤ R.cells) (hRs : slots + 6 ≤ R.slots) (hlocks : meth.locks = false) (hc : cells + 1 ≤ MC) (hs : slots + 6 ≤ MS) :
    W p l e R s m args below meth c H locs cells slots (vx_MQ below Qc (pg_X D ws A nm) args s MC MS A) (F0 m pc ls rest) := by
  obtain ⟨hU, hN, hca, -, f, hf⟩ := hE
  refine vx_throwS (own := RX4) (names := ["java/lang/RuntimeException", "java/lang/Exception"]) (ik := ik) (ic := ic) (text := text) (sa := f i) (A := A) hexec hb hl hown hcls (by decide +kernel) hk hini (hf i _ hi) (vx_hat h1 h2 (fun w hw => va_Nw.use ?_ (hca w hw))) hgood hU hN hS hsize d0 d3 d4 d6 d9 (fun x hx => (hout x hx).elim) hRf hRl hRc hRs hlocks (fun t hal hz hk => ?_) hS.2.2 hc hs
  · simp only [pg_nw, List.mem_cons, List.not_mem_nil, or_false] at hw
    rcases hw with rfl | rfl | rfl | rfl | rfl | rfl <;> rfl
  · exact ⟨rfl, hP.kept (fun k q hq => hk q.1 (hP k q hq).lt), Nat.le_trans hS.1 hz, fun q h1 h2 => (hk q (Nat.lt_of_lt_of_le h1 hS.1)).trans (hS.2.1 q h1 h2)⟩
end PGC
section PGA
variable {p : Program} {l : Launch} {e : Env} {R : Room} {s : State} {m : MethodId} {args : Array Value} {below : List Frame} {meth : Method} {c : Code} {H : Heap} {locs : List Loc} {cells slots : Nat} {Q : State → Prop}
variable {cc : ByteArray} {pc : Nat} {ls : Array Slot} {rest : List Value} {D : va_G} {cl : List vw_C} {A : Nat → Prop} {a : Nat} {tys : List (ClassId × FieldType)} {ws : va_W} {H0 : Heap}
theorem pg_ild (hexec : p.tables.exec = Jvm.exec) (hb : c.code = cc) (hK : va_K D cl tys s) (hP : va_P D cl ws H) (q0 t0 : Nat) {cA : ClassId} {n j : Nat} {f : Nat → Int32} (ha : ws[q0]? = some (a, .inl (cA, n, .inl f))) (ht : tys[t0]? = some (cA, .int)) (hj : j < n) (hn : n < 2 ^ 31) (hdg : decode cc pc = .ok (.iaload, 1))
    (kk : W p l e R s m args below meth c H locs cells slots Q (F0 m (pc + 1) ls (.int (f j) :: rest))) : W p l e R s m args below meth c H locs cells slots Q (F0 m pc ls (.int (nI j) :: .ref a :: rest)) :=
  va_iald hexec hb hK hP q0 t0 ha ht (vp_in_nI hj hn) hdg (by rw [nI_clamp (Nat.lt_trans hj hn)]; exact kk)
theorem pg_zld (hexec : p.tables.exec = Jvm.exec) (hb : c.code = cc) (hK : va_K D cl tys s) (hP : va_P D cl ws H) (q0 t0 : Nat) {cA : ClassId} {n j : Nat} {f : Nat → Int32} (ha : ws[q0]? = some (a, .inl (cA, n, .inl f))) (ht : tys[t0]? = some (cA, .boolean)) (hj : j < n) (hn : n < 2 ^ 31) (hdg : decode cc pc = .ok (.baload, 1))
    (kk : W p l e R s m args below meth c H locs cells slots Q (F0 m (pc + 1) ls (.int (f j) :: rest))) : W p l e R s m args below meth c H locs cells slots Q (F0 m pc ls (.int (nI j) :: .ref a :: rest)) :=
  va_zald hexec hb hK hP q0 t0 ha ht (vp_in_nI hj hn) hdg (by rw [nI_clamp (Nat.lt_trans hj hn)]; exact kk)
theorem pg_ist (hexec : p.tables.exec = Jvm.exec) (hb : c.code = cc) (hK : va_K D cl tys s) (hP : va_P D cl ws H) (hD : va_D A ws) (hS : va_S A H0 H locs) (q0 t0 : Nat) {cA : ClassId} {n j : Nat} {f : Nat → Int32} (ha : ws[q0]? = some (a, .inl (cA, n, .inl f))) (ht : tys[t0]? = some (cA, .int)) {x : Int32} (hj : j < n) (hn : n < 2 ^ 31) (hdg : decode cc pc = .ok (.iastore, 1))
    (kk : ∀ (H1 : Heap) (locs1 : List Loc), va_P D cl (ws.set q0 (a, .inl (cA, n, .inl (upd f j x)))) H1 → va_D A (ws.set q0 (a, .inl (cA, n, .inl (upd f j x)))) → va_S A H0 H1 locs1 → W p l e R s m args below meth c H1 locs1 cells slots Q (F0 m (pc + 1) ls rest)) : W p l e R s m args below meth c H locs cells slots Q (F0 m pc ls (.int x :: .int (nI j) :: .ref a :: rest)) :=
  va_iast hexec hb hK hP hD hS q0 t0 ha ht (vp_in_nI hj hn) hdg (by rw [nI_clamp (Nat.lt_trans hj hn)]; exact kk)
theorem pg_zst (hexec : p.tables.exec = Jvm.exec) (hb : c.code = cc) (hK : va_K D cl tys s) (hP : va_P D cl ws H) (hD : va_D A ws) (hS : va_S A H0 H locs) (q0 t0 : Nat) {cA : ClassId} {n j : Nat} {f : Nat → Int32} (ha : ws[q0]? = some (a, .inl (cA, n, .inl f))) (ht : tys[t0]? = some (cA, .boolean)) {x : Int32} (hj : j < n) (hn : n < 2 ^ 31) (hx : vp_nar .boolean x = x) (hdg : decode cc pc = .ok (.bastore, 1))
    (kk : ∀ (H1 : Heap) (locs1 : List Loc), va_P D cl (ws.set q0 (a, .inl (cA, n, .inl (upd f j x)))) H1 → va_D A (ws.set q0 (a, .inl (cA, n, .inl (upd f j x)))) → va_S A H0 H1 locs1 → W p l e R s m args below meth c H1 locs1 cells slots Q (F0 m (pc + 1) ls rest)) : W p l e R s m args below meth c H locs cells slots Q (F0 m pc ls (.int x :: .int (nI j) :: .ref a :: rest)) :=
  va_zast hexec hb hK hP hD hS q0 t0 ha ht (vp_in_nI hj hn) hdg (by rw [nI_clamp (Nat.lt_trans hj hn), hx]; exact kk)
end PGA
end
section
/-- a sum of the first n -/
def pg_sm (f : Nat → Int32) : Nat → Int32
  | 0 => 0
  | n + 1 => pg_sm f n + f n
theorem pg_sm_cong {f g : Nat → Int32} : ∀ {n : Nat}, (∀ k, k < n → f k = g k) → pg_sm f n = pg_sm g n
  | 0, _ => rfl
  | n + 1, h => by rw [pg_sm, pg_sm, pg_sm_cong (fun k hk => h k (by omega)), h n (by omega)]
/-- in a range -/
def pg_in (x lo hi : Int32) : Bool := !(decide (x < lo)) && decide (x ≤ hi)
/-- a number below a count -/
def pg_nb (x n : Int32) : Bool := !(decide (x < 0)) && !(decide (n ≤ x))
def pg_le (x y : Int32) : Bool := decide (x ≤ y)
def pg_eq (x y : Int32) : Bool := decide (x = y)
theorem pg_in_t {x lo hi : Int32} (h1 : ¬ x < lo) (h2 : x ≤ hi) : pg_in x lo hi = true := by simp only [pg_in, decide_eq_false h1, decide_eq_true h2]; rfl
theorem pg_in_f1 {x lo hi : Int32} (h1 : x < lo) : pg_in x lo hi = false := by simp only [pg_in, decide_eq_true h1]; rfl
theorem pg_in_f2 {x lo hi : Int32} (h2 : ¬ x ≤ hi) : pg_in x lo hi = false := by simp only [pg_in, decide_eq_false h2, Bool.and_false]
theorem pg_in_e {x lo hi : Int32} (h : pg_in x lo hi = true) : ¬ x < lo ∧ x ≤ hi := by
  simp only [pg_in, Bool.and_eq_true, Bool.not_eq_true', decide_eq_false_iff_not, decide_eq_true_eq] at h
  exact h
theorem pg_nb_t {x n : Int32} (h1 : ¬ x < 0) (h2 : ¬ n ≤ x) : pg_nb x n = true := by simp only [pg_nb, decide_eq_false h1, decide_eq_false h2]; rfl
theorem pg_nb_f1 {x n : Int32} (h1 : x < 0) : pg_nb x n = false := by simp only [pg_nb, decide_eq_true h1]; rfl
theorem pg_nb_f2 {x n : Int32} (h2 : n ≤ x) : pg_nb x n = false := by simp only [pg_nb, decide_eq_true h2, Bool.not_true, Bool.and_false]
theorem pg_nb_e {x n : Int32} (h : pg_nb x n = true) : ¬ x < 0 ∧ ¬ n ≤ x := by
  simp only [pg_nb, Bool.and_eq_true, Bool.not_eq_true', decide_eq_false_iff_not] at h
  exact h
theorem pg_le_t {x y : Int32} (h : x ≤ y) : pg_le x y = true := decide_eq_true h
theorem pg_le_f {x y : Int32} (h : ¬ x ≤ y) : pg_le x y = false := decide_eq_false h
theorem pg_eq_t {x y : Int32} (h : x = y) : pg_eq x y = true := decide_eq_true h
theorem pg_eq_f {x y : Int32} (h : ¬ x = y) : pg_eq x y = false := decide_eq_false h
theorem pg_le_e {x y : Int32} (h : pg_le x y = true) : x ≤ y := of_decide_eq_true h
theorem pg_le_n {x y : Int32} (h : pg_le x y = false) : ¬ x ≤ y := of_decide_eq_false h
theorem pg_eq_e {x y : Int32} (h : pg_eq x y = true) : x = y := of_decide_eq_true h
theorem pg_eq_n {x y : Int32} (h : pg_eq x y = false) : ¬ x = y := of_decide_eq_false h
theorem pg_nb_nI {x : Int32} {n : Nat} (hn : n < 2 ^ 31) (h : pg_nb x (nI n) = true) : ∃ j : Nat, j < n ∧ x = nI j := by
  obtain ⟨h1, h2⟩ := pg_nb_e h
  rcases pk_ix x hn with q | q | q
  · exact absurd q h1
  · exact absurd q h2
  · exact q
/-! ## what the sums are -/
/-- parts whose day is later than d -/
def pg_after (r : Nat → Nat → Int32) (d : Int32) : Int32 := pg_sm (fun k => if r 1 k ≤ d then 0 else r 0 k) 4
/-- the open claims' amounts -/
def pg_open (r : Nat → Nat → Int32) (n : Nat) : Int32 := pg_sm (fun k => if r 10 k = -1 then r 8 k else 0) n
/-- what is settled of a kind at its least sum or more -/
def pg_set (r : Nat → Nat → Int32) (n : Nat) (k le : Int32) : Int32 := pg_sm (fun j => if r 7 j = k then (if r 10 j = -1 then 0 else if le ≤ r 10 j then r 10 j else 0) else 0) n
def pg_past (r : Nat → Nat → Int32) (k : Nat) (s : Int32) : Int32 := if r 4 k = 0 then (if s ≤ r 3 k then 0 else s - r 3 k) else (if r 3 k ≤ s then s else 0)
def pg_min (x y : Int32) : Int32 := if y < x then y else x
def pg_max (x y : Int32) : Int32 := if x < y then y else x
def pg_due (r : Nat → Nat → Int32) (n : Nat) (k : Nat) : Int32 := pg_min (pg_past r k (pg_set r n (nI k) (r 2 k))) (r 5 k)
def pg_all (r : Nat → Nat → Int32) (n : Nat) : Int32 := pg_sm (pg_due r n) 3
def pg_out (u : pg_St) (n : Nat) : Int32 := pg_all u.2 n - u.1 7 - u.1 8
def pg_kept (u : pg_St) (n : Nat) (d : Int32) : Int32 := pg_after u.2 d + pg_open u.2 n
/-- v with x at place k -/
def pg_free (u : pg_St) (n : Nat) (d : Int32) : pg_St := if u.1 5 ≤ pg_kept u n d then u else (upd (upd u.1 6 (u.1 6 + (u.1 5 - pg_kept u n d))) 5 (pg_kept u n d), u.2)
def pg_back (u : pg_St) (n : Nat) : Int32 := pg_min (pg_out u n) (u.1 5)
def pg_ret (u : pg_St) (n : Nat) : pg_St := (upd (upd u.1 5 (u.1 5 - pg_back u n)) 7 (u.1 7 + pg_back u n), u.2)
def pg_pay (u : pg_St) (n : Nat) (d : Int32) : pg_St := pg_free (pg_ret u n) n d
def pg_row (r : Nat → Nat → Int32) (j : Nat) (f : Nat → Int32) : Nat → Nat → Int32 := fun i => if i = j then f else r i
def pg_owe (u : pg_St) (n : Nat) (x : Int32) : pg_St := (upd (upd (upd u.1 9 (u.1 9 + x)) 8 (u.1 8 + pg_min x (pg_out u n))) 6 (u.1 6 + (x - pg_min x (pg_out u n))), u.2)
/-- the sum of a meeting of the years i to j - 1, and who is met then -/
def pg_msum (r : Nat → Nat → Int32) (i j : Nat) : Int32 := pg_sm (fun k => if k < i then 0 else if r 13 k = 0 then r 12 k else 0) j
def pg_met (r : Nat → Nat → Int32) (i j : Nat) : Nat → Int32 := fun k => if i ≤ k ∧ k < j then 1 else r 13 k
def pg_col (v : Nat → Int32) (d : Int32) : Int32 := if d ≤ v 2 then (if -(v 2) ≤ d then 0 else d + v 2) else d - v 2
end
