abbrev pg_St : Type := (Nat → Int32) × (Nat → Nat → Int32)
abbrev pg_ty (cI cZ : ClassId) : List (ClassId × FieldType) := [(cI, .int), (cZ, .boolean)]
/-- the world of a PegBox: scalars u.1, rows u.2 -/
def pg_wB (cI cZ : ClassId) (a : Nat → Nat) (u : pg_St) : va_W := [(a 0, .inr (4, [.ref (a 1), .ref (a 2), .ref (a 3), .ref (a 4), .int (u.1 0), .int (u.1 1), .int (u.1 2), .int (u.1 3), .int (u.1 4), .int (u.1 5), .int (u.1 6), .int (u.1 7), .int (u.1 8), .int (u.1 9)])), (a 1, .inr (2, [.ref (a 5), .ref (a 6)])), (a 2, .inr (3, [.ref (a 7), .ref (a 8), .ref (a 9), .ref (a 10), .ref (a 11)])), (a 3, .inr (0, [.ref (a 12), .ref (a 13), .ref (a 14), .ref (a 15), .int (u.1 10)])), (a 4, .inr (1, [.ref (a 16), .ref (a 17), .ref (a 18), .int (u.1 11), .int (u.1 12), .int (u.1 13), .int (u.1 14), .int (u.1 15)])), (a 5, .inl (cI, 4, .inl (u.2 0))), (a 6, .inl (cI, 4, .inl (u.2 1))), (a 7, .inl (cI, 3, .inl (u.2 2))), (a 8, .inl (cI, 3, .inl (u.2 3))), (a 9, .inl (cZ, 3, .inl (u.2 4))), (a 10, .inl (cI, 3, .inl (u.2 5))), (a 11, .inl (cI, 3, .inl (u.2 6))), (a 12, .inl (cI, 20, .inl (u.2 7))), (a 13, .inl (cI, 20, .inl (u.2 8))), (a 14, .inl (cI, 20, .inl (u.2 9))), (a 15, .inl (cI, 20, .inl (u.2 10))), (a 16, .inl (cI, 4, .inl (u.2 11))), (a 17, .inl (cI, 4, .inl (u.2 12))), (a 18, .inl (cZ, 4, .inl (u.2 13)))]
/-- the texts of the class's throws -/
def pg_txt : List (Nat × String) := [(201, "there is no such number"), (206, "an argument is out of range"), (209, "the claim is settled"), (211, "the sale is closed"), (213, "the sale is not closed"), (126, "the day would be too late"), (134, "the last day of the kind is past"), (139, "there are as many claims as there can be"), (154, "there is no offer"), (162, "the earn-out was sped up"), (167, "all years were told")]
abbrev pg_ia : String := "java/lang/IllegalArgumentException"
abbrev pg_is : String := "java/lang/IllegalStateException"
abbrev pg_io : String := "java/lang/IndexOutOfBoundsException"
/-- the words of a throw that no list of words holds -/
def pg_nw : List Cond := [.castable pg_ia pg_ia, .castable pg_is pg_is, .castable pg_io pg_io, .declares (Bundle.initS "java/lang/RuntimeException"), .declares (Bundle.initS "java/lang/Exception"), .declares (Bundle.initS "java/lang/Throwable")]
theorem pg_warmD {x : MethodName} {s U : State} (hW : s.WarmedH U.vm) (hZ : va_Nw (.declares x) s) : va_Nw (.declares x) U := va_tabs rfl (rfl : (s.setVm U.vm).vm = U.vm) (by rw [Cond.declares_setVm hW.alike]; exact hZ)
/-- what a throw and its catching need beside the words -/
def pg_Env (A : Nat → Prop) (U : State) (H : Heap) : Prop :=
  vx_Zq Bundle.tN "UNASSIGNED_STACK" Bundle.steD A U H ∧ vx_Zq Bundle.tN "SUPPRESSED_SENTINEL" Bundle.listD A U H ∧
  (∀ w ∈ pg_nw, va_Nw w U) ∧
  (∀ q ∈ [(pg_ia, pg_is), (pg_ia, pg_io), (pg_is, pg_ia), (pg_is, pg_io), (pg_io, pg_ia), (pg_io, pg_is)], va_Nc q.1 q.2 U) ∧
  ∃ f : Nat → Nat, ∀ (i : Nat) (q : Nat × String), pg_txt[i]? = some q → vk_R "PegBox" q.1 q.2 (f i) U
theorem pg_Env.down {A B : Nat → Prop} {s U : State} {H0 H : Heap} {locs : List Loc} (h : pg_Env A s H0) (hW : s.WarmedH U.vm) (hS : va_S A H0 H locs) (hAB : ∀ q, B q → A q) : pg_Env B U H := by
  obtain ⟨h1, h2, h3, h4, f, h5⟩ := h
  refine ⟨vx_Zq.narrow (vx_Zq.moved hW.alike (h1.kept hS.2.1)) hAB, vx_Zq.narrow (vx_Zq.moved hW.alike (h2.kept hS.2.1)) hAB, fun w hw => ?_, fun q hq => va_Nc.moved hW.alike (h4 q hq), f, fun i q hq => vk_R.warm hW (h5 i q hq)⟩
  have h := h3 w hw
  simp only [pg_nw, List.mem_cons, List.not_mem_nil, or_false] at hw
  rcases hw with rfl | rfl | rfl | rfl | rfl | rfl
  · exact va_Nw.warmC hW h
  · exact va_Nw.warmC hW h
  · exact va_Nw.warmC hW h
  · exact pg_warmD hW h
  · exact pg_warmD hW h
  · exact pg_warmD hW h
/-- a method's start over the world ws; 'pg_T': one that may throw -/
def pg_B (D : va_G) (tys : List (ClassId × FieldType)) (ws : va_W) (sz : Nat) (U : State) : Prop := U.heap.size = sz ∧ va_P D vwCl ws U.heap ∧ va_K D vwCl tys U ∧ va_D (fun _ => True) ws
def pg_T (D : va_G) (tys : List (ClassId × FieldType)) (ws : va_W) (sz : Nat) (U : State) : Prop := pg_B D tys ws sz U ∧ pg_Env (va_A ws sz) U U.heap
/-- a method's end -/
def pg_E {S : Type} (D : va_G) (tys : List (ClassId × FieldType)) (A : Nat → Prop) (w : S → va_W) (u : S) (t : State) : Prop := va_P D vwCl (w u) t.heap ∧ va_K D vwCl tys t ∧ va_D A (w u)
/-- thrown: the class nm, the world as it was -/
def pg_X (D : va_G) (ws : va_W) (A : Nat → Prop) (nm : String) : String → State → State → Prop := fun E st t => E = nm ∧ va_P D vwCl ws t.heap ∧ va_F A st t
/-- .. it never returns -/
def pg_No : Array Value → State → Outcome → State → Prop := fun _ _ _ _ => False
theorem pg_B.blind {D : va_G} {tys : List (ClassId × FieldType)} {ws : va_W} {sz : Nat} {As : List Value} : FrameBlind (va_Pc As (pg_B D tys ws sz)) := fun a U g mk q => by
  obtain ⟨q0, q1, qP, qK, qD⟩ := q
  exact ⟨q0, q1, qP, va_K.moved (u := U) (U := U.calling g mk a) (Vm.Alike.refl U.vm) qK, qD⟩
theorem pg_Env.same {A : Nat → Prop} {s U : State} {H : Heap} (h : pg_Env A s H) (hv : s.vm = U.vm) : pg_Env A U H := by
  have hW : s.WarmedH U.vm := by rw [← hv]; exact State.WarmedH.refl s
  exact h.down hW va_S.rf (fun _ q => q)
theorem pg_T.blind {D : va_G} {tys : List (ClassId × FieldType)} {ws : va_W} {sz : Nat} {As : List Value} : FrameBlind (va_Pc As (pg_T D tys ws sz)) := fun a U g mk q => by
  obtain ⟨q0, q1, q2⟩ := q
  obtain ⟨r0, r1⟩ := pg_B.blind (As := As) a U g mk ⟨q0, q1⟩
  exact ⟨r0, r1, pg_Env.same (s := U) (U := U.calling g mk a) q2 rfl⟩
section PGC
variable {p : Program} {l : Launch} {e : Env} {R : Room} {s : State} {m : MethodId} {args : Array Value} {below : List Frame} {meth : Method} {c : Code} {H : Heap} {locs : List Loc} {cells slots : Nat} {Q : State → Prop}
variable {y : MethodName} {bytes cc : ByteArray} {maxL nL n index mc ms : Nat} {ret : Option FieldType} {wy : List Cond} {rm : Room} {Ts : List Cond} {own C : String} {b : Addr} {As rest st0 : List Value}
variable {D : va_G} {tys : List (ClassId × FieldType)} {ws : va_W} {A : Nat → Prop} {H0 : Heap} {pc : Nat} {ls : Array Slot} {nm : String}
theorem pg_up (hD : va_D A ws) (hS : va_S A H0 H locs) (hA : ∀ q, H0.size ≤ q → A q) : ∀ q, va_A ws H.size q → A q := by
  intro q h
  rcases h with ⟨k, e, h⟩ | h
  · exact hD.2 k (q, e) h
  · exact hA q (Nat.le_trans hS.1 h)
theorem pg_pre (hP : va_P D vwCl ws H) (hD : va_D A ws) (hK : va_K D vwCl tys s) {U : State} (hU : U.heap = H) (hW : s.WarmedH U.vm) : pg_B D tys ws H.size U := ⟨by rw [hU], by rw [hU]; exact hP, va_K.moved hW.alike hK, hD.weaken (fun _ _ _ _ => trivial)⟩
/-- a call that returns an int, over the whole world -/
theorem pg_i {S : Type} {post : Int32 → S → Prop} {w : S → va_W} {a : Array Value} (hr : va_Run p l e R s m args below meth c H locs cells slots mc ms (F0 m pc ls st0) rest (va_Qi post (pg_E D tys (va_A ws H.size) w) (va_A ws H.size) a) (va_A ws H.size)) (hD : va_D A ws) (hS : va_S A H0 H locs) (hA : ∀ q, H0.size ≤ q → A q)
    (kk : ∀ (r : Int32) (u : S) (H : Heap) (locs : List Loc), post r u → va_P D vwCl (w u) H → va_D A (w u) → va_S A H0 H locs → W p l e R s m args below meth c H locs (cells + mc) (slots + ms) Q (F0 m (pc + 3) ls (.int r :: rest))) : W p l e R s m args below meth c H locs cells slots Q (F0 m pc ls st0) := by
  have hu := pg_up hD hS hA
  refine va_calli hr hS (fun q _ h => hu q h) hu (fun r u t H1 locs1 ht hvm hw hB hz1 hk1 hS1 => ?_)
  obtain ⟨hP1, hK1, hD1⟩ := hB
  rw [ht] at hP1
  exact kk r u H1 locs1 hw hP1 (hD1.weaken (fun _ q _ h => hu q.1 h)) hS1
theorem pg_v {S : Type} {post : S → Prop} {w : S → va_W} {a : Array Value} (hr : va_Run p l e R s m args below meth c H locs cells slots mc ms (F0 m pc ls st0) rest (va_Qv post (pg_E D tys (va_A ws H.size) w) (va_A ws H.size) a) (va_A ws H.size)) (hD : va_D A ws) (hS : va_S A H0 H locs) (hA : ∀ q, H0.size ≤ q → A q)
    (kk : ∀ (u : S) (H : Heap) (locs : List Loc), post u → va_P D vwCl (w u) H → va_D A (w u) → va_S A H0 H locs → W p l e R s m args below meth c H locs (cells + mc) (slots + ms) Q (F0 m (pc + 3) ls rest)) : W p l e R s m args below meth c H locs cells slots Q (F0 m pc ls st0) := by
  have hu := pg_up hD hS hA
  refine va_callv hr hS (fun q _ h => hu q h) hu (fun u t H1 locs1 ht hvm hw hB hz1 hk1 hS1 => ?_)
  obtain ⟨hP1, hK1, hD1⟩ := hB
  rw [ht] at hP1
  exact kk u H1 locs1 hw hP1 (hD1.weaken (fun _ q _ h => hu q.1 h)) hS1
/-- .. with the answer and the world named -/
theorem pg_iE {S : Type} {F : Int32} {G : S} {w : S → va_W} {a : Array Value} (hr : va_Run p l e R s m args below meth c H locs cells slots mc ms (F0 m pc ls st0) rest (va_Qi (fun r u => r = F ∧ u = G) (pg_E D tys (va_A ws H.size) w) (va_A ws H.size) a) (va_A ws H.size)) (hD : va_D A ws) (hS : va_S A H0 H locs) (hA : ∀ q, H0.size ≤ q → A q)
    (kk : ∀ (H : Heap) (locs : List Loc), va_P D vwCl (w G) H → va_D A (w G) → va_S A H0 H locs → W p l e R s m args below meth c H locs (cells + mc) (slots + ms) Q (F0 m (pc + 3) ls (.int F :: rest))) : W p l e R s m args below meth c H locs cells slots Q (F0 m pc ls st0) :=
  pg_i hr hD hS hA (fun r u H locs hw => by obtain ⟨h1, h2⟩ := hw; rw [h1, h2]; exact kk H locs)
theorem pg_vE {S : Type} {G : S} {w : S → va_W} {a : Array Value} (hr : va_Run p l e R s m args below meth c H locs cells slots mc ms (F0 m pc ls st0) rest (va_Qv (fun u => u = G) (pg_E D tys (va_A ws H.size) w) (va_A ws H.size) a) (va_A ws H.size)) (hD : va_D A ws) (hS : va_S A H0 H locs) (hA : ∀ q, H0.size ≤ q → A q)
    (kk : ∀ (H : Heap) (locs : List Loc), va_P D vwCl (w G) H → va_D A (w G) → va_S A H0 H locs → W p l e R s m args below meth c H locs (cells + mc) (slots + ms) Q (F0 m (pc + 3) ls rest)) : W p l e R s m args below meth c H locs cells slots Q (F0 m pc ls st0) :=
  pg_v hr hD hS hA (fun u H locs hw => by rw [show u = G from hw]; exact kk H locs)
theorem pg_vU {ws1 : va_W} {a : Array Value} (hr : va_Run p l e R s m args below meth c H locs cells slots mc ms (F0 m pc ls st0) rest (va_Qv (fun _ : Unit => True) (pg_E D tys (va_A ws H.size) (fun _ : Unit => ws1)) (va_A ws H.size) a) (va_A ws H.size)) (hD : va_D A ws) (hS : va_S A H0 H locs) (hA : ∀ q, H0.size ≤ q → A q)
    (kk : ∀ (H : Heap) (locs : List Loc), va_P D vwCl ws1 H → va_D A ws1 → va_S A H0 H locs → W p l e R s m args below meth c H locs (cells + mc) (slots + ms) Q (F0 m (pc + 3) ls rest)) : W p l e R s m args below meth c H locs cells slots Q (F0 m pc ls st0) :=
  pg_v hr hD hS hA (fun _ H locs _ => kk H locs)
/-- the two calls' starts -/
theorem pg_rV {Qc : Array Value → State → Outcome → State → Prop} {free : Addr → Prop} (S : CallFix p m c cc nL s args Ts own) (hM : Met l y wy rm (va_Pc (.ref b :: As) (pg_B D tys ws H.size)) Qc mc ms free) (cw : CallW R s args own C index y bytes maxL ret wy rm mc ms n) (hK : va_K D vwCl tys s) (hP : va_P D vwCl ws H) (hD : va_D A ws) (q0 : Nat) {ci : Nat} {cq : vw_C} {fs : List Value} (hc : vwCl[ci]? = some cq) (hC : cq.1 = C) (he : ws[q0]? = some (b, .inr (ci, fs)))
    (hn : As.length = n) (hsize : ls.size = nL) (hst : st0 = As.reverse ++ .ref b :: rest) (hW : (rest.map fun v => v.category).sum ≤ 8) (hdg : decode cc pc = .ok (.invokevirtual index, 3)) (hf : cells + mc ≤ R.cells ∧ slots + ms ≤ R.slots) :
    va_Run p l e R s m args below meth c H locs cells slots mc ms (F0 m pc ls st0) rest (Qc (Value.ref b :: As).toArray) free := by
  subst hC
  exact va_runV S hM cw ⟨pg_B.blind, va_recv hK hP hc he, fun U hU hW => ⟨rfl, pg_pre hP hD hK hU hW⟩⟩ rfl hn hsize hst (lv_room hW) hdg hf
theorem pg_rS {Qc : Array Value → State → Outcome → State → Prop} {free : Addr → Prop} (S : CallFix p m c cc nL s args Ts own) (hM : Met l y wy rm (va_Pc As (pg_B D tys ws H.size)) Qc mc ms free) (cw : CallB R s args own index y bytes maxL ret wy rm mc ms n ∧ (Cond.static y).before args s = true) (hK : va_K D vwCl tys s) (hP : va_P D vwCl ws H) (hD : va_D A ws)
    (hn : As.length = n) (hsize : ls.size = nL) (hst : st0 = As.reverse ++ rest) (hW : (rest.map fun v => v.category).sum ≤ 8) (hdg : decode cc pc = .ok (.invokestatic index, 3)) (hf : cells + mc ≤ R.cells ∧ slots + ms ≤ R.slots) :
    va_Run p l e R s m args below meth c H locs cells slots mc ms (F0 m pc ls st0) rest (Qc As.toArray) free :=
  va_runS S hM cw ⟨pg_B.blind, fun U hU hW => ⟨rfl, pg_pre hP hD hK hU hW⟩⟩ rfl hn hsize hst (lv_room hW) hdg hf
theorem pg_rI {Qc : Array Value → State → Outcome → State → Prop} {free : Addr → Prop} (S : CallFix p m c cc nL s args Ts own) (hM : Met l y wy rm (va_Pc (.ref b :: As) (pg_B D tys ws H.size)) Qc mc ms free) (cw : CallB R s args own index y bytes maxL none wy rm mc ms n ∧ y.name = "<init>" ∧ (Cond.instanceMethod y).before args s = true) (hK : va_K D vwCl tys s) (hP : va_P D vwCl ws H) (hD : va_D A ws)
    (hn : As.length = n) (hsize : ls.size = nL) (hst : st0 = As.reverse ++ .ref b :: rest) (hW : (rest.map fun v => v.category).sum ≤ 8) (hdg : decode cc pc = .ok (.invokespecial index, 3)) (hf : cells + mc ≤ R.cells ∧ slots + ms ≤ R.slots) :
    va_Run p l e R s m args below meth c H locs cells slots mc ms (F0 m pc ls st0) rest (Qc (Value.ref b :: As).toArray) free :=
  va_runI S hM cw ⟨pg_B.blind, fun U hU hW => ⟨rfl, pg_pre hP hD hK hU hW⟩⟩ rfl hn hsize hst (lv_room hW) hdg hf
/-- a call that throws -/
theorem pg_preT (hP : va_P D vwCl ws H) (hD : va_D A ws) (hS : va_S A s.heap H locs) (hA : ∀ q, s.heap.size ≤ q → A q) (hE : pg_Env A s s.heap) (hK : va_K D vwCl tys s) {U : State} (hU : U.heap = H) (hW : s.WarmedH U.vm) : pg_T D tys ws H.size U :=
  ⟨pg_pre hP hD hK hU hW, by rw [hU]; exact hE.down hW hS (pg_up hD hS hA)⟩
theorem pg_xV {free : Addr → Prop} {XC : String → State → State → Prop} (S : CallFix p m c cc nL s args Ts own) (hM : vx_Met l y wy rm (va_Pc (.ref b :: As) (pg_T D tys ws H.size)) pg_No XC mc ms free) (cw : CallW R s args own C index y bytes maxL ret wy rm mc ms n) (hK : va_K D vwCl tys s) (hP : va_P D vwCl ws H) (hD : va_D A ws) (hS : va_S A s.heap H locs) (hA : ∀ q, s.heap.size ≤ q → A q) (hE : pg_Env A s s.heap) (q0 : Nat) {ci : Nat} {cq : vw_C} {fs : List Value} (hc : vwCl[ci]? = some cq) (hC : cq.1 = C) (he : ws[q0]? = some (b, .inr (ci, fs)))
    (hn : As.length = n) (hsize : ls.size = nL) (hst : st0 = As.reverse ++ .ref b :: rest) (hW : (rest.map fun v => v.category).sum ≤ 8) (hdg : decode cc pc = .ok (.invokevirtual index, 3)) (hf : cells + mc ≤ R.cells ∧ slots + ms ≤ R.slots) :
    vx_Run p l e R s m args below meth c H locs cells slots mc ms (F0 m pc ls st0) rest (pg_No (Value.ref b :: As).toArray) XC free := by
  subst hC
  exact vx_runV S hM cw ⟨pg_T.blind, va_recv hK hP hc he, fun U hU hW => ⟨rfl, pg_preT hP hD hS hA hE hK hU hW⟩⟩ rfl hn hsize hst (lv_room hW) hdg hf
theorem pg_xS {free : Addr → Prop} {XC : String → State → State → Prop} (S : CallFix p m c cc nL s args Ts own) (hM : vx_Met l y wy rm (va_Pc As (pg_T D tys ws H.size)) pg_No XC mc ms free) (cw : CallB R s args own index y bytes maxL ret wy rm mc ms n ∧ (Cond.static y).before args s = true) (hK : va_K D vwCl tys s) (hP : va_P D vwCl ws H) (hD : va_D A ws) (hS : va_S A s.heap H locs) (hA : ∀ q, s.heap.size ≤ q → A q) (hE : pg_Env A s s.heap)
    (hn : As.length = n) (hsize : ls.size = nL) (hst : st0 = As.reverse ++ rest) (hW : (rest.map fun v => v.category).sum ≤ 8) (hdg : decode cc pc = .ok (.invokestatic index, 3)) (hf : cells + mc ≤ R.cells ∧ slots + ms ≤ R.slots) :
    vx_Run p l e R s m args below meth c H locs cells slots mc ms (F0 m pc ls st0) rest (pg_No As.toArray) XC free :=
  vx_runS S hM cw ⟨pg_T.blind, fun U hU hW => ⟨rfl, pg_preT hP hD hS hA hE hK hU hW⟩⟩ rfl hn hsize hst (lv_room hW) hdg hf
/-- .. and its throw goes through to the caller -/
theorem pg_thru {Qc : Array Value → State → Outcome → State → Prop} {a : Array Value} {MC MS : Nat} (hr : vx_Run p l e R s m args below meth c H locs cells slots mc ms (F0 m pc ls st0) rest (pg_No a) (pg_X D ws (va_A ws H.size) nm) (va_A ws H.size)) (hD : va_D A ws) (hS : va_S A s.heap H locs) (hA : ∀ q, s.heap.size ≤ q → A q) (hout : ∀ x ∈ c.exceptionTable.toList, False) (hlocks : meth.locks = false) (hc : cells + mc ≤ MC) (hs : slots + ms ≤ MS) :
    W p l e R s m args below meth c H locs cells slots (vx_MQ below Qc (pg_X D ws A nm) args s MC MS A) (F0 m pc ls st0) := by
  intro T hT X
  have hu := pg_up hD hS hA
  rcases hr T hT X with ⟨v, st₀, t, T', L, h0, X', hL, e1, e2, hq, st⟩ | ⟨q, st₀, t, T', L, E, ce, h0, X', hL, e1, e2, ⟨hnm, hP1, hF⟩, hce, hcv, hcl, st⟩
  · exact hq.elim
  · obtain ⟨k1, k2, k3⟩ := vx_keep (A1 := va_A ws H.size) h0 e1 hS (fun q _ h => hu q h) hu hL hF
    obtain ⟨t2, a1, b1⟩ := vx_out (Qc := Qc) (XC := pg_X D ws A nm) (free := A) (mc := MC) (ms := MS) (pc := pc) (ls := ls) (rest := rest) (E := E) (ce := ce) (q := q) (fun x hx => (hout x hx).elim) hlocks (by rw [e1]; exact hce) hcv hcl (fun t' ht' hal => ⟨hnm, by rw [ht', e1]; exact hP1, k3.F ht'⟩) (fun z hz => k3.2.2 z hz) hc hs T' rfl X'
    exact ⟨t2, st.trans a1, b1⟩
/-- .. or is caught here -/
theorem pg_cat {a : Array Value} (hr : vx_Run p l e R s m args below meth c H locs cells slots mc ms (F0 m pc ls st0) rest (pg_No a) (pg_X D ws (va_A ws H.size) nm) (va_A ws H.size)) (hD : va_D A ws) (hS : va_S A H0 H locs) (hA : ∀ q, H0.size ≤ q → A q)
    (kx : ∀ (ce : Cell) (q9 : Addr) (H : Heap) (locs : List Loc), va_P D vwCl ws H → va_S A H0 H locs → H[q9]? = some ce → ce.vm = .none → s.vm.findClass nm = some ce.cls → vx_W p l e R s m args below meth c H locs (cells + mc) (slots + ms) Q (F0 m pc ls rest) q9) : W p l e R s m args below meth c H locs cells slots Q (F0 m pc ls st0) := by
  intro T hT X
  have hu := pg_up hD hS hA
  rcases hr T hT X with ⟨v, st₀, t, T', L, h0, X', hL, e1, e2, hq, st⟩ | ⟨q, st₀, t, T', L, E, ce, h0, X', hL, e1, e2, ⟨hnm, hP1, hF⟩, hce, hcv, hcl, st⟩
  · exact hq.elim
  · subst hnm
    obtain ⟨k1, k2, k3⟩ := vx_keep (A1 := va_A ws H.size) h0 e1 hS (fun q _ h => hu q h) hu hL hF
    obtain ⟨t2, a1, b1⟩ := kx ce q T'.heap (locs ++ L) (by rw [e1]; exact hP1) k3 (by rw [e1]; exact hce) hcv hcl T' rfl X'
    exact ⟨t2, st.trans a1, b1⟩
/-- 'throw new nm(text)' in a method without handlers -/
theorem pg_thr {Qc : Array Value → State → Outcome → State → Prop} {ik is ic i MC MS : Nat} {text : String} (hexec : p.tables.exec = Jvm.exec) (hb : c.code = cc) (hl : l.stackTraces = false) (hown : s.vm.findClass RX4 = some m.cls) (hcls : Bundle.fit nm = true)
    (hk : (Cond.classLink RX4 ik nm).before args s = true) (hini : (Cond.initialized nm).before args s = true) (hi : pg_txt[i]? = some (is, text)) (h1 : ∀ w ∈ (vx_atS RX4 ic nm ["java/lang/RuntimeException", "java/lang/Exception"]).filter goodWord, w.before args s = true)
    (h2 : ∀ w ∈ (vx_atS RX4 ic nm ["java/lang/RuntimeException", "java/lang/Exception"]).filter (fun w => !goodWord w), w ∈ pg_nw)
    (hgood : ∀ w ∈ Cond.classLink RX4 ik nm :: Cond.initialized nm :: vx_atS RX4 ic nm ["java/lang/RuntimeException", "java/lang/Exception"], vx_ot w = true)
    (hE : pg_Env A s s.heap) (hP : va_P D vwCl ws H) (hS : va_S A s.heap H locs) (hA : ∀ q, s.heap.size ≤ q → A q) (hsize : ls.size = c.maxLocals)
    (d0 : decode cc pc = .ok (.new ik, 3)) (d3 : decode cc (pc + 3) = .ok (.dup, 1)) (d4 : decode cc (pc + 4) = .ok (.ldc is, 2)) (d6 : decode cc (pc + 6) = .ok (.invokespecial ic, 3)) (d9 : decode cc (pc + 9) = .ok (.athrow, 1))
    (hout : ∀ x ∈ c.exceptionTable.toList, False) (hRf : 5 < R.frames) (hRl : (rest.map fun v => v.category).sum + 82 ≤ R.locals) (hRc : cells + 1 ≤ R.cells) (hRs : slots + 6 ≤ R.slots) (hlocks : meth.locks = false) (hc : cells + 1 ≤ MC) (hs : slots + 6 ≤ MS) :
    W p l e R s m args below meth c H locs cells slots (vx_MQ below Qc (pg_X D ws A nm) args s MC MS A) (F0 m pc ls rest) := by
  obtain ⟨hU, hN, hca, -, f, hf⟩ := hE
  refine vx_throwS (own := RX4) (names := ["java/lang/RuntimeException", "java/lang/Exception"]) (ik := ik) (ic := ic) (text := text) (sa := f i) (A := A) hexec hb hl hown hcls (by decide +kernel) hk hini (hf i _ hi) (vx_hat h1 h2 (fun w hw => va_Nw.use ?_ (hca w hw))) hgood hU hN hS hsize d0 d3 d4 d6 d9 (fun x hx => (hout x hx).elim) hRf hRl hRc hRs hlocks (fun t hal hz hk => ?_) hS.2.2 hc hs
  · simp only [pg_nw, List.mem_cons, List.not_mem_nil, or_false] at hw
    rcases hw with rfl | rfl | rfl | rfl | rfl | rfl <;> rfl
  · exact ⟨rfl, hP.kept (fun k q hq => hk q.1 (hP k q hq).lt), Nat.le_trans hS.1 hz, fun q h1 h2 => (hk q (Nat.lt_of_lt_of_le h1 hS.1)).trans (hS.2.1 q h1 h2)⟩
end PGC
section PGA
variable {p : Program} {l : Launch} {e : Env} {R : Room} {s : State} {m : MethodId} {args : Array Value} {below : List Frame} {meth : Method} {c : Code} {H : Heap} {locs : List Loc} {cells slots : Nat} {Q : State → Prop}
variable {cc : ByteArray} {pc : Nat} {ls : Array Slot} {rest : List Value} {D : va_G} {cl : List vw_C} {A : Nat → Prop} {a : Nat} {tys : List (ClassId × FieldType)} {ws : va_W} {H0 : Heap}
theorem pg_ild (hexec : p.tables.exec = Jvm.exec) (hb : c.code = cc) (hK : va_K D cl tys s) (hP : va_P D cl ws H) (q0 t0 : Nat) {cA : ClassId} {n j : Nat} {f : Nat → Int32} (ha : ws[q0]? = some (a, .inl (cA, n, .inl f))) (ht : tys[t0]? = some (cA, .int)) (hj : j < n) (hn : n < 2 ^ 31) (hdg : decode cc pc = .ok (.iaload, 1))
    (kk : W p l e R s m args below meth c H locs cells slots Q (F0 m (pc + 1) ls (.int (f j) :: rest))) : W p l e R s m args below meth c H locs cells slots Q (F0 m pc ls (.int (nI j) :: .ref a :: rest)) :=
  va_iald hexec hb hK hP q0 t0 ha ht (vp_in_nI hj hn) hdg (by rw [nI_clamp (Nat.lt_trans hj hn)]; exact kk)
theorem pg_zld (hexec : p.tables.exec = Jvm.exec) (hb : c.code = cc) (hK : va_K D cl tys s) (hP : va_P D cl ws H) (q0 t0 : Nat) {cA : ClassId} {n j : Nat} {f : Nat → Int32} (ha : ws[q0]? = some (a, .inl (cA, n, .inl f))) (ht : tys[t0]? = some (cA, .boolean)) (hj : j < n) (hn : n < 2 ^ 31) (hdg : decode cc pc = .ok (.baload, 1))
    (kk : W p l e R s m args below meth c H locs cells slots Q (F0 m (pc + 1) ls (.int (f j) :: rest))) : W p l e R s m args below meth c H locs cells slots Q (F0 m pc ls (.int (nI j) :: .ref a :: rest)) :=
  va_zald hexec hb hK hP q0 t0 ha ht (vp_in_nI hj hn) hdg (by rw [nI_clamp (Nat.lt_trans hj hn)]; exact kk)
theorem pg_ist (hexec : p.tables.exec = Jvm.exec) (hb : c.code = cc) (hK : va_K D cl tys s) (hP : va_P D cl ws H) (hD : va_D A ws) (hS : va_S A H0 H locs) (q0 t0 : Nat) {cA : ClassId} {n j : Nat} {f : Nat → Int32} (ha : ws[q0]? = some (a, .inl (cA, n, .inl f))) (ht : tys[t0]? = some (cA, .int)) {x : Int32} (hj : j < n) (hn : n < 2 ^ 31) (hdg : decode cc pc = .ok (.iastore, 1))
    (kk : ∀ (H1 : Heap) (locs1 : List Loc), va_P D cl (ws.set q0 (a, .inl (cA, n, .inl (upd f j x)))) H1 → va_D A (ws.set q0 (a, .inl (cA, n, .inl (upd f j x)))) → va_S A H0 H1 locs1 → W p l e R s m args below meth c H1 locs1 cells slots Q (F0 m (pc + 1) ls rest)) : W p l e R s m args below meth c H locs cells slots Q (F0 m pc ls (.int x :: .int (nI j) :: .ref a :: rest)) :=
  va_iast hexec hb hK hP hD hS q0 t0 ha ht (vp_in_nI hj hn) hdg (by rw [nI_clamp (Nat.lt_trans hj hn)]; exact kk)
theorem pg_zst (hexec : p.tables.exec = Jvm.exec) (hb : c.code = cc) (hK : va_K D cl tys s) (hP : va_P D cl ws H) (hD : va_D A ws) (hS : va_S A H0 H locs) (q0 t0 : Nat) {cA : ClassId} {n j : Nat} {f : Nat → Int32} (ha : ws[q0]? = some (a, .inl (cA, n, .inl f))) (ht : tys[t0]? = some (cA, .boolean)) {x : Int32} (hj : j < n) (hn : n < 2 ^ 31) (hx : vp_nar .boolean x = x) (hdg : decode cc pc = .ok (.bastore, 1))
    (kk : ∀ (H1 : Heap) (locs1 : List Loc), va_P D cl (ws.set q0 (a, .inl (cA, n, .inl (upd f j x)))) H1 → va_D A (ws.set q0 (a, .inl (cA, n, .inl (upd f j x)))) → va_S A H0 H1 locs1 → W p l e R s m args below meth c H1 locs1 cells slots Q (F0 m (pc + 1) ls rest)) : W p l e R s m args below meth c H locs cells slots Q (F0 m pc ls (.int x :: .int (nI j) :: .ref a :: rest)) :=
  va_zast hexec hb hK hP hD hS q0 t0 ha ht (vp_in_nI hj hn) hdg (by rw [nI_clamp (Nat.lt_trans hj hn), hx]; exact kk)
end PGA
