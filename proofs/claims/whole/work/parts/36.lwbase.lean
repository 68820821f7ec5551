def R_law : String := "PegBoxLaw"
def lw_P (b : Addr) (xs : List Int32) (args : Array Value) (s : State) : Prop := args = #[.ref b] ∧ s.IntsAt b xs ∧ xs.length ≤ 3584 ∧ (Jvm.Cond.and given_1 narrow_1).before args s = true
def lw_Q (_ : Array Value) (s : State) (o : Outcome) (t : State) : Prop := o = .returned (some (.int 1)) ∧ Framed s o t [] 1072 8564
def lw_Z (below : List Frame) (a : Array Value) (s : State) : State → Prop := fun t => ∃ o, t.status = .running ∧ Ended t below o ∧ lw_Q a s o t
/-- the law's own end, with 1 on the stack, nothing written that was there before, its room as the claim has it -/
theorem lw_ret {p : Program} {l : Launch} {e : Env} {s : State} {m : MethodId} {below : List Frame} {meth : Method} {c : Code} {b : Nat} (hx : p.tables.exec = Jvm.exec) (hb : c.code = code) (hr : meth.sig.returnType = ret) (hlocks : meth.locks = false) {pc : Nat} {H : Heap} {ls : Array Slot} (hdg : decode code pc = .ok (.ireturn, 1)) : W p l e room_1 s m #[Value.ref b] below meth c H [] 1072 8564 (lw_Z below #[Value.ref b] s) (F0 m pc ls [.int 1]) := by
  intro T hT X
  obtain ⟨fs, hret, hrun, hended, hW, hframe⟩ := X.leave (v := some (.int 1)) (hlocks := hlocks) (fun h => by rw [hr] at h; cases h)
  have hmeth' : T.vm.method? m = some meth := X.method'
  refine ⟨T.setFrames fs, ?_, .returned (some (.int 1)), hrun, hended, rfl, ⟨_, rfl⟩, hW, hframe⟩
  jvm_step X.here [X.here.top, hx, hb, hdg, hmeth', hr, ret, narrow_b1]
  (try refine ⟨rfl, ?_⟩); (try refine ⟨rfl, ?_⟩)
  first | (intro acts; rw [hret _ acts rfl rfl rfl]) | rw [hret _ _ rfl rfl rfl]
  exact Steps.refl _
/-- what holds at the law's entry: the machine, the code, the tables' words (any of lw_tbl by 'hts w (by decide +kernel)'), the script of L ints xs at the cell b, what the Statement gives of the start (any of its parts by flat_of_before) -/
def lw_At (p : Program) (s : State) (m : MethodId) (meth : Method) (c : Code) (b L : Nat) (xs : Nat → Int32) : Prop :=
  p.tables.exec = Jvm.exec ∧ c.code = code ∧ meth.sig.returnType = ret ∧ c.maxLocals = 7 ∧ s.vm.findClass R_law = some m.cls ∧ (∀ w ∈ lw_tbl, w.before #[Value.ref b] s = true) ∧ va_X b L xs s s.heap ∧ b < s.heap.size ∧ meth.locks = false ∧ (Jvm.Cond.and given_1 narrow_1).before #[Value.ref b] s = true
set_option maxHeartbeats 4000000 in
set_option maxRecDepth 100000 in
/-- cm_advance: not fine -/
theorem cm_advance_no2 (l : Launch) (D : va_G) (cI cZ : ClassId) (a : Nat → Nat) (sz : Nat) (u : pg_St) (n : Nat) (hn : u.1 10 = nI n) (h20 : n ≤ 20) (x : Int32) (e9 : Int32) (hthr : pg_t_advance (!pg_eq (u.1 14) 0) (u.1 3) x = e9) (h0 : e9 ≠ 0) : Met l yX5_advance wsX5_advance ({ frames := 1, cells := 0, slots := 0, locals := 22 }) (va_Pc [.ref (a 0), .int x] (pg_B D (pg_ty cI cZ) (pg_wM cI cZ a u) sz)) (va_Qi (fun r u' => r = 0 ∧ u' = (upd u.1 15 e9, u.2)) (pg_E D (pg_ty cI cZ) (va_A (pg_wM cI cZ a u) sz) (pg_wM cI cZ a)) (va_A (pg_wM cI cZ a u) sz)) 0 0 (va_A (pg_wM cI cZ a u) sz) := by
  refine Met.ofW (cc := cX5_advance) (maxL := 3) (ret := (some .int)) (by decide) rfl ?_
  intro p e s m args below meth c s₁ B hml hv
  obtain ⟨rfl, hsz, hP, hK, hD0⟩ := hv
  have hx := B.exec
  have hb := B.bytes
  have hr := B.returns
  have hts := atoms_spec (ws := wsX5_advance) B.pre
  have hown : s.vm.findClass RX5 = some m.cls := findClass_of_methodNamed B.named
  have hlocks := B.notSynchronized
  subst hsz
  have hD := hD0.self (sz := s.heap.size)
  generalize hAe : va_A (pg_wM cI cZ a u) s.heap.size = A at hD ⊢
  have hA : ∀ q : Nat, s.heap.size ≤ q → A q := fun q h => by rw [← hAe]; exact Or.inr h
  have hS : va_S A s.heap s.heap [] := va_S.rf
  have hl := lv_entry ([.ref (a 0), .int x]) (n := 3) (Nat.le_of_ble_eq_true rfl)
  rw [lg_entry_eq]
  generalize (lg_sl ([.ref (a 0), .int x]) ++ List.replicate (3 - (lg_sl ([.ref (a 0), .int x])).length) Slot.unset).toArray = ls at hl ⊢
  have hl : lv_has ls 3 [(0, .ref (a 0)), (1, .int x)] := hl
  have hiX5 : ∀ w ∈ wsX50, w ∈ wsX5_advance := fun _ h => List.mem_cons_of_mem _ (List.mem_append_right _ (h))
  have hw1 := hts (.fieldLink RX5 66 "PegBoxModel" "closed" "Z") (List.mem_of_getElem? (i := 1) rfl)
  have hw2 := hts (.fieldLink RX5 96 "PegBoxModel" "day" "I") (List.mem_of_getElem? (i := 2) rfl)
  refine lv_aload_n hx hb dX5_advance_0 rfl (lv_at hl 0 rfl) ?_
  refine lv_iload_n hx hb dX5_advance_1 rfl (lv_at hl 1 rfl) ?_
  refine lv_iconst (v := 1) hx hb dX5_advance_2 (by decide) ?_
  refine lv_sipush (v := 400) hx hb dX5_advance_3 (by decide) ?_
  rcases Bool.eq_false_or_eq_true (pg_in x 1 400) with c_6 | c_6
  · refine pg_iE (pg_rS (As := [.int x, .int 1, .int 400]) (rest := [.ref (a 0)]) ⟨hx, hb, hml, hown, hts⟩ (cm_in_t l D (pg_ty cI cZ) (pg_wM cI cZ a u) s.heap.size x 1 400 c_6) (va_cwS 3 hts gX5_advance_X5_in rfl rfl rfl (by decide +kernel) ⟨Nat.le_of_ble_eq_true rfl, Nat.le_of_ble_eq_true rfl⟩) hK hP hD rfl hl.1 rfl (Nat.le_of_ble_eq_true rfl) dX5_advance_6 ⟨Nat.le_of_ble_eq_true rfl, Nat.le_of_ble_eq_true rfl⟩) hD hS hA (fun H locs hP hD hS => ?_)
    obtain ⟨dn, hd1, hd4, hxd⟩ := pg_days c_6
    rw [hxd] at hl hthr c_6
    refine lv_if_ne (tgt := 16) hx hb dX5_advance_9 (by decide) (fun c_9 => ?_) (fun c_9 => absurd c_9 (by decide))
    refine lv_aload_n hx hb dX5_advance_16 rfl (lv_at hl 0 rfl) ?_
    refine va_get (D := D) (ci := 5) (v := .int (u.1 14)) (C := RX5) (T := TX5) (N := 31) hx hb hts hiX5 hown hK hP 0 rfl rfl 13 (by decide) hw1 (fun _ h9 => h9) rfl dX5_advance_17 ?_
    refine lv_if_eq (tgt := 35) hx hb dX5_advance_20 (by decide) (fun c_20 => ?_) (fun c_20 => ?_)
    · have d_20 := pg_eq_t c_20
      refine lv_iconst (v := 2) hx hb dX5_advance_35 (by decide) ?_
      refine lv_goto (tgt := 40) hx hb dX5_advance_36 (by decide) ?_
      have he : e9 = 2 := hthr.symm.trans (by simp only [pg_t_advance, c_6, d_20, cond_true, cond_false, Bool.not_true, Bool.not_false])
      refine pg_iE (pg_rV (As := [.int 2]) (rest := []) ⟨hx, hb, hml, hown, hts⟩ (cm_fine1 l D cI cZ a H.size u 2 (by decide)) (cwV 1 hts gX5_advance_X5_isFine rfl rfl rfl (by decide +kernel) ⟨Nat.le_of_ble_eq_true rfl, Nat.le_of_ble_eq_true rfl⟩) hK hP hD 0 (ci := 5) rfl rfl rfl rfl hl.1 rfl (Nat.le_of_ble_eq_true rfl) dX5_advance_40 ⟨Nat.le_of_ble_eq_true rfl, Nat.le_of_ble_eq_true rfl⟩) hD hS hA (fun H locs hP hD hS => ?_)
      refine lv_if_ne (tgt := 48) hx hb dX5_advance_43 (by decide) (fun c_43 => absurd (by decide) c_43) (fun c_43 => ?_)
      refine lv_iconst (v := 0) hx hb dX5_advance_46 (by decide) ?_
      exact W.iret (v := 0) hx hb hr (fun t9 ht9 hW9 => ⟨⟨0, ((upd u.1 15 2), u.2), rfl, ⟨rfl, by rw [he]⟩, by rw [ht9]; exact hP, va_K.moved hW9.alike hK, hD⟩, hS.F ht9⟩) hS.2.2 dX5_advance_47
    · have d_20 := pg_eq_f c_20
      refine lv_aload_n hx hb dX5_advance_23 rfl (lv_at hl 0 rfl) ?_
      refine va_get (D := D) (ci := 5) (v := .int (u.1 3)) (C := RX5) (T := TX5) (N := 31) hx hb hts hiX5 hown hK hP 0 rfl rfl 14 (by decide) hw2 (fun _ h9 => h9) rfl dX5_advance_24 ?_
      refine lv_iload_n hx hb dX5_advance_27 rfl (lv_at hl 1 rfl) ?_
      refine lv_iadd hx hb dX5_advance_28 ?_
      refine lv_sipush (v := 4000) hx hb dX5_advance_29 (by decide) ?_
      refine lv_icmp_le (tgt := 39) hx hb dX5_advance_32 (by decide) (fun c_32 => ?_) (fun c_32 => ?_)
      · have d_32 := pg_le_t c_32
        refine lv_iconst (v := 0) hx hb dX5_advance_39 (by decide) ?_
        exact absurd (hthr.symm.trans (by simp only [pg_t_advance, c_6, d_20, d_32, cond_true, cond_false, Bool.not_true, Bool.not_false])) h0
      · have d_32 := pg_le_f c_32
        refine lv_iconst (v := 2) hx hb dX5_advance_35 (by decide) ?_
        refine lv_goto (tgt := 40) hx hb dX5_advance_36 (by decide) ?_
        have he : e9 = 2 := hthr.symm.trans (by simp only [pg_t_advance, c_6, d_20, d_32, cond_true, cond_false, Bool.not_true, Bool.not_false])
        refine pg_iE (pg_rV (As := [.int 2]) (rest := []) ⟨hx, hb, hml, hown, hts⟩ (cm_fine1 l D cI cZ a H.size u 2 (by decide)) (cwV 1 hts gX5_advance_X5_isFine rfl rfl rfl (by decide +kernel) ⟨Nat.le_of_ble_eq_true rfl, Nat.le_of_ble_eq_true rfl⟩) hK hP hD 0 (ci := 5) rfl rfl rfl rfl hl.1 rfl (Nat.le_of_ble_eq_true rfl) dX5_advance_40 ⟨Nat.le_of_ble_eq_true rfl, Nat.le_of_ble_eq_true rfl⟩) hD hS hA (fun H locs hP hD hS => ?_)
        refine lv_if_ne (tgt := 48) hx hb dX5_advance_43 (by decide) (fun c_43 => absurd (by decide) c_43) (fun c_43 => ?_)
        refine lv_iconst (v := 0) hx hb dX5_advance_46 (by decide) ?_
        exact W.iret (v := 0) hx hb hr (fun t9 ht9 hW9 => ⟨⟨0, ((upd u.1 15 2), u.2), rfl, ⟨rfl, by rw [he]⟩, by rw [ht9]; exact hP, va_K.moved hW9.alike hK, hD⟩, hS.F ht9⟩) hS.2.2 dX5_advance_47
  · refine pg_iE (pg_rS (As := [.int x, .int 1, .int 400]) (rest := [.ref (a 0)]) ⟨hx, hb, hml, hown, hts⟩ (cm_in_f l D (pg_ty cI cZ) (pg_wM cI cZ a u) s.heap.size x 1 400 c_6) (va_cwS 3 hts gX5_advance_X5_in rfl rfl rfl (by decide +kernel) ⟨Nat.le_of_ble_eq_true rfl, Nat.le_of_ble_eq_true rfl⟩) hK hP hD rfl hl.1 rfl (Nat.le_of_ble_eq_true rfl) dX5_advance_6 ⟨Nat.le_of_ble_eq_true rfl, Nat.le_of_ble_eq_true rfl⟩) hD hS hA (fun H locs hP hD hS => ?_)
    refine lv_if_ne (tgt := 16) hx hb dX5_advance_9 (by decide) (fun c_9 => absurd (by decide) c_9) (fun c_9 => ?_)
    refine lv_iconst (v := 1) hx hb dX5_advance_12 (by decide) ?_
    refine lv_goto (tgt := 40) hx hb dX5_advance_13 (by decide) ?_
    have he : e9 = 1 := hthr.symm.trans (by simp only [pg_t_advance, c_6, cond_true, cond_false, Bool.not_true, Bool.not_false])
    refine pg_iE (pg_rV (As := [.int 1]) (rest := []) ⟨hx, hb, hml, hown, hts⟩ (cm_fine1 l D cI cZ a H.size u 1 (by decide)) (cwV 1 hts gX5_advance_X5_isFine rfl rfl rfl (by decide +kernel) ⟨Nat.le_of_ble_eq_true rfl, Nat.le_of_ble_eq_true rfl⟩) hK hP hD 0 (ci := 5) rfl rfl rfl rfl hl.1 rfl (Nat.le_of_ble_eq_true rfl) dX5_advance_40 ⟨Nat.le_of_ble_eq_true rfl, Nat.le_of_ble_eq_true rfl⟩) hD hS hA (fun H locs hP hD hS => ?_)
    refine lv_if_ne (tgt := 48) hx hb dX5_advance_43 (by decide) (fun c_43 => absurd (by decide) c_43) (fun c_43 => ?_)
    refine lv_iconst (v := 0) hx hb dX5_advance_46 (by decide) ?_
    exact W.iret (v := 0) hx hb hr (fun t9 ht9 hW9 => ⟨⟨0, ((upd u.1 15 1), u.2), rfl, ⟨rfl, by rw [he]⟩, by rw [ht9]; exact hP, va_K.moved hW9.alike hK, hD⟩, hS.F ht9⟩) hS.2.2 dX5_advance_47
/-! the law's own rows -/
abbrev lw_W (cI cZ cL : ClassId) (a a' : Nat → Nat) (o : Nat) (u w : pg_St) (f : Nat → Int64) : va_W := (pg_wB cI cZ a u ++ [(o, .inl (cL, 1, .inr (.inl f)))]) ++ pg_wM cI cZ a' w
theorem pg_asP {D : va_G} {X Y Z : va_W} {H : Heap} (h : va_P D vwCl ((X ++ Y) ++ Z) H) : va_P D vwCl (X ++ (Y ++ Z)) H := by rw [← List.append_assoc]; exact h
theorem pg_asP2 {D : va_G} {X Y Z : va_W} {H : Heap} (h : va_P D vwCl (X ++ (Y ++ Z)) H) : va_P D vwCl ((X ++ Y) ++ Z) H := by rw [List.append_assoc]; exact h
theorem pg_asD {A : Nat → Prop} {X Y Z : va_W} (h : va_D A ((X ++ Y) ++ Z)) : va_D A (X ++ (Y ++ Z)) := by rw [← List.append_assoc]; exact h
theorem pg_asD2 {A : Nat → Prop} {X Y Z : va_W} (h : va_D A (X ++ (Y ++ Z))) : va_D A ((X ++ Y) ++ Z) := by rw [List.append_assoc]; exact h
theorem pg_updL0 (f : Nat → Int64) (v : Int64) : vp_updL f 0 v (0 : Int32).toNatClampNeg = v := by rw [show (0 : Int32).toNatClampNeg = 0 by decide]; exact if_pos rfl
theorem pg_dayE {u w : pg_St} {n t : Nat} (h : pg_Rel u w n t) : u.1 3 = (if w.1 14 = 0 then -1 else w.1 3) := by
  rcases h.2.1 with ⟨h1, h2, -⟩ | ⟨h1, h2, -⟩
  · rw [if_pos h1]; exact h2
  · rw [if_neg (by rw [h1]; decide)]; exact h2
theorem pg_finE {u w : pg_St} {n t : Nat} (h : pg_Rel u w n t) : u.1 4 = (if w.1 14 = 0 then -1 else w.1 4) := by
  rcases h.2.1 with ⟨h1, -, h2, -⟩ | ⟨h1, -, h2, -⟩
  · rw [if_pos h1]; exact h2
  · rw [if_neg (by rw [h1]; decide)]; exact h2
theorem pg_Inv0 : pg_Inv (upd (upd (fun _ => 0) 3 (-1)) 4 (-1), fun _ _ => 0) (fun _ => 0, fun _ _ => 0) := by
  refine ⟨0, 0, ⟨fun k hk => ?_, fun _ _ => rfl⟩, Or.inl ⟨rfl, rfl, rfl, rfl, rfl, rfl⟩, ⟨rfl, by decide, rfl, by decide⟩, ⟨rfl, rfl, fun _ _ => Or.inl rfl, fun _ _ _ _ => rfl⟩, fun _ _ => pg_bd0, fun _ _ => pg_bd0⟩
  show upd (upd (fun _ => 0) 3 (-1)) 4 (-1) k = 0
  rw [pg_updn _ _ (by omega), pg_updn _ _ (by omega)]
theorem pg_gt {L j : Nat} (hL : L ≤ 3584) (hj : j ≤ 4000) : nI L - 7 < nI j ↔ L < j + 7 := by
  show nI L - nI 7 < nI j ↔ _
  rw [Int32.lt_iff_toInt_lt, pk_sub_toInt (by omega) (by decide), nI_toInt (by omega)]; omega
section PGW
variable {p : Program} {l : Launch} {e : Env} {R : Room} {s : State} {m : MethodId} {args : Array Value} {below : List Frame} {meth : Method} {c : Code} {H : Heap} {locs : List Loc} {cells slots : Nat} {Q : State → Prop}
variable {y : MethodName} {bytes cc : ByteArray} {maxL nL n index mc ms : Nat} {ret : Option FieldType} {hh : List (Nat × Nat × Nat × Nat)} {wy : List Cond} {rm : Room} {Ts : List Cond} {own : String} {As rest st0 : List Value}
variable {D : va_G} {tys : List (ClassId × FieldType)} {ws : va_W} {A : Nat → Prop} {H0 : Heap} {pc : Nat} {ls : Array Slot}
theorem pg_rSW {Qc : Array Value → State → Outcome → State → Prop} {free : Addr → Prop} (S : CallFix p m c cc nL s args Ts own) (hM : Met l y wy rm (va_Pc As (pg_B D tys ws H.size)) Qc mc ms free) (cw : vx_CSW R s args own index y bytes maxL ret hh wy rm mc ms n) (hK : va_K D vwCl tys s) (hP : va_P D vwCl ws H) (hD : va_D A ws)
    (hn : As.length = n) (hsize : ls.size = nL) (hst : st0 = As.reverse ++ rest) (hW : (rest.map fun v => v.category).sum ≤ 8) (hdg : decode cc pc = .ok (.invokestatic index, 3)) (hf : cells + mc ≤ R.cells ∧ slots + ms ≤ R.slots) :
    va_Run p l e R s m args below meth c H locs cells slots mc ms (F0 m pc ls st0) rest (Qc As.toArray) free :=
  vx_runSW S hM cw ⟨pg_B.blind, fun U hU hW => ⟨rfl, pg_pre hP hD hK hU hW⟩⟩ rfl hn hsize hst (lv_room hW) hdg hf
theorem pg_rSWT {Qc : Array Value → State → Outcome → State → Prop} {free : Addr → Prop} (S : CallFix p m c cc nL s args Ts own) (hM : Met l y wy rm (va_Pc As (pg_T D tys ws H.size)) Qc mc ms free) (cw : vx_CSW R s args own index y bytes maxL ret hh wy rm mc ms n) (hK : va_K D vwCl tys s) (hP : va_P D vwCl ws H) (hD : va_D A ws) (hS : va_S A s.heap H locs) (hA : ∀ q, s.heap.size ≤ q → A q) (hE : pg_Env A s s.heap)
    (hn : As.length = n) (hsize : ls.size = nL) (hst : st0 = As.reverse ++ rest) (hW : (rest.map fun v => v.category).sum ≤ 8) (hdg : decode cc pc = .ok (.invokestatic index, 3)) (hf : cells + mc ≤ R.cells ∧ slots + ms ≤ R.slots) :
    va_Run p l e R s m args below meth c H locs cells slots mc ms (F0 m pc ls st0) rest (Qc As.toArray) free :=
  vx_runSW S hM cw ⟨pg_T.blind, fun U hU hW => ⟨rfl, pg_preT hP hD hS hA hE hK hU hW⟩⟩ rfl hn hsize hst (lv_room hW) hdg hf
theorem pg_iaddN (hexec : p.tables.exec = Jvm.exec) (hb : c.code = cc) {k j : Nat} {y : Int32} (hy : y = nI j) (hdg : decode cc pc = .ok (.iadd, 1))
    (kk : W p l e R s m args below meth c H locs cells slots Q (F0 m (pc + 1) ls (.int (nI (k + j)) :: rest))) : W p l e R s m args below meth c H locs cells slots Q (F0 m pc ls (.int y :: .int (nI k) :: rest)) := by
  subst hy
  exact lv_iadd hexec hb hdg (by rw [nI_add]; exact kk)
theorem pg_sld (hexec : p.tables.exec = Jvm.exec) (hb : c.code = cc) {b L : Nat} {xs : Nat → Int32} (hX : va_X b L xs s H0) (hbl : b < H0.size) (hbA : ¬ A b) (hS : va_S A H0 H locs) {j : Nat} (hj : j < L) (hL : L ≤ 3584) (hdg : decode cc pc = .ok (.iaload, 1))
    (kk : W p l e R s m args below meth c H locs cells slots Q (F0 m (pc + 1) ls (.int (xs j) :: rest))) : W p l e R s m args below meth c H locs cells slots Q (F0 m pc ls (.int (nI j) :: .ref b :: rest)) :=
  va_sld hexec hb hX hbl hbA hS (vp_in_nI hj (by omega)) hdg (by rw [nI_clamp (by omega)]; exact kk)
theorem pg_lcmpE (hexec : p.tables.exec = Jvm.exec) (hb : c.code = cc) {x y : Int64} (hxy : x = y) (hdg : decode cc pc = .ok (.lcmp, 1))
    (kk : W p l e R s m args below meth c H locs cells slots Q (F0 m (pc + 1) ls (.int 0 :: rest))) : W p l e R s m args below meth c H locs cells slots Q (F0 m pc ls (.long y :: .long x :: rest)) := by
  subst hxy
  exact W.lcmp hexec hb hdg (by rw [show lg_cmp x x = 0 by simp [lg_cmp]]; exact kk)
end PGW
